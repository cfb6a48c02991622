/-! the boy's means on both sides -/
theorem x_askByRule {st : Sg} {F W N V : Nat → Int32} {nc lp np : Nat} (h : RuX st F W N V nc lp) (hp : 0 < np) (hnp : np ≤ 5) : ∃ st', X4_askByRule (nI np) st = some st' ∧ FL AI [] st st' ∧ ∀ d, d < 6 → ∀ n, n < 13 → st'.1 (35 + d) n = nI (askP F W N V nc lp np d n) := by
  obtain ⟨t, ⟨h1, h2⟩, he⟩ := loopU (L := fun k v (t : Sg) => X4_askByRule_2 (nI np) k v t) (E := fun t => X4_askByRule_47 t) (fun i (t : Sg) => FL AI [] st t ∧ ∀ d, d < i → ∀ n, n < 13 → t.1 (35 + d) n = nI (askP F W N V nc lp np d n)) 6
    (fun k d t hd ⟨a1, a2⟩ => by
      obtain ⟨u, ⟨c1, c2⟩, ce⟩ := loopU (L := fun k2 v (u : Sg) => X4_askByRule_11 (X4_askByRule_2 (nI np) k) (nI np) (nI d) k2 v u) (E := fun u => X4_askByRule_41 (X4_askByRule_2 (nI np) k) (nI np) (nI d) u) (fun i (u : Sg) => FL [35 + d] [] t u ∧ ∀ n, n < i → u.1 (35 + d) n = nI (askP F W N V nc lp np d n)) 13
        (fun k2 i u hi ⟨b1, b2⟩ => by
          have hu : RuX u F W N V nc lp := h.keep (fun o p1 p2 => by rw [b1.1 o (by simp; omega), a1.1 o (by simp [AI]; omega)])
          refine ⟨sI u (35 + d) i (nI (askP F W N V nc lp np d i)), ⟨b1.tr (sI_fl (by simp)), fun n hn => ?_⟩, ?_⟩
          · rw [sI_at]
            by_cases c : n = i
            · subst c; rw [if_pos ⟨rfl, rfl⟩]
            · rw [if_neg (by omega)]; exact b2 n (by omega)
          · show X4_askByRule_11b (X4_askByRule_2 (nI np) k) (X4_askByRule_11 (X4_askByRule_2 (nI np) k) (nI np) (nI d) k2) (nI np) (nI d) (nI i) u = _
            unfold X4_askByRule_11b
            rw [if_neg (gt12 hi), cx6 hd, x_number hu hp hnp, bnd1_some, cx13 hi, nm_eq, nm_eq, clI (by omega), clI (by omega), nI_1])
        (fun k2 u _ => by
          show X4_askByRule_11b (X4_askByRule_2 (nI np) k) (X4_askByRule_11 (X4_askByRule_2 (nI np) k) (nI np) (nI d) k2) (nI np) (nI d) (nI 13) u = _
          unfold X4_askByRule_11b
          rw [if_pos gt12'])
        13 0 FU t rfl (FU_gt (by decide)) ⟨FL.rf, fun n hn => by omega⟩
      refine ⟨u, ⟨a1.tr (c1.up (by simp [AI]; omega) (by simp)), fun d' hd' n hn => ?_⟩, ?_⟩
      · by_cases c : d' = d
        · subst c; exact c2 n hn
        · rw [c1.1 (35 + d') (by simp; omega)]; exact a2 d' (by omega) n hn
      · show X4_askByRule_2b (X4_askByRule_2 (nI np) k) (nI np) (nI d) t = _
        unfold X4_askByRule_2b
        rw [if_neg (show ¬ (6 : Int32) ≤ nI d from nI_ge (b := 6) hd (by decide)), show (0 : Int32) = nI 0 from rfl]
        refine ce.trans ?_
        show X4_askByRule_41 (X4_askByRule_2 (nI np) k) (nI np) (nI d) u = _
        unfold X4_askByRule_41
        rw [nm_eq, nI_1])
    (fun k t _ => by
      show X4_askByRule_2b (X4_askByRule_2 (nI np) k) (nI np) (nI 6) t = _
      unfold X4_askByRule_2b
      rw [if_pos (by decide)])
    6 0 FU st rfl (FU_gt (by decide)) ⟨FL.rf, fun f hf => by omega⟩
  refine ⟨t, ?_, h1, h2⟩
  unfold X4_askByRule
  rw [show (0 : Int32) = nI 0 from rfl]
  exact he
theorem x_findBoy {st : Sg} {q : Nat → Nat → Int32} {C D re np ns : Nat} {F W N V : Nat → Int32} {nc lp : Nat} (hok : Okd q C D re np ns) (hV : VX st q C D re np ns) (hp : 0 < np) (h : RuX st F W N V nc lp) : ∃ st', X7_findBoy st = some st' ∧ (∀ o, ¬ (35 ≤ o ∧ o < 41) → st'.1 o = st.1 o) ∧ (∀ o, ¬ (27 ≤ o ∧ o < 42) → st'.2 o = st.2 o) ∧ ∀ n, n < 13 → st'.2 27 n = TV q D re ns (askP F W N V nc lp np) D n := by
  obtain ⟨o1, o2, o3, o4, o5, o6, o7⟩ := id hok
  obtain ⟨s1, a1, a2, a3⟩ := x_askByRule h hp o5
  have hV1 : VX s1 q C D re np ns := hV.keep (fun o h1 h2 => a2.1 o (by simp [AI]; omega))
  obtain ⟨s2, b1, b2, b3⟩ := x_fillAsked (P := askP F W N V nc lp np) hok hV1 (fun d hd n hn => ⟨a3 d (by omega) n hn, askP_lt hp⟩)
  refine ⟨s2, ?_, fun o ho => ?_, fun o ho => ?_, fun n hn => ?_⟩
  · unfold X7_findBoy
    rw [hV.2.2.2.1, a1, bnd1_some, b1, bnd1_some]
  · rw [b2.1 o (by omega), a2.1 o (by simp [AI]; omega)]
  · rw [b2.2 o (by omega), a2.2 o (by simp)]
  · have := b3 0 (by omega) n hn
    exact this
theorem m_by6 {st : Sg} : ∃ st', X8_findBoy_6 FU 0 st = X8_findBoy_30 st' ∧ FL [] [19] st st' ∧ ∀ n, n < 13 → st'.2 19 n = st.2 7 n := by
  obtain ⟨t, ⟨h1, h2⟩, he⟩ := loopU (L := fun k v (t : Sg) => X8_findBoy_6 k v t) (E := fun t => X8_findBoy_30 t) (fun i (t : Sg) => FL [] [19] st t ∧ ∀ n, n < i → t.2 19 n = st.2 7 n) 13
    (fun k i t hi ⟨a1, a2⟩ => by
      refine ⟨sJ t 19 i (st.2 7 i), ⟨a1.tr (sJ_fl (by decide)), fun n hn => ?_⟩, ?_⟩
      · rw [sJ_at]
        by_cases c : n = i
        · subst c; rw [if_pos ⟨rfl, rfl⟩]
        · rw [if_neg (by omega)]; exact a2 n (by omega)
      · show X8_findBoy_6b (X8_findBoy_6 k) (nI i) t = _
        unfold X8_findBoy_6b
        rw [if_neg (gt12 hi), cx13 hi, cx13 hi, nm_eq, nm_eq, clI (by omega), nI_1, a1.2 7 (by decide)])
    (fun k t _ => by
      show X8_findBoy_6b (X8_findBoy_6 k) (nI 13) t = _
      unfold X8_findBoy_6b
      rw [if_pos gt12'])
    13 0 FU st rfl (FU_gt (by decide)) ⟨FL.rf, fun n hn => by omega⟩
  refine ⟨t, ?_, h1, h2⟩
  rw [show (0 : Int32) = nI 0 from rfl]
  exact he
theorem m_by66 {st : Sg} {d p : Nat} (rc : Int64 → Int32 → Sg → Option Sg) (rc2 : Int32 → Sg → Option Sg) (x : Int64) : ∃ st', X8_findBoy_66 rc rc2 x (nI d) (nI p) FU 0 st = X8_findBoy_93 rc rc2 x (nI d) (nI p) st' ∧ FL [] [7] st st' ∧ (∀ n, n < 13 → st'.2 7 n = st.2 19 n) := by
  obtain ⟨t, ⟨h1, h2⟩, he⟩ := loopU (L := fun k v (t : Sg) => X8_findBoy_66 rc rc2 x (nI d) (nI p) k v t) (E := fun t => X8_findBoy_93 rc rc2 x (nI d) (nI p) t) (fun i (t : Sg) => FL [] [7] st t ∧ ∀ n, n < i → t.2 7 n = st.2 19 n) 13
    (fun k i t hi ⟨a1, a2⟩ => by
      refine ⟨sJ t 7 i (st.2 19 i), ⟨a1.tr (sJ_fl (by decide)), fun n hn => ?_⟩, ?_⟩
      · rw [sJ_at]
        by_cases c : n = i
        · subst c; rw [if_pos ⟨rfl, rfl⟩]
        · rw [if_neg (by omega)]; exact a2 n (by omega)
      · show X8_findBoy_66b rc rc2 (X8_findBoy_66 rc rc2 x (nI d) (nI p) k) x (nI d) (nI p) (nI i) t = _
        unfold X8_findBoy_66b
        rw [if_neg (gt12 hi), cx13 hi, cx13 hi, nm_eq, nm_eq, clI (by omega), nI_1, a1.2 19 (by decide)])
    (fun k t _ => by
      show X8_findBoy_66b rc rc2 (X8_findBoy_66 rc rc2 x (nI d) (nI p) k) x (nI d) (nI p) (nI 13) t = _
      unfold X8_findBoy_66b
      rw [if_pos gt12'])
    13 0 FU st rfl (FU_gt (by decide)) ⟨FL.rf, fun n hn => by omega⟩
  refine ⟨t, ?_, h1, h2⟩
  rw [show (0 : Int32) = nI 0 from rfl]
  exact he
theorem m_by166 {st : Sg} {d : Nat} (rc : Int64 → Int32 → Sg → Option Sg) : ∃ st', X8_findBoy_166 rc (nI d) FU 0 st = X8_findBoy_193 rc (nI d) st' ∧ FL [] [19] st st' ∧ (∀ n, n < 13 → st'.2 19 n = st.2 20 n) := by
  obtain ⟨t, ⟨h1, h2⟩, he⟩ := loopU (L := fun k v (t : Sg) => X8_findBoy_166 rc (nI d) k v t) (E := fun t => X8_findBoy_193 rc (nI d) t) (fun i (t : Sg) => FL [] [19] st t ∧ ∀ n, n < i → t.2 19 n = st.2 20 n) 13
    (fun k i t hi ⟨a1, a2⟩ => by
      refine ⟨sJ t 19 i (st.2 20 i), ⟨a1.tr (sJ_fl (by decide)), fun n hn => ?_⟩, ?_⟩
      · rw [sJ_at]
        by_cases c : n = i
        · subst c; rw [if_pos ⟨rfl, rfl⟩]
        · rw [if_neg (by omega)]; exact a2 n (by omega)
      · show X8_findBoy_166b rc (X8_findBoy_166 rc (nI d) k) (nI d) (nI i) t = _
        unfold X8_findBoy_166b
        rw [if_neg (gt12 hi), cx13 hi, cx13 hi, nm_eq, nm_eq, clI (by omega), nI_1, a1.2 20 (by decide)])
    (fun k t _ => by
      show X8_findBoy_166b rc (X8_findBoy_166 rc (nI d) k) (nI d) (nI 13) t = _
      unfold X8_findBoy_166b
      rw [if_pos gt12'])
    13 0 FU st rfl (FU_gt (by decide)) ⟨FL.rf, fun n hn => by omega⟩
  refine ⟨t, ?_, h1, h2⟩
  rw [show (0 : Int32) = nI 0 from rfl]
  exact he
theorem m_by108 {st : Sg} {d p : Nat} {P : Nat → Nat → Nat} (hP : ∀ (t : Sg) (n : Nat), n < 13 → t.1 = st.1 → X8_askedAt (nI d) (nI n) t = some (nI (P d n))) (hlt : ∀ n, n < 13 → P d n < 5) (hp : p < 5) (rc : Int64 → Int32 → Sg → Option Sg) (rc2 : Int32 → Sg → Option Sg) (x : Int64) : ∃ st', X8_findBoy_108 rc rc2 x (nI d) (nI p) FU 0 st = X8_findBoy_157 rc rc2 x (nI d) (nI p) st' ∧ FL [] [20] st st' ∧ (∀ n, n < 13 → st'.2 20 n = if P d n = p then st.2 7 n else st.2 20 n) := by
  obtain ⟨t, ⟨h1, h2⟩, he⟩ := loopU (L := fun k v (t : Sg) => X8_findBoy_108 rc rc2 x (nI d) (nI p) k v t) (E := fun t => X8_findBoy_157 rc rc2 x (nI d) (nI p) t) (fun i (t : Sg) => FL [] [20] st t ∧ ∀ n, n < 13 → t.2 20 n = if n < i then (if P d n = p then st.2 7 n else st.2 20 n) else st.2 20 n) 13
    (fun k i t hi ⟨a1, a2⟩ => by
      refine ⟨sJ t 20 i (if P d i = p then st.2 7 i else st.2 20 i), ⟨a1.tr (sJ_fl (by decide)), fun n hn => ?_⟩, ?_⟩
      · rw [sJ_at]
        by_cases c : n = i
        · subst c; rw [if_pos ⟨rfl, rfl⟩, if_pos (show n < n + 1 by omega)]
        · rw [if_neg (by omega), a2 n hn]
          by_cases c2 : n < i
          · rw [if_pos c2, if_pos (show n < i + 1 by omega)]
          · rw [if_neg c2, if_neg (by omega)]
      · show X8_findBoy_108b rc rc2 (X8_findBoy_108 rc rc2 x (nI d) (nI p) k) x (nI d) (nI p) (nI i) t = _
        unfold X8_findBoy_108b X8_findBoy_150
        rw [if_neg (gt12 hi), hP t i hi (funext fun o => a1.1 o (by simp)), bnd1_some]
        by_cases c : P d i = p
        · rw [if_pos (by rw [c]), if_pos c, cx13 hi, cx13 hi, nm_eq, nm_eq, clI (by omega), nI_1, a1.2 7 (by decide)]
        · have := hlt i hi
          rw [if_neg (nI_neI (by omega) (by omega) c), if_neg c, cx13 hi, cx13 hi, nm_eq, nm_eq, clI (by omega), nI_1, a2 i hi, if_neg (by omega)])
    (fun k t _ => by
      show X8_findBoy_108b rc rc2 (X8_findBoy_108 rc rc2 x (nI d) (nI p) k) x (nI d) (nI p) (nI 13) t = _
      unfold X8_findBoy_108b
      rw [if_pos gt12'])
    13 0 FU st rfl (FU_gt (by decide)) ⟨FL.rf, fun n hn => by rw [if_neg (by omega)]⟩
  refine ⟨t, ?_, h1, fun n hn => by rw [h2 n hn, if_pos hn]⟩
  rw [show (0 : Int32) = nI 0 from rfl]
  exact he
theorem m_findBoy {st : Sg} {q : Nat → Nat → Int32} {C D re np ns : Nat} {F W N V : Nat → Int32} {nc lp : Nat} (hok : Okd q C D re np ns) (hV : VM st q C D re np ns) (hp : 0 < np) (h : RuM st F W N V nc lp) : ∃ st', X8_findBoy st = some st' ∧ FL [] [0, 7, 19, 20] st st' ∧ ∀ n, n < 13 → st'.2 19 n = TV q D re ns (askP F W N V nc lp np) D n := by
  obtain ⟨m1, m2, m3, m4, m5, m6⟩ := id hV
  obtain ⟨o1, o2, o3, o4, o5, o6, o7⟩ := id hok
  obtain ⟨P, hP⟩ : ∃ z, z = askP F W N V nc lp np := ⟨_, rfl⟩
  have hPlt : ∀ d n, P d n < np := fun d n => by rw [hP]; exact askP_lt hp
  have hask : ∀ (t : Sg) (d n : Nat), t.1 = st.1 → X8_askedAt (nI d) (nI n) t = some (nI (P d n)) := fun t d n ht => by
    rw [hP]
    exact m_asked (h.keep (by rw [ht]) (fun o _ _ => by rw [ht])) (by rw [ht]; exact m4) hp o5
  rw [← hP]
  obtain ⟨s1, e1, f1, g1, g2⟩ := m_beginEnd m3
  obtain ⟨s2, e2, f2, g3⟩ := m_by6 (st := s1)
  have F2 : FL [] [0, 7, 19, 20] st s2 := (f1.up (by simp) (by simp)).tr (f2.up (by simp) (by simp))
  obtain ⟨⟨x, t⟩, ⟨h1, h2, h3, h4⟩, he⟩ := loopD (L := fun k v (t : Int64 × Sg) => X8_findBoy_42 k t.1 v t.2) (E := fun t => X8_findBoy_204 t.2) (fun i (t : Int64 × Sg) => i ≤ D ∧ t.1 = FI (ns * (D - i)) ∧ FL [] [0, 7, 19, 20] st t.2 ∧ ∀ n, n < 13 → t.2.2 19 n = TV q D re ns P (D - i) n)
    (fun k d t ⟨a1, a2, a3, a4⟩ => by
      obtain ⟨x, t⟩ := t
      dsimp only at a1 a2 a3 a4
      have hbd := TV_bd (P := P) hok (fun d _ n _ => hPlt d n) (D - (d + 1)) (by omega)
      have et : t.1 = st.1 := funext fun o => a3.1 o (by simp)
      have hVt : VM t q C D re np ns := hV.keep (fun o ho => by rw [et])
      obtain ⟨u, ⟨c1, c2, c3⟩, ce⟩ := loopU (L := fun k2 v (u : Sg) => X8_findBoy_49 (X8_findBoy_42 k) x (nI d) k2 v u) (E := fun u => X8_findBoy_163 (X8_findBoy_42 k) (nI d) u) (fun p (u : Sg) => FL [] [0, 7, 20] t u ∧ (0 < p → u.2 0 12 = fi4 ns x) ∧ ∀ n, n < 13 → P d n < p → u.2 20 n = dayB (cb q d (P d n)) (q 0 (P d n)) ns x (TV q D re ns P (D - (d + 1))) n) np
        (fun k2 p u hpn ⟨b1, b2, b3⟩ => by
          have eu : u.1 = st.1 := (funext fun o => b1.1 o (by simp)).trans et
          obtain ⟨u1, i1, i2, i3⟩ := m_by66 (st := sJ u 0 12 x) (d := d) (p := p) (X8_findBoy_42 k) (X8_findBoy_49 (X8_findBoy_42 k) x (nI d) k2) x
          have e1 : u1.1 = st.1 := (funext fun o => i2.1 o (by simp)).trans eu
          have hV1 : VM u1 q C D re np ns := hV.keep (fun o ho => by rw [e1])
          have i3' : ∀ n, n < 13 → u1.2 7 n = TV q D re ns P (D - (d + 1)) n := fun n hn => by
            rw [i3 n hn, sJ_ne (by decide), b1.2 19 (by decide)]; exact a4 n hn
          have hfi : u1.2 0 12 = x := by rw [i2.2 0 (by decide), sJ_at, if_pos ⟨rfl, rfl⟩]
          obtain ⟨u2, j1, j2, j3, j4⟩ := m_dayAt (d := d) (p := p) hok hV1 (by rw [i3' 0 (by decide)]; exact hbd.zero)
          have e2 : u2.1 = st.1 := (funext fun o => j2.1 o (by simp)).trans e1
          obtain ⟨u3, l1, l2, l3⟩ := m_by108 (st := u2) (d := d) (p := p) (P := P) (fun t n hn ht => hask t d n (ht.trans e2)) (fun n _ => by have := hPlt d n; omega) (by omega) (X8_findBoy_42 k) (X8_findBoy_49 (X8_findBoy_42 k) x (nI d) k2) x
          refine ⟨u3, ⟨?_, fun _ => ?_, fun n hn hlt => ?_⟩, ?_⟩
          · exact (b1.tr (sJ_fl (by decide))).tr (((i2.up (by simp) (by simp)).tr (j2.up (by simp) (by simp))).tr (l2.up (by simp) (by simp)))
          · rw [l2.2 0 (by decide), j3, hfi]
          · rw [l3 n hn]
            by_cases c : P d n = p
            · rw [if_pos c, j4 n hn, hfi, c]
              exact dayB_cg ns _ _ _ i3' n hn
            · rw [if_neg c, j2.2 20 (by decide), i2.2 20 (by decide), sJ_ne (by decide)]
              exact b3 n hn (by omega)
          · show X8_findBoy_49b (X8_findBoy_42 k) (X8_findBoy_49 (X8_findBoy_42 k) x (nI d) k2) x (nI d) (nI p) u = _
            unfold X8_findBoy_49b
            rw [eu, m4, if_neg (nI_ge hpn (by omega)), nm_eq, i1]
            unfold X8_findBoy_93
            rw [cix_nI (show p < 5 by omega) (by decide), clI (by omega), e1, show st.1 1 = q 0 from m6 0 (by decide), j1, bnd1_some, l1]
            unfold X8_findBoy_157
            rw [nm_eq, nI_1])
        (fun k2 u ⟨b1, _⟩ => by
          have eu : u.1 = st.1 := (funext fun o => b1.1 o (by simp)).trans et
          show X8_findBoy_49b (X8_findBoy_42 k) (X8_findBoy_49 (X8_findBoy_42 k) x (nI d) k2) x (nI d) (nI np) u = _
          unfold X8_findBoy_49b
          rw [eu, m4, if_pos (nI_le (Nat.le_refl np) (by omega))])
        np 0 FU t (Nat.zero_add np) (FU_gt (by omega)) ⟨FL.rf, fun z => by omega, fun n hn z => by omega⟩
      obtain ⟨v, n1, n2, n3⟩ := m_by166 (st := u) (d := d) (X8_findBoy_42 k)
      refine ⟨(fi4 ns x, v), ⟨by omega, ?_, ?_, fun n hn => ?_⟩, ?_⟩
      · dsimp only
        rw [a2, fi4_FI, ← Nat.mul_succ]
        congr 2
        omega
      · exact a3.tr ((c1.up (by simp) (by simp)).tr (n2.up (by simp) (by simp)))
      · dsimp only
        rw [n3 n hn, c3 n hn (hPlt d n), show D - d = (D - (d + 1)) + 1 by omega, a2]
        show _ = dayB (cb q (D - 1 - (D - (d + 1))) (P (D - 1 - (D - (d + 1))) n)) (q 0 (P (D - 1 - (D - (d + 1))) n)) ns (FI (ns * (D - (d + 1)))) (TV q D re ns P (D - (d + 1))) n
        rw [show D - 1 - (D - (d + 1)) = d by omega]
      · show X8_findBoy_42b (X8_findBoy_42 k) x (nI d) t = _
        unfold X8_findBoy_42b
        rw [if_neg (nI_pos (by omega)), show (0 : Int32) = nI 0 from rfl]
        refine ce.trans ?_
        show X8_findBoy_163 (X8_findBoy_42 k) (nI d) u = _
        unfold X8_findBoy_163
        rw [n1]
        unfold X8_findBoy_193
        rw [nm_eq, nm_eq, n2.2 0 (by decide), c2 hp])
    (fun k t _ => by
      show X8_findBoy_42b (X8_findBoy_42 k) t.1 (-1) t.2 = _
      unfold X8_findBoy_42b
      rw [if_pos (by decide)])
    D FU (s2.2 0 12, s2) (FU_gt (by omega)) ⟨Nat.le_refl D, by
      dsimp only
      rw [f2.2 0 (by decide), g1, Nat.sub_self, Nat.mul_zero]; rfl, F2, fun n hn => by
      dsimp only
      rw [g3 n hn, g2 n hn, Nat.sub_self]; rfl⟩
  dsimp only at h1 h2 h3 h4
  refine ⟨t, ?_, h3, fun n hn => h4 n hn⟩
  unfold X8_findBoy
  rw [e1, bnd1_some, e2]
  unfold X8_findBoy_30
  rw [nm_eq, nm_eq, F2.1 0 (by simp), m2, sub1]
  exact he
theorem s_boy (n : Nat) (sx sm : Sg) (a0 : Int32) (hn : n < 512) (h : Rel n sx sm) : ∃ (r : Int64) (sx9 : Sg) (sm9 : Sg), X7_boy a0 sx = some (r, sx9) ∧ X8_boy a0 sm = some (r, sm9) ∧ Rel (n + 1) sx9 sm9 := by
  obtain ⟨hn0, q, C, D, re, np, ns, hok, hVX, hVM, hPl, hT, hR, hE⟩ := id h
  obtain ⟨o1, o2, o3, o4, o5, o6, o7⟩ := id hok
  obtain ⟨x1, x2, x3, x4, x5, x6⟩ := id hVX
  obtain ⟨m1, m2, m3, m4, m5, m6⟩ := id hVM
  by_cases cp : a0 = 0 ∨ a0 = 1
  · by_cases hz : np = 0
    · refine ⟨-1000000000000000003, sx, sm, ?_, ?_, rel_idle hn h⟩
      · unfold X7_boy
        rw [part_X, if_pos cp, rr_b x4 o5, if_neg (by decide), if_pos hz, if_neg (by decide), lost3]
      · unfold X8_boy
        rw [part_M, if_pos cp, if_neg (by decide), rd_b m4 o5, if_pos hz, if_pos rfl]
    · have hp : 0 < np := by omega
      rcases rul_c hR with ⟨r1, r2⟩ | ⟨r1, r2, F, W, N, V, nc, lp, hX, hM⟩
      · refine ⟨-1000000000000000003, sx, sm, ?_, ?_, rel_idle hn h⟩
        · unfold X7_boy
          rw [part_X, if_pos cp, rr_b x4 o5, if_neg (by decide), if_neg hz, if_pos r1, if_neg (by decide), lost3]
        · unfold X8_boy
          rw [part_M, if_pos cp, if_neg (by decide), rd_b m4 o5, if_neg hz, if_pos r2, if_pos rfl]
      · obtain ⟨s1, b1, b2, b3, b4⟩ := x_findBoy hok hVX hp hX
        obtain ⟨t1, c1, c2, c3⟩ := m_findBoy hok hVM hp hM
        have hV1 : VX s1 q C D re np ns := hVX.keep (fun o h1 h2 => b2 o (by omega))
        have hM1 : VM t1 q C D re np ns := hVM.keep (fun o ho => c2.1 o (by simp))
        have hb := (TV_bd (P := askP F W N V nc lp np) hok (fun d _ n _ => askP_lt hp) D (by omega)).rng (p18 (nsk o6 o3)) (n := C) (by omega)
        have hk : ns * D ≤ 18 := nsk o6 o3
        obtain ⟨r, w1, w2⟩ := frac4 (u := TV q D re ns (askP F W N V nc lp np) D C) (k := ns * D) a0 hk (by omega)
        have b4' : s1.2 (27 + ((0 : Int32)).toNatClampNeg) C = TV q D re ns (askP F W N V nc lp np) D C := b4 C (by omega)
        have c07 : ∀ {α : Type} {k : Option α}, cix 0 7 k = k := fun {α} {k} => cx7 (i := 0) (by omega)
        refine ⟨r, s1, t1, ?_, ?_, ?_⟩
        · unfold X7_boy
          rw [part_X, if_pos cp, rr_b x4 o5, if_neg (by decide), if_neg hz, if_neg r1, if_pos rfl, b1, bnd1_some, c07, hV1.1, cx13 (by omega), hV1.2.1, sc_X hV1.2.2.2.2.1 (by omega), bnd1_some, clI (by omega), b4', w1, bnd1_some]
        · unfold X8_boy
          rw [part_M, if_pos cp, if_neg (by decide), rd_b m4 o5, if_neg hz, if_neg r2, if_neg (by decide), c1, bnd1_some, hM1.1, cx13 (by omega), hM1.2.2.2.2.1, hM1.2.1, pk_mul, pw_M (by omega), bnd1_some, clI (by omega), c3 C (by omega), w2, bnd1_some]
        · refine rel_keep hn hok hVX hVM hPl hT hR (edn_keep hE ?_ ?_ o3 (fun o ho => ⟨b2 o (by omega), b3 o (by omega)⟩)) (fun o ho => b2 o (by omega)) (c2.1 0 (by simp)) (fun o ho => c2.1 o (by simp))
          · rw [b2 0 (by omega)]
          · rw [b2 1 (by omega)]
  · refine ⟨-1000000000000000002, sx, sm, ?_, ?_, rel_idle hn h⟩
    · unfold X7_boy
      rw [part_X, if_neg cp, rr_b x4 o5, if_pos rfl, if_neg (by decide), lost2]
    · unfold X8_boy
      rw [part_M, if_neg cp, if_pos rfl]
theorem s_worst (n : Nat) (sx sm : Sg) (hn : n < 512) (h : Rel n sx sm) : ∃ (r : Int32) (sx9 : Sg) (sm9 : Sg), X7_worst sx = some (r, sx9) ∧ X8_worst sm = some (r, sm9) ∧ Rel (n + 1) sx9 sm9 := by
  obtain ⟨hn0, q, C, D, re, np, ns, hok, hVX, hVM, hPl, hT, hR, hE⟩ := id h
  obtain ⟨o1, o2, o3, o4, o5, o6, o7⟩ := id hok
  obtain ⟨x1, x2, x3, x4, x5, x6⟩ := id hVX
  obtain ⟨m1, m2, m3, m4, m5, m6⟩ := id hVM
  by_cases hz : np = 0
  · refine ⟨-3, sx, sm, ?_, ?_, rel_idle hn h⟩
    · unfold X7_worst
      rw [rr_b x4 o5, if_neg (by decide), if_pos hz, if_neg (by decide)]
    · unfold X8_worst
      rw [rd_b m4 o5, if_pos hz, if_pos rfl]
  · have hp : 0 < np := by omega
    rcases rul_c hR with ⟨r1, r2⟩ | ⟨r1, r2, F, W, N, V, nc, lp, hX, hM⟩
    · refine ⟨-3, sx, sm, ?_, ?_, rel_idle hn h⟩
      · unfold X7_worst
        rw [rr_b x4 o5, if_neg (by decide), if_neg hz, if_pos r1, if_neg (by decide)]
      · unfold X8_worst
        rw [rd_b m4 o5, if_neg hz, if_pos r2, if_pos rfl]
    · obtain ⟨s1, a1, a2, a3, a4, a5⟩ := x_findBest (by omega) hok hVX hE hp
      have hV1 : VX s1 q C D re np ns := hVX.keep (fun o h1 h2 => a4 o h1 (by omega))
      obtain ⟨s2, b1, b2, b3, b4⟩ := x_findBoy hok hV1 hp (hX.keep (fun o p1 p2 => a4 o (by omega) (by omega)))
      obtain ⟨t1, f1, f2, f3⟩ := m_findBest hok hVM hp
      have hM1 : VM t1 q C D re np ns := hVM.keep (fun o ho => f2.1 o (by simp; omega))
      obtain ⟨t2, c1, c2, c3⟩ := m_findBoy hok hM1 hp (hM.keep (f2.1 0 (by decide)) (fun o p1 p2 => f2.1 o (by simp; omega)))
      obtain ⟨T, hT'⟩ : ∃ z, z = TV q D re ns (askP F W N V nc lp np) D := ⟨_, rfl⟩
      obtain ⟨B, hB⟩ : ∃ z, z = BV q D re np ns D := ⟨_, rfl⟩
      have vX : ∀ u, u < 13 → s2.2 (10 + ((0 : Int32)).toNatClampNeg) u = B u := fun u hu => by
        show s2.2 10 u = B u
        rw [b3 10 (by omega), hB]; exact (a2 0 (by omega) u (by omega)).1
      have tX : ∀ u, u < 13 → s2.2 (27 + ((0 : Int32)).toNatClampNeg) u = T u := fun u hu => by
        rw [hT']; exact b4 u hu
      have vM : ∀ u, u < 13 → t2.2 8 u = B u := fun u hu => by
        have := f3.1 0 (by omega) u hu
        rw [c2.2 8 (by decide), hB]
        simpa using this
      have tM : ∀ u, u < 13 → t2.2 19 u = T u := fun u hu => by
        rw [hT']; exact c3 u hu
      have c07 : ∀ {α : Type} {k : Option α}, cix 0 7 k = k := fun {α} {k} => cx7 (i := 0) (by omega)
      have key : ∀ (j i b : Nat) (kX kM : Nat), i + j = 13 → b < 13 → j < kX → j < kM → ∃ r, X7_worst_49 kX (nI b) (B b - T b) (nI i) s2 = some (r, s2) ∧ X8_worst_22 kM (nI b) (nI i) t2 = some (r, t2) := by
        intro j
        induction j with
        | zero =>
          intro i b kX kM hj hb hkX hkM
          obtain ⟨kX, rfl⟩ : ∃ k', kX = k' + 1 := ⟨kX - 1, by omega⟩
          obtain ⟨kM, rfl⟩ : ∃ k', kM = k' + 1 := ⟨kM - 1, by omega⟩
          have : i = 13 := by omega
          subst this
          refine ⟨nI b, ?_, ?_⟩
          · show X7_worst_49b (X7_worst_49 kX) (nI b) (B b - T b) (nI 13) s2 = _
            unfold X7_worst_49b X7_worst_102
            rw [if_pos gt12']
          · show X8_worst_22b (X8_worst_22 kM) (nI b) (nI 13) t2 = _
            unfold X8_worst_22b X8_worst_70
            rw [if_pos gt12']
        | succ j ih =>
          intro i b kX kM hj hb hkX hkM
          obtain ⟨kX, rfl⟩ : ∃ k', kX = k' + 1 := ⟨kX - 1, by omega⟩
          obtain ⟨kM, rfl⟩ : ∃ k', kM = k' + 1 := ⟨kM - 1, by omega⟩
          have hi : i < 13 := by omega
          have eX : X7_worst_49 (kX + 1) (nI b) (B b - T b) (nI i) s2 = if ¬ B b - T b < B i - T i then X7_worst_49 kX (nI b) (B b - T b) (nI (i + 1)) s2 else X7_worst_49 kX (nI i) (B i - T i) (nI (i + 1)) s2 := by
            show X7_worst_49b (X7_worst_49 kX) (nI b) (B b - T b) (nI i) s2 = _
            unfold X7_worst_49b X7_worst_96
            simp only [lg_le0, nm_eq, nI_1]
            rw [if_neg (gt12 hi), c07, cx13 hi, c07, cx13 hi, clI (by omega), vX i hi, tX i hi]
          have eM : X8_worst_22 (kM + 1) (nI b) (nI i) t2 = if ¬ B b - T b < B i - T i then X8_worst_22 kM (nI b) (nI (i + 1)) t2 else X8_worst_22 kM (nI i) (nI (i + 1)) t2 := by
            show X8_worst_22b (X8_worst_22 kM) (nI b) (nI i) t2 = _
            unfold X8_worst_22b X8_worst_63
            simp only [lg_le0, nm_eq, nI_1]
            rw [if_neg (gt12 hi), cx91 (by omega), cx13 hi, cx91 (by omega), cx13 hb, clI (by omega), clI (by omega), vM i hi, tM i hi, vM b hb, tM b hb]
          rw [eX, eM]
          by_cases c : ¬ B b - T b < B i - T i
          · rw [if_pos c, if_pos c]
            exact ih (i + 1) b kX kM (by omega) hb (by omega) (by omega)
          · rw [if_neg c, if_neg c]
            exact ih (i + 1) i kX kM (by omega) hi (by omega) (by omega)
      obtain ⟨r, w1, w2⟩ := key 11 2 1 FU FU (by omega) (by omega) (FU_gt (by omega)) (FU_gt (by omega))
      refine ⟨r, s2, t2, ?_, ?_, ?_⟩
      · unfold X7_worst
        have e1 : s2.2 (10 + ((0 : Int32)).toNatClampNeg) (1 : Int32).toNatClampNeg = B 1 := vX 1 (by omega)
        have e2 : s2.2 (27 + ((0 : Int32)).toNatClampNeg) (1 : Int32).toNatClampNeg = T 1 := tX 1 (by omega)
        have c113 : ∀ {α : Type} {k : Option α}, cix 1 13 k = k := fun {α} {k} => cx13 (i := 1) (by omega)
        rw [rr_b x4 o5, if_neg (by decide), if_neg hz, if_neg r1, if_pos rfl, a1, bnd1_some, b1, bnd1_some, c07, c113, c07, c113, nm_eq, e1, e2]
        exact w1
      · unfold X8_worst
        rw [rd_b m4 o5, if_neg hz, if_neg r2, if_neg (by decide), f1, bnd1_some, c1, bnd1_some]
        exact w2
      · refine rel_keep hn hok hVX hVM hPl hT hR (edn_up (edn_keep0 a3 ?_ ?_ o3 (fun o ho => ⟨b2 o (by omega), b3 o (by omega)⟩)) o3) (fun o ho => by rw [b2 o (by omega), a4 o (by omega) (by omega)]) (by rw [c2.1 0 (by simp), f2.1 0 (by decide)]) (fun o ho => by rw [c2.1 o (by simp), f2.1 o (by simp; omega)])
        · rw [b2 0 (by omega)]
        · rw [b2 1 (by omega)]
