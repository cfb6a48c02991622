/-! the reference's plan, rows and odds; brings, left -/
theorem loopDe {τ α : Type} {L : Nat → Int32 → τ → Option α} {E : τ → Option α} (I : Nat → τ → Prop) (e : Nat) (hs : ∀ k i t, e ≤ i → I (i + 1) t → ∃ t', I i t' ∧ L (k + 1) (nI i) t = L k (nI i + (-1)) t') (hx : ∀ k t, I e t → L (k + 1) (nI e + (-1)) t = E t) : ∀ j i k t, i = e + j → j < k → I i t → ∃ t', I e t' ∧ L k (nI i + (-1)) t = E t' := by
  intro j
  induction j with
  | zero =>
    intro i k t hi hk h
    obtain ⟨k, rfl⟩ : ∃ k', k = k' + 1 := ⟨k - 1, by omega⟩
    have : i = e := by omega
    subst this
    exact ⟨t, h, hx k t h⟩
  | succ j ih =>
    intro i k t hi hk h
    obtain ⟨k, rfl⟩ : ∃ k', k = k' + 1 := ⟨k - 1, by omega⟩
    obtain ⟨i, rfl⟩ : ∃ i', i = i' + 1 := ⟨i - 1, by omega⟩
    rw [nI_m1]
    obtain ⟨t', h', he⟩ := hs k i t (by omega) h
    obtain ⟨t2, h2, he2⟩ := ih i k t' (by omega) (by omega) h'
    exact ⟨t2, h2, he.trans he2⟩
theorem m1_lt_nI {e : Nat} (h : e < 1000) : nI e + (-1) < nI e := by
  rcases Nat.eq_zero_or_pos e with rfl | h0
  · decide
  · obtain ⟨i, rfl⟩ : ∃ i', e = i' + 1 := ⟨e - 1, by omega⟩
    rw [nI_m1]
    exact nI_lt (by omega) (by omega)
theorem FI_4 (k : Nat) : FI k * 4 = FI (k + 1) := fi4_FI 1 k
theorem m_layPlan {st : Sg} : ∃ st', X8_layPlan st = some st' ∧ FL [11] [] st st' ∧ ∀ d, d < 6 → st'.1 11 d = st.1 6 d := by
  obtain ⟨t, ⟨h1, h2⟩, he⟩ := loopU (L := fun k v (t : Sg) => X8_layPlan_2 k v t) (E := fun t => X8_layPlan_26 t) (fun i (t : Sg) => FL [11] [] st t ∧ ∀ n, n < i → t.1 11 n = st.1 6 n) 6
    (fun k i t hi ⟨a1, a2⟩ => by
      refine ⟨sI t 11 i (st.1 6 i), ⟨a1.tr (sI_fl (by decide)), fun n hn => ?_⟩, ?_⟩
      · rw [sI_at]
        by_cases c : n = i
        · subst c; rw [if_pos ⟨rfl, rfl⟩]
        · rw [if_neg (by omega)]; exact a2 n (by omega)
      · show X8_layPlan_2b (X8_layPlan_2 k) (nI i) t = _
        unfold X8_layPlan_2b
        rw [if_neg (show ¬ (6 : Int32) ≤ nI i from nI_ge (b := 6) hi (by decide)), cx6 hi, cx6 hi, nm_eq, nm_eq, clI (by omega), a1.1 6 (by decide), nI_1])
    (fun k t _ => by
      show X8_layPlan_2b (X8_layPlan_2 k) (nI 6) t = _
      unfold X8_layPlan_2b
      rw [if_pos (by decide)])
    6 0 FU st rfl (FU_gt (by decide)) ⟨FL.rf, fun n hn => by omega⟩
  refine ⟨t, ?_, h1, h2⟩
  unfold X8_layPlan
  rw [show (0 : Int32) = nI 0 from rfl]
  exact he
theorem m_bringFrom {st : Sg} {q : Nat → Nat → Int32} {C D re np ns e : Nat} {P : Nat → Nat} (hok : Okd q C D re np ns) (hV : VM st q C D re np ns) (hP : ∀ d, d < D → st.1 11 d = nI (P d) ∧ P d < np) (he : e ≤ D) : ∃ st', X8_bringFrom (nI e) st = some st' ∧ FL [] [0, 7] st st' ∧ st'.2 0 12 = FI (ns * (D - e)) ∧ ∀ n, n < 13 → st'.2 7 n = PV q D re ns P (D - e) n := by
  obtain ⟨m1, m2, m3, m4, m5, m6⟩ := id hV
  obtain ⟨o1, o2, o3, o4, o5, o6, o7⟩ := id hok
  obtain ⟨s1, e1, f1, g1, g2⟩ := m_beginEnd m3
  obtain ⟨t, ⟨h1, h2, h3, h4⟩, hh⟩ := loopDe (L := fun k v (t : Sg) => X8_bringFrom_11 (nI e) k v t) (E := fun t => X8_bringFrom_38 t) (fun i (t : Sg) => i ≤ D ∧ FL [] [0, 7] st t ∧ t.2 0 12 = FI (ns * (D - i)) ∧ ∀ n, n < 13 → t.2 7 n = PV q D re ns P (D - i) n) e
    (fun k i t hi ⟨a1, a2, a3, a4⟩ => by
      have hVt : VM t q C D re np ns := hV.keep (fun o _ => a2.1 o (by simp))
      have hPt : t.1 11 i = nI (P i) := by rw [a2.1 11 (by simp)]; exact (hP i (by omega)).1
      have hPn := (hP i (by omega)).2
      obtain ⟨t', b1, b2, b3, b4⟩ := m_dayAt (d := i) (p := P i) hok hVt (by rw [a4 0 (by omega)]; exact PV_0 _)
      have e2 : D - i = (D - (i + 1)) + 1 := by omega
      have e3 : D - 1 - (D - (i + 1)) = i := by omega
      refine ⟨t', ⟨by omega, a2.tr b2, ?_, fun n hn => ?_⟩, ?_⟩
      · rw [b3, a3, fi4_FI, e2, Nat.mul_succ]
      · rw [b4 n hn, a3, e2, PV_s, e3]
        exact dayB_cg ns _ _ _ a4 n hn
      · show X8_bringFrom_11b (X8_bringFrom_11 (nI e) k) (nI e) (nI i) t = _
        unfold X8_bringFrom_11b
        rw [if_neg (nI_nlt hi (by omega)), cx6 (by omega), clI (by omega), hPt, cx5 (by omega), clI (by omega), show t.1 1 = q 0 from hVt.2.2.2.2.2 0 (by decide), b1, bnd1_some, nm_eq])
    (fun k t _ => by
      show X8_bringFrom_11b (X8_bringFrom_11 (nI e) k) (nI e) (nI e + (-1)) t = _
      unfold X8_bringFrom_11b
      rw [if_pos (m1_lt_nI (by omega))])
    (D - e) D FU s1 (by omega) (FU_gt (by omega)) ⟨Nat.le_refl D, f1, by rw [g1, Nat.sub_self, Nat.mul_zero]; rfl, fun n hn => by rw [g2 n hn, Nat.sub_self]; rfl⟩
  refine ⟨t, ?_, h2, h3, h4⟩
  unfold X8_bringFrom
  have ee : nI D - 1 = nI D + (-1) := by grind
  have hD1 : s1.1 0 1 = nI D := by rw [f1.1 0 (by simp)]; exact m2
  rw [e1, bnd1_some, nm_eq, hD1, ee]
  exact hh
theorem m_odds90 {st : Sg} {x1 x2 x3 c : Int32} {cv : Nat} (hc : c = nI cv) (h4 : cv ≤ 4) (rc40 rc47 : Int32 → Sg → Option Sg) : ∃ st', X8_findOdds_90 rc40 rc47 x1 x2 x3 c FU 0 st = X8_findOdds_161 rc40 rc47 x1 x2 x3 st' ∧ FL [] [12] st st' ∧ ∀ n, n < 13 → st'.2 12 n = oS c (st.2 12) n := by
  obtain ⟨t, ⟨h1, h2⟩, he⟩ := loopU (L := fun k v (t : Sg) => X8_findOdds_90 rc40 rc47 x1 x2 x3 c k v t) (E := fun t => X8_findOdds_161 rc40 rc47 x1 x2 x3 t) (fun i (t : Sg) => FL [] [12] st t ∧ ∀ n, n < 13 → t.2 12 n = if n < i then oS c (st.2 12) n else st.2 12 n) 13
    (fun k i t hi ⟨a1, a2⟩ => by
      have v0 : t.2 12 i = st.2 12 i := by rw [a2 i hi, if_neg (by omega)]
      refine ⟨sJ t 12 i (oS c (st.2 12) i), ⟨a1.tr (sJ_fl (by decide)), fun n hn => ?_⟩, ?_⟩
      · rw [sJ_at]
        by_cases c1 : n = i
        · subst c1; rw [if_pos ⟨rfl, rfl⟩, if_pos (by omega)]
        · rw [if_neg (by omega), a2 n hn]
          by_cases c2 : n < i
          · rw [if_pos c2, if_pos (by omega)]
          · rw [if_neg c2, if_neg (by omega)]
      · have fin : ∀ v : Int64, v = (if i < 12 then c.toInt64 * st.2 12 (i + 1) else 0) → X8_findOdds_121 rc40 rc47 (X8_findOdds_90 rc40 rc47 x1 x2 x3 c k) v x1 x2 x3 c (nI i) t = X8_findOdds_90 rc40 rc47 x1 x2 x3 c k (nI (i + 1)) (sJ t 12 i (oS c (st.2 12) i)) := by
          intro v hv
          unfold X8_findOdds_121 X8_findOdds_142
          simp only [nm_eq]
          rw [cx13 hi, cx13 hi, cx13 hi, cx13 hi, clI (by omega), v0, nI_1]
          by_cases c0 : i = 0
          · subst c0
            rw [if_pos (show nI 0 = 0 from rfl)]
            unfold oS
            rw [if_pos rfl, ← hv, show (4 : Int32).toInt64 = 4 by decide]
          · rw [if_neg (nI_ne0 (by omega) (by omega))]
            unfold oS
            rw [if_neg c0, ← hv, sub4 hc h4]
        show X8_findOdds_90b rc40 rc47 (X8_findOdds_90 rc40 rc47 x1 x2 x3 c k) x1 x2 x3 c (nI i) t = _
        unfold X8_findOdds_90b
        rw [if_neg (gt12 hi)]
        by_cases c12 : i < 12
        · rw [if_neg (show ¬ (12 : Int32) ≤ nI i from nI_ge (b := 12) c12 (by decide)), nI_1, cx13 (by omega), clI (by omega)]
          refine fin _ ?_
          rw [if_pos c12, a2 (i + 1) (by omega), if_neg (by omega)]
        · rw [if_pos (show (12 : Int32) ≤ nI i from nI_le (a := 12) (by omega) (by omega))]
          exact fin _ (by rw [if_neg c12]))
    (fun k t _ => by
      show X8_findOdds_90b rc40 rc47 (X8_findOdds_90 rc40 rc47 x1 x2 x3 c k) x1 x2 x3 c (nI 13) t = _
      unfold X8_findOdds_90b
      rw [if_pos gt12'])
    13 0 FU st rfl (FU_gt (by decide)) ⟨FL.rf, fun n hn => by rw [if_neg (by omega)]⟩
  refine ⟨t, ?_, h1, fun n hn => by rw [h2 n hn, if_pos hn]⟩
  rw [show (0 : Int32) = nI 0 from rfl]
  exact he
theorem m_findOdds {st : Sg} {q : Nat → Nat → Int32} {C D re np ns e : Nat} {P : Nat → Nat} (hok : Okd q C D re np ns) (hV : VM st q C D re np ns) (hP : ∀ d, d < D → st.1 11 d = nI (P d) ∧ P d < np) (he : e ≤ D) : ∃ st', X8_findOdds (nI e) st = some st' ∧ FL [] [0, 12] st st' ∧ st'.2 0 12 = FI (ns * e) ∧ ∀ n, n < 13 → st'.2 12 n = (fwD q ns P C e).1 n := by
  obtain ⟨m1, m2, m3, m4, m5, m6⟩ := id hV
  obtain ⟨o1, o2, o3, o4, o5, o6, o7⟩ := id hok
  obtain ⟨s1, ⟨a1, a2, a3⟩, h1⟩ := loopU (L := fun k v (t : Sg) => X8_findOdds_7 (nI e) k v t) (E := fun t => X8_findOdds_38 (nI e) t) (fun i (t : Sg) => FL [] [0, 12] st t ∧ t.2 0 12 = 1 ∧ ∀ n, n < i → t.2 12 n = (fw0 C).1 n) 13
    (fun k i t hi ⟨a1, a2, a3⟩ => by
      refine ⟨sJ t 12 i ((fw0 C).1 i), ⟨a1.tr (sJ_fl (by decide)), by rw [sJ_ne (by decide)]; exact a2, fun n hn => ?_⟩, ?_⟩
      · rw [sJ_at]
        by_cases c : n = i
        · subst c; rw [if_pos ⟨rfl, rfl⟩]
        · rw [if_neg (by omega)]; exact a3 n (by omega)
      · show X8_findOdds_7b (X8_findOdds_7 (nI e) k) (nI e) (nI i) t = _
        unfold X8_findOdds_7b X8_findOdds_31
        simp only [nm_eq]
        rw [if_neg (gt12 hi), cx13 hi, cx13 hi, a1.1 0 (by simp), m1, clI (by omega), nI_1]
        show (if nI i = nI C then X8_findOdds_7 (nI e) k (nI (i + 1)) (sJ t 12 i 1) else X8_findOdds_7 (nI e) k (nI (i + 1)) (sJ t 12 i 0)) = X8_findOdds_7 (nI e) k (nI (i + 1)) (sJ t 12 i (if i = C then 1 else 0))
        by_cases c : i = C
        · rw [if_pos (by rw [c]), if_pos c]
        · rw [if_neg (fun z => c (nI_inj (by omega) (by omega) z)), if_neg c])
    (fun k t _ => by
      show X8_findOdds_7b (X8_findOdds_7 (nI e) k) (nI e) (nI 13) t = _
      unfold X8_findOdds_7b
      rw [if_pos gt12'])
    13 0 FU (sJ st 0 12 1) rfl (FU_gt (by decide)) ⟨sJ_fl (by decide), by rw [sJ_at, if_pos ⟨rfl, rfl⟩], fun n hn => by omega⟩
  obtain ⟨t, ⟨b1, b2, b3⟩, h2⟩ := loopU (L := fun k v (t : Sg) => X8_findOdds_40 (nI e) k v t) (E := fun t => X8_findOdds_185 t) (fun i (t : Sg) => FL [] [0, 12] st t ∧ t.2 0 12 = FI (ns * i) ∧ ∀ n, n < 13 → t.2 12 n = (fwD q ns P C i).1 n) e
    (fun k d t hd ⟨a1, a2, a3⟩ => by
      have hPt : t.1 11 d = nI (P d) := by rw [a1.1 11 (by simp)]; exact (hP d (by omega)).1
      have hPn := (hP d (by omega)).2
      obtain ⟨t2, ⟨c1, c2, c3⟩, ce⟩ := loopU (L := fun k2 v (t : Sg) => X8_findOdds_47 (X8_findOdds_40 (nI e) k) (nI e) (nI d) k2 v t) (E := fun t => X8_findOdds_179 (X8_findOdds_40 (nI e) k) (nI e) (nI d) t) (fun s (u : Sg) => FL [] [0, 12] st u ∧ u.2 0 12 = FI (ns * d + s) ∧ ∀ n, n < 13 → u.2 12 n = (fwS (cb q d (P d)) (q 0 (P d)) s (fwD q ns P C d)).1 n) ns
        (fun k2 s u hs ⟨g1, g2, g3⟩ => by
          obtain ⟨cv, e1, e2⟩ := cb_bd hok (d := d) (p := P d) hs
          obtain ⟨u', i1, i2, i3⟩ := m_odds90 (st := u) (x1 := nI e) (x2 := nI d) (x3 := nI s) e1 e2 (X8_findOdds_40 (nI e) k) (X8_findOdds_47 (X8_findOdds_40 (nI e) k) (nI e) (nI d) k2)
          refine ⟨sJ u' 0 12 (u'.2 0 12 * 4), ⟨(g1.tr (i2.up (by simp) (by simp))).tr (sJ_fl (by simp)), ?_, fun n hn => ?_⟩, ?_⟩
          · rw [sJ_at, if_pos ⟨rfl, rfl⟩, i2.2 0 (by simp), g2, FI_4]; rfl
          · rw [sJ_ne (by decide), i3 n hn]
            exact oS_cg g3 n hn
          · show X8_findOdds_47b (X8_findOdds_40 (nI e) k) (X8_findOdds_47 (X8_findOdds_40 (nI e) k) (nI e) (nI d) k2) (nI e) (nI d) (nI s) u = _
            unfold X8_findOdds_47b X8_findOdds_85
            rw [g1.1 0 (by simp), m5, if_neg (nI_ge hs (by omega)), wv_M (q := q) (by rw [g1.1 3 (by simp)]; exact m6 2 (by decide)) (by rw [g1.1 4 (by simp)]; exact m6 3 (by decide)) (by omega), cx6 (by omega), clI (by omega), g1.1 11 (by simp), (hP d (by omega)).1, cx5 (by omega), clI (by omega), g1.1 1 (by simp), show st.1 1 = q 0 from m6 0 (by decide)]
            have fin : X8_findOdds_90 (X8_findOdds_40 (nI e) k) (X8_findOdds_47 (X8_findOdds_40 (nI e) k) (nI e) (nI d) k2) (nI e) (nI d) (nI s) (cb q d (P d) s) FU 0 u = X8_findOdds_47 (X8_findOdds_40 (nI e) k) (nI e) (nI d) k2 (nI (s + 1)) (sJ u' 0 12 (u'.2 0 12 * 4)) := by
              rw [i1]
              unfold X8_findOdds_161
              rw [nm_eq, nm_eq, nI_1]
            unfold cb at fin
            by_cases c : wv q s d < q 0 (P d)
            · rw [if_pos c] at fin ⊢
              exact fin
            · rw [if_neg c] at fin ⊢
              rw [cx3 (by omega), clI (by omega), g1.1 2 (by simp), show st.1 2 = q 1 from m6 1 (by decide)]
              exact fin)
        (fun k2 u ⟨g1, _⟩ => by
          show X8_findOdds_47b (X8_findOdds_40 (nI e) k) (X8_findOdds_47 (X8_findOdds_40 (nI e) k) (nI e) (nI d) k2) (nI e) (nI d) (nI ns) u = _
          unfold X8_findOdds_47b
          rw [g1.1 0 (by simp), m5, if_pos (nI_le (Nat.le_refl ns) (by omega))])
        ns 0 FU t (Nat.zero_add ns) (FU_gt (by omega)) ⟨a1, a2, a3⟩
      refine ⟨t2, ⟨c1, by rw [c2, Nat.mul_succ], c3⟩, ?_⟩
      show X8_findOdds_40b (X8_findOdds_40 (nI e) k) (nI e) (nI d) t = _
      unfold X8_findOdds_40b
      rw [if_neg (nI_ge hd (by omega)), show (0 : Int32) = nI 0 from rfl]
      refine ce.trans ?_
      show X8_findOdds_179 (X8_findOdds_40 (nI e) k) (nI e) (nI d) t2 = _
      unfold X8_findOdds_179
      rw [nm_eq, nI_1])
    (fun k t _ => by
      show X8_findOdds_40b (X8_findOdds_40 (nI e) k) (nI e) (nI e) t = _
      unfold X8_findOdds_40b
      rw [if_pos (nI_le (Nat.le_refl e) (by omega))])
    e 0 FU s1 (Nat.zero_add e) (FU_gt (by omega)) ⟨a1, a2, a3⟩
  refine ⟨t, ?_, b1, b2, b3⟩
  unfold X8_findOdds
  rw [nm_eq, show (0 : Int32) = nI 0 from rfl]
  refine h1.trans ?_
  show X8_findOdds_38 (nI e) s1 = _
  unfold X8_findOdds_38
  rw [show (0 : Int32) = nI 0 from rfl]
  exact h2
/-- the told plan -/
theorem pln_P {sx sm : Sg} {np : Nat} (h : Pln sx sm np) (hp : 0 < np) (h5 : np ≤ 5) : ∃ P : Nat → Nat, ∀ d, d < 6 → sx.1 7 d = nI (P d) ∧ sm.1 6 d = nI (P d) ∧ P d < np := by
  refine ⟨fun d => (sx.1 7 d).toNatClampNeg, fun d hd => ?_⟩
  obtain ⟨v, h1, h2⟩ := h.2 d hd
  dsimp only
  rw [h.1, h1, clI (by omega)]
  exact ⟨rfl, rfl, by omega⟩
