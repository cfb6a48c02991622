/-! the next plan on both sides; the greatest offered -/
theorem x_fbegin {st : Sg} {D np : Nat} (hD : D ≤ 6) (hp : 0 < np) : ∃ st', X0_begin st = some (0, st') ∧ FL [60] [] st st' ∧ Lp st' 60 (List.replicate D 0) D np := by
  obtain ⟨t, ⟨h1, h2⟩, he⟩ := loopU (L := fun k v (t : Sg) => X0_begin_2 k v t) (E := fun t => X0_begin_21 t) (fun i (t : Sg) => FL [60] [] st t ∧ ∀ n, n < i → t.1 60 n = nI 0) 6
    (fun k i t hi ⟨a1, a2⟩ => by
      refine ⟨sI t 60 i (nI 0), ⟨a1.tr (sI_fl (by decide)), fun n hn => ?_⟩, ?_⟩
      · rw [sI_at]
        by_cases c : n = i
        · subst c; rw [if_pos ⟨rfl, rfl⟩]
        · rw [if_neg (by omega)]; exact a2 n (by omega)
      · show X0_begin_2b (X0_begin_2 k) (nI i) t = _
        unfold X0_begin_2b
        rw [if_neg (show ¬ (6 : Int32) ≤ nI i from nI_ge (b := 6) hi (by decide)), cx6 hi, nm_eq, nm_eq, clI (by omega), nI_1]
        rfl)
    (fun k t _ => by
      show X0_begin_2b (X0_begin_2 k) (nI 6) t = _
      unfold X0_begin_2b
      rw [if_pos (by decide)])
    6 0 FU st rfl (FU_gt (by decide)) ⟨FL.rf, fun n hn => by omega⟩
  refine ⟨t, ?_, h1, by simp, fun d hd => ?_⟩
  · unfold X0_begin
    rw [show (0 : Int32) = nI 0 from rfl]
    exact he
  · have e : (List.replicate D 0).getD d 0 = 0 := by simp [List.getD, hd]
    rw [e]
    exact ⟨h2 d (by omega), hp⟩
theorem x_adv_none {st : Sg} {l : List Nat} {D np : Nat} (hL : Lp st 60 l D np) (hD6 : D ≤ 6) (hp : 0 < np) (hnp : np ≤ 5) (hx : nxP (np - 1) l = none) : X0_advance (nI D) (nI np) st = some (-6, st) := by
  obtain ⟨hlen, hL⟩ := hL
  have hn := nxP_none l hx
  have e1 : nI np - 1 = nI (np - 1) := pk_sub (a := np) (b := 1) (by omega)
  obtain ⟨t, ⟨h1, h2⟩, he⟩ := loopD (L := fun k v (t : Sg) => X0_advance_4 (nI D) (nI np) k v t) (E := fun t => X0_advance_62 t) (fun i (t : Sg) => i ≤ D ∧ t = st)
    (fun k i t ⟨a1, a2⟩ => by
      subst a2
      refine ⟨t, ⟨by omega, rfl⟩, ?_⟩
      show X0_advance_4b (X0_advance_4 (nI D) (nI np) k) (nI D) (nI np) (nI i) t = _
      have g := hL i (by omega)
      have g2 := hn i (by omega)
      unfold X0_advance_4b
      rw [if_neg (nI_pos (by omega)), cx6 (by omega), clI (by omega), g.1, e1, if_pos (nI_le (by omega) (by omega)), nm_eq])
    (fun k t _ => by
      show X0_advance_4b (X0_advance_4 (nI D) (nI np) k) (nI D) (nI np) (-1) t = _
      unfold X0_advance_4b
      rw [if_pos (by decide)])
    D FU st (FU_gt (by omega)) ⟨Nat.le_refl D, rfl⟩
  subst h2
  unfold X0_advance
  have e : nI D - 1 = nI D + (-1) := by grind
  rw [nm_eq, e]
  exact he
theorem x_adv_some {st : Sg} {l l' : List Nat} {D np : Nat} (hL : Lp st 60 l D np) (hD6 : D ≤ 6) (hp : 0 < np) (hnp : np ≤ 5) (hx : nxP (np - 1) l = some l') : ∃ st' d, X0_advance (nI D) (nI np) st = some (nI d, st') ∧ FL [60] [] st st' ∧ Lp st' 60 l' D np ∧ d < D ∧ ∀ j, j < d → l'.getD j 0 = l.getD j 0 := by
  have hlt := nxP_lt hx (fun j hj => by have := (hL.2 j (by rw [← hL.1]; exact hj)).2; omega)
  obtain ⟨hlen, hL⟩ := hL
  obtain ⟨d, b1, b2, b3, b4, b5, b6⟩ := nxP_some l l' hx
  have hd : d < D := by omega
  have e1 : nI np - 1 = nI (np - 1) := pk_sub (a := np) (b := 1) (by omega)
  obtain ⟨t, ⟨h1, h2⟩, he⟩ := loopDe (L := fun k v (t : Sg) => X0_advance_4 (nI D) (nI np) k v t) (E := fun t => X0_advance_20 (nI D) (nI d) t) (fun i (t : Sg) => i ≤ D ∧ t = st) (d + 1)
    (fun k i t hi ⟨a1, a2⟩ => by
      subst a2
      refine ⟨t, ⟨by omega, rfl⟩, ?_⟩
      show X0_advance_4b (X0_advance_4 (nI D) (nI np) k) (nI D) (nI np) (nI i) t = _
      have g := hL i (by omega)
      have g2 := b3 i (by omega) (by omega)
      unfold X0_advance_4b
      rw [if_neg (nI_pos (by omega)), cx6 (by omega), clI (by omega), g.1, e1, if_pos (nI_le (by omega) (by omega)), nm_eq])
    (fun k t ⟨_, a2⟩ => by
      subst a2
      show X0_advance_4b (X0_advance_4 (nI D) (nI np) k) (nI D) (nI np) (nI (d + 1) + (-1)) t = _
      have g := hL d hd
      unfold X0_advance_4b
      rw [nI_m1, if_neg (nI_pos (by omega)), cx6 (by omega), clI (by omega), g.1, e1, if_neg (nI_ge (by omega) (by omega))])
    (D - (d + 1)) D FU st (by omega) (FU_gt (by omega)) ⟨Nat.le_refl D, rfl⟩
  subst h2
  obtain ⟨u, ⟨c0, c1, c2, c3⟩, hu⟩ := loopU (L := fun k v (u : Sg) => X0_advance_33 (nI D) (nI d) (nI (l.getD d 0 + 1)) k v u) (E := fun u => X0_advance_54 (nI d) u) (fun i (u : Sg) => d ≤ i ∧ FL [60] [] t u ∧ (∀ j, j < d → u.1 60 j = t.1 60 j) ∧ ∀ j, d ≤ j → j < i → u.1 60 j = nI (l.getD d 0 + 1)) D
    (fun k i u hi ⟨hdi, a1, a2, a3⟩ => by
      · refine ⟨sI u 60 i (nI (l.getD d 0 + 1)), ⟨by omega, a1.tr (sI_fl (by decide)), fun j hj => ?_, fun j h1 h2 => ?_⟩, ?_⟩
        · rw [sI_at, if_neg (by omega)]; exact a2 j hj
        · rw [sI_at]
          by_cases c : j = i
          · subst c; rw [if_pos ⟨rfl, rfl⟩]
          · rw [if_neg (by omega)]; exact a3 j h1 (by omega)
        · show X0_advance_33b (X0_advance_33 (nI D) (nI d) (nI (l.getD d 0 + 1)) k) (nI D) (nI d) (nI (l.getD d 0 + 1)) (nI i) u = _
          unfold X0_advance_33b
          rw [if_neg (nI_ge hi (by omega)), cx6 (by omega), nm_eq, nm_eq, clI (by omega), nI_1])
    (fun k u _ => by
      show X0_advance_33b (X0_advance_33 (nI D) (nI d) (nI (l.getD d 0 + 1)) k) (nI D) (nI d) (nI (l.getD d 0 + 1)) (nI D) u = _
      unfold X0_advance_33b
      rw [if_pos (nI_le (Nat.le_refl D) (by omega))])
    (D - d) d FU t (by omega) (FU_gt (by omega)) ⟨Nat.le_refl d, FL.rf, fun j _ => rfl, fun j _ _ => by omega⟩
  refine ⟨u, d, ?_, c1, ⟨by omega, fun j hj => ⟨?_, ?_⟩⟩, hd, b5⟩
  · unfold X0_advance
    have e : nI D - 1 = nI D + (-1) := by grind
    rw [nm_eq, e]
    refine he.trans ?_
    show X0_advance_20 (nI D) (nI d) t = _
    unfold X0_advance_20
    rw [cx6 (by omega), nm_eq, clI (by omega), (hL d hd).1, nI_1]
    exact hu
  · by_cases c : j < d
    · rw [c2 j c, b5 j c]; exact (hL j hj).1
    · rw [c3 j (by omega) hj, b6 j (by omega) (by omega)]
  · have := hlt j (by omega)
    omega
theorem m_next_none {st : Sg} {l : List Nat} {D np : Nat} (hL : Lp st 11 l D np) (hd : st.1 0 1 = nI D) (h4 : st.1 0 4 = nI np) (hD6 : D ≤ 6) (hp : 0 < np) (hnp : np ≤ 5) (hx : nxP (np - 1) l = none) : X8_nextPlan st = some (0, st) := by
  obtain ⟨hlen, hL⟩ := hL
  have hn := nxP_none l hx
  have e1 : nI np - 1 = nI (np - 1) := pk_sub (a := np) (b := 1) (by omega)
  obtain ⟨t, ⟨h1, h2⟩, he⟩ := loopD (L := fun k v (t : Sg) => X8_nextPlan_7 k v t) (E := fun t => some (0, t)) (fun i (t : Sg) => i ≤ D ∧ t = st)
    (fun k i t ⟨a1, a2⟩ => by
      subst a2
      refine ⟨t, ⟨by omega, rfl⟩, ?_⟩
      show X8_nextPlan_7b (X8_nextPlan_7 k) (nI i) t = _
      have g := hL i (by omega)
      have g2 := hn i (by omega)
      unfold X8_nextPlan_7b
      rw [if_neg (nI_pos (by omega)), cx6 (by omega), clI (by omega), g.1, h4, e1, if_pos (by congr 1; omega), nm_eq])
    (fun k t _ => by
      show X8_nextPlan_7b (X8_nextPlan_7 k) (-1) t = _
      unfold X8_nextPlan_7b X8_nextPlan_32
      rw [if_pos (by decide), if_neg (by decide)])
    D FU st (FU_gt (by omega)) ⟨Nat.le_refl D, rfl⟩
  subst h2
  unfold X8_nextPlan
  have e : nI D - 1 = nI D + (-1) := by grind
  rw [nm_eq, hd, e]
  exact he
theorem m_next_some {st : Sg} {l l' : List Nat} {D np : Nat} (hL : Lp st 11 l D np) (hd1 : st.1 0 1 = nI D) (h4 : st.1 0 4 = nI np) (hD6 : D ≤ 6) (hp : 0 < np) (hnp : np ≤ 5) (hx : nxP (np - 1) l = some l') : ∃ st', X8_nextPlan st = some (1, st') ∧ FL [11] [] st st' ∧ Lp st' 11 l' D np := by
  have hlt := nxP_lt hx (fun j hj => by have := (hL.2 j (by rw [← hL.1]; exact hj)).2; omega)
  obtain ⟨hlen, hL⟩ := hL
  obtain ⟨d, b1, b2, b3, b4, b5, b6⟩ := nxP_some l l' hx
  have hd : d < D := by omega
  have e1 : nI np - 1 = nI (np - 1) := pk_sub (a := np) (b := 1) (by omega)
  obtain ⟨t, ⟨h1, h2⟩, he⟩ := loopDe (L := fun k v (t : Sg) => X8_nextPlan_7 k v t) (E := fun t => X8_nextPlan_32 (nI d) t) (fun i (t : Sg) => i ≤ D ∧ t = st) (d + 1)
    (fun k i t hi ⟨a1, a2⟩ => by
      subst a2
      refine ⟨t, ⟨by omega, rfl⟩, ?_⟩
      show X8_nextPlan_7b (X8_nextPlan_7 k) (nI i) t = _
      have g := hL i (by omega)
      have g2 := b3 i (by omega) (by omega)
      unfold X8_nextPlan_7b
      rw [if_neg (nI_pos (by omega)), cx6 (by omega), clI (by omega), g.1, h4, e1, if_pos (by congr 1; omega), nm_eq])
    (fun k t ⟨_, a2⟩ => by
      subst a2
      show X8_nextPlan_7b (X8_nextPlan_7 k) (nI (d + 1) + (-1)) t = _
      have g := hL d hd
      unfold X8_nextPlan_7b
      rw [nI_m1, if_neg (nI_pos (by omega)), cx6 (by omega), clI (by omega), g.1, h4, e1, if_neg (fun z => by have := nI_inj (by omega) (by omega) z; omega)])
    (D - (d + 1)) D FU st (by omega) (FU_gt (by omega)) ⟨Nat.le_refl D, rfl⟩
  subst h2
  obtain ⟨u, ⟨c0, c1, c2, c3⟩, hu⟩ := loopU (L := fun k v (u : Sg) => X8_nextPlan_52 (nI d) k v u) (E := fun u => X8_nextPlan_78 u) (fun i (u : Sg) => d < i ∧ FL [11] [] t u ∧ (∀ j, j < d → u.1 11 j = t.1 11 j) ∧ ∀ j, d ≤ j → j < i → u.1 11 j = nI (l.getD d 0 + 1)) D
    (fun k i u hi ⟨a0, a1, a2, a3⟩ => by
      refine ⟨sI u 11 i (nI (l.getD d 0 + 1)), ⟨by omega, a1.tr (sI_fl (by decide)), fun j hj => ?_, fun j h1 h2 => ?_⟩, ?_⟩
      · rw [sI_at, if_neg (by omega)]; exact a2 j hj
      · rw [sI_at]
        by_cases c : j = i
        · subst c; rw [if_pos ⟨rfl, rfl⟩]
        · rw [if_neg (by omega)]; exact a3 j h1 (by omega)
      · show X8_nextPlan_52b (X8_nextPlan_52 (nI d) k) (nI d) (nI i) u = _
        unfold X8_nextPlan_52b
        rw [a1.1 0 (by decide), hd1, if_neg (nI_ge hi (by omega)), cx6 (by omega), cx6 (by omega), nm_eq, nm_eq, clI (by omega), clI (by omega), a3 d (Nat.le_refl d) a0, nI_1])
    (fun k u ⟨_, a1, _⟩ => by
      show X8_nextPlan_52b (X8_nextPlan_52 (nI d) k) (nI d) (nI D) u = _
      unfold X8_nextPlan_52b
      rw [a1.1 0 (by decide), hd1, if_pos (nI_le (Nat.le_refl D) (by omega))])
    (D - (d + 1)) (d + 1) FU (sI t 11 d (nI (l.getD d 0 + 1))) (by omega) (FU_gt (by omega)) ⟨by omega, sI_fl (by decide), fun j hj => by rw [sI_at, if_neg (by omega)], fun j h1 h2 => by
      have : j = d := by omega
      subst this
      rw [sI_at, if_pos ⟨rfl, rfl⟩]⟩
  refine ⟨u, ?_, c1, ⟨by omega, fun j hj => ⟨?_, ?_⟩⟩⟩
  · unfold X8_nextPlan
    have e : nI D - 1 = nI D + (-1) := by grind
    rw [nm_eq, hd1, e]
    refine he.trans ?_
    show X8_nextPlan_32 (nI d) t = _
    unfold X8_nextPlan_32
    rw [if_pos (nI_pos' (by omega)), cx6 (by omega), cx6 (by omega), nm_eq, nm_eq, clI (by omega), (hL d hd).1, nI_1, nI_1]
    exact hu
  · by_cases c : j < d
    · rw [c2 j c, b5 j c]; exact (hL j hj).1
    · rw [c3 j (by omega) hj, b6 j (by omega) (by omega)]
  · have := hlt j (by omega)
    omega
/-- the greatest so far at a place -/
def Gr (st : Sg) (b D : Nat) (r : Int64 × List Nat) : Prop := st.2 b 1 = r.1 ∧ (r.1 = -1 ∨ ∀ d, d < D → st.1 (b + 1) d = nI (r.2.getD d 0))
theorem okC6 : okC 0 0 6 6 6 := by unfold okC; decide
theorem cpy6 {f g : Nat → Int32} {n : Nat} (h : n < 6) : va_cpy f g (0 : Int32).toNatClampNeg (0 : Int32).toNatClampNeg (6 : Int32).toNatClampNeg n = f n := by
  have e0 : (0 : Int32).toNatClampNeg = 0 := by decide
  have e1 : (6 : Int32).toNatClampNeg = 6 := by decide
  rw [e0, e1]
  unfold va_cpy
  rw [if_pos (by omega)]
  congr 1
  omega
theorem x_offer {st : Sg} {b D np : Nat} {v : Int64} {r : Int64 × List Nat} {l : List Nat} (hb : b + 1 ≠ 60) (hG : Gr st b D r) (hL : Lp st 60 l D np) (hD : D ≤ 6) : ∃ st', X1_offer b v st = some st' ∧ FL [b + 1] [b] st st' ∧ Gr st' b D (if r.1 < v then (v, l) else r) := by
  unfold X1_offer X1_offer_26
  simp only [lg_le0]
  rw [hG.1]
  by_cases c : r.1 < v
  · rw [if_neg (fun z => z c), nm_eq, cpc_ok okC6, nm_eq, if_pos c]
    refine ⟨_, rfl, ?_, ?_⟩
    · refine (sJ_fl (J := [b]) (by simp)).tr ⟨fun o ho => ?_, fun _ _ => rfl⟩
      simp [sIr, va_up]; intro h; exact absurd h (by simpa using ho)
    · refine ⟨?_, Or.inr fun d hd => ?_⟩
      · show (sJ st b 1 v).2 b 1 = v
        rw [sJ_at, if_pos ⟨rfl, rfl⟩]
      · show va_up (sJ st b 1 v).1 (b + 1) _ (b + 1) d = _
        unfold va_up
        rw [if_pos rfl, cpy6 (by omega)]
        exact (hL.2 d hd).1
  · rw [if_pos c, if_neg c]
    exact ⟨st, rfl, FL.rf, hG⟩
theorem x_clear {st : Sg} {b D : Nat} : ∃ st', X1_clear b st = some st' ∧ FL [] [b] st st' ∧ Gr st' b D (-1, []) := by
  refine ⟨sJ st b 1 (-1), rfl, sJ_fl (by simp), ?_, Or.inl rfl⟩
  rw [sJ_at, if_pos ⟨rfl, rfl⟩]
