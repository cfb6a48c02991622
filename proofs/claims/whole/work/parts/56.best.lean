/-! best, state, dip, made -/
theorem ref_b {α : Type} {sx : Sg} {np : Nat} {k : Int32} {f : Int32 → Option α} (hx : sx.1 1 4 = nI np) (hnp : np ≤ 5) : bnd1 (X7_refusalOf k sx) f = if k = 0 then f (-2) else if np = 0 then f (-3) else f 0 := by
  unfold X7_refusalOf X7_refusalOf_23
  rw [hx]
  by_cases c : k = 0
  · rw [if_pos c, if_pos c]; rfl
  · rw [if_neg c, if_neg c]
    by_cases cz : np = 0
    · rw [if_pos (by rw [cz]; rfl), if_pos cz]; rfl
    · rw [if_neg (nI_ne0 (by omega) (by omega)), if_neg cz]; rfl
theorem day_y {α : Type} {sx : Sg} {D d : Nat} {k : Int32 → Option α} (hx : sx.1 1 1 = nI D) (hD : D ≤ 6) (h : d < D) : bnd1 (X7_isDay (nI d) sx) k = k 1 := by
  unfold X7_isDay
  rw [hx, wi_y h (by omega)]; rfl
theorem day_n {α : Type} {sx : Sg} {D : Nat} {x : Int32} {k : Int32 → Option α} (hx : sx.1 1 1 = nI D) (hD : D ≤ 6) (h : ¬ ∃ i, i < D ∧ x = nI i) : bnd1 (X7_isDay x sx) k = k 0 := by
  unfold X7_isDay
  rw [hx, wi_n h (by omega)]; rfl
theorem part_X {α : Type} {x : Int32} {k : Int32 → Option α} : bnd1 (X7_isPart x) k = if x = 0 ∨ x = 1 then k 1 else k 0 := by
  unfold X7_isPart X7_isPart_9 X7_isPart_14
  simp only [cb01_0, cb01_1]
  by_cases c : x = 0
  · rw [if_pos c, if_pos (Or.inl c)]; rfl
  · rw [if_neg c]
    by_cases c1 : x = 1
    · rw [if_pos c1, if_pos (Or.inr c1)]; rfl
    · rw [if_neg c1, if_neg (by rintro (z | z); exact c z; exact c1 z)]; rfl
theorem part_iff {x : Int32} : ((0 : Int32) ≤ x ∧ x ≤ 1) ↔ (x = 0 ∨ x = 1) := by
  constructor
  · intro h
    obtain ⟨i, hi, hx⟩ := (rngP (x := x) (m := 2) (by decide)).mp h
    have : i = 0 ∨ i = 1 := by omega
    rcases this with rfl | rfl
    · exact Or.inl hx
    · exact Or.inr hx
  · rintro (rfl | rfl) <;> decide
theorem part_M {α : Type} {x : Int32} {k : Int32 → Option α} : bnd1 (X8_isPart x) k = if x = 0 ∨ x = 1 then k 1 else k 0 := by
  unfold X8_isPart
  rw [in_c _ 0 1 _ _ _ (by decide) (by decide)]
  by_cases c : x = 0 ∨ x = 1
  · rw [if_pos c, if_pos (part_iff.mpr c)]; rfl
  · rw [if_neg c, if_neg (fun z => c (part_iff.mp z))]; rfl
theorem edn_up {n : Nat} {sx : Sg} {q : Nat → Nat → Int32} {C D re np ns : Nat} (h : Edn n sx q C D re np ns) (hD : D ≤ 6) : Edn (n + 1) sx q C D re np ns := edn_keep h rfl rfl hD (fun _ _ => ⟨rfl, rfl⟩)
/-- both sides find the best -/
theorem both_best {n : Nat} {sx sm : Sg} {q : Nat → Nat → Int32} {C D re np ns : Nat} (hn : n < 512) (hok : Okd q C D re np ns) (hVX : VX sx q C D re np ns) (hVM : VM sm q C D re np ns) (hPl : Pln sx sm np) (hT : Txt sx sm) (hR : Rul sx sm) (hE : Edn n sx q C D re np ns) (hp : 0 < np) : ∃ sx' sm', X7_findBest sx = some sx' ∧ X8_findBest sm = some sm' ∧ Best sx' q C D re np ns ∧ MBest sm' q D re np ns ∧ VX sx' q C D re np ns ∧ VM sm' q C D re np ns ∧ Rel (n + 1) sx' sm' := by
  obtain ⟨sx', a1, a2, a3, a4, a5⟩ := x_findBest (by omega) hok hVX hE hp
  obtain ⟨sm', b1, b2, b3⟩ := m_findBest hok hVM hp
  refine ⟨sx', sm', a1, b1, a2, b3, hVX.keep (fun o h1 h2 => a4 o h1 (by omega)), hVM.keep (fun o ho => b2.1 o (by simp; omega)), ?_⟩
  exact rel_keep hn hok hVX hVM hPl hT hR (edn_up a3 hok.2.2.1) (fun o ho => a4 o (by omega) (by omega)) (b2.1 0 (by decide)) (fun o ho => b2.1 o (by simp; omega))
theorem s_best (n : Nat) (sx sm : Sg) (a0 a1 : Int32) (hn : n < 512) (h : Rel n sx sm) : ∃ (r : Int32) (sx9 : Sg) (sm9 : Sg), X7_best a0 a1 sx = some (r, sx9) ∧ X8_best a0 a1 sm = some (r, sm9) ∧ Rel (n + 1) sx9 sm9 := by
  obtain ⟨hn0, q, C, D, re, np, ns, hok, hVX, hVM, hPl, hT, hR, hE⟩ := id h
  obtain ⟨o1, o2, o3, o4, o5, o6, o7⟩ := id hok
  obtain ⟨x1, x2, x3, x4, x5, x6⟩ := id hVX
  obtain ⟨m1, m2, m3, m4, m5, m6⟩ := id hVM
  by_cases hd : ∃ d, d < D ∧ a0 = nI d
  · obtain ⟨d, hd, rfl⟩ := hd
    by_cases c : (1 : Int32) ≤ a1 ∧ a1 ≤ nI C
    · obtain ⟨v, rfl, v1, v2⟩ := of_rng (a := 1) (b := C) rfl rfl (by omega) (by
        have := Int32.le_trans c.1 c.2
        exact (nI_leI (a := 1) (b := C) (by decide) (by omega)).mp this) c.1 c.2
      by_cases hz : np = 0
      · refine ⟨-3, sx, sm, ?_, ?_, rel_idle hn h⟩
        · unfold X7_best X7_best_29
          rw [day_y x2 o3 hd, if_neg (by decide), x1, wi_b, if_pos c, if_neg (by decide), ref_b x4 o5, if_neg (by decide), if_pos hz, if_neg (by decide)]
        · unfold X8_best
          rw [m2, in_y hd (by omega), if_neg (by decide), m1, in_c _ 1 (nI C) _ _ _ (by decide) rfl, if_pos c, if_neg (by decide), m4, if_pos (by rw [hz]; rfl)]
      · obtain ⟨sx', sm', b1, b2, b3, b4, b5, b6, b7⟩ := both_best hn hok hVX hVM hPl hT hR hE (by omega)
        refine ⟨nI (BA q D re np ns (D - 1 - d) v), sx', sm', ?_, ?_, b7⟩
        · unfold X7_best X7_best_29
          rw [day_y x2 o3 hd, if_neg (by decide), x1, wi_b, if_pos c, if_neg (by decide), ref_b x4 o5, if_neg (by decide), if_neg hz, if_pos rfl, b1, bnd1_some, cx6 (by omega), cx13 (by omega), clI (by omega), clI (by omega), (b3 d (by omega) v (by omega)).2 hd]
        · unfold X8_best
          rw [m2, in_y hd (by omega), if_neg (by decide), m1, in_c _ 1 (nI C) _ _ _ (by decide) rfl, if_pos c, if_neg (by decide), m4, if_neg (nI_ne0 (by omega) (by omega)), b2, bnd1_some, ix13, cx78 (by omega), clI (by omega), b4.2 d hd v (by omega)]
    · refine ⟨-2, sx, sm, ?_, ?_, rel_idle hn h⟩
      · unfold X7_best X7_best_28 X7_best_29
        rw [day_y x2 o3 hd, if_neg (by decide), x1, wi_b, if_neg c, if_pos rfl, ref_b x4 o5, if_pos rfl, if_neg (by decide)]
      · unfold X8_best X8_best_30
        rw [m2, in_y hd (by omega), if_neg (by decide), m1, in_c _ 1 (nI C) _ _ _ (by decide) rfl, if_neg c, if_pos rfl]
  · refine ⟨-2, sx, sm, ?_, ?_, rel_idle hn h⟩
    · unfold X7_best X7_best_28 X7_best_29
      rw [day_n x2 o3 hd, if_pos rfl, ref_b x4 o5, if_pos rfl, if_neg (by decide)]
    · unfold X8_best X8_best_30
      rw [m2, in_n hd (by omega), if_pos rfl]
theorem lost2 : (-1000000000000000000 : Int64) + ((-2 : Int32).toInt64) = -1000000000000000002 := by decide
theorem lost3 : (-1000000000000000000 : Int64) + ((-3 : Int32).toInt64) = -1000000000000000003 := by decide
/-- a fraction over 4 to the power of k -/
theorem frac4 {u : Int64} {k : Nat} (part : Int32) (hk : k ≤ 18) (hu : -(2 ^ 62 : Int) < u.toInt ∧ u.toInt < 2 ^ 62) : ∃ r, X7_partOf u (FI k) part = some r ∧ X8_lowest u (FI k) part = some r := by
  rw [FI_p2]
  obtain ⟨h1, h2⟩ := frac part hu (show 2 * k < 60 by omega)
  exact ⟨_, h1, h2⟩
theorem Bd.rng {F : Nat} {b : Nat → Int64} (h : Bd F b) (hF : F < 2 ^ 40) {n : Nat} (hn : n < 13) : 0 ≤ (b n).toInt ∧ (b n).toInt < 2 ^ 61 := by
  obtain ⟨v, h1, h2⟩ := h n hn
  have hb : 99 * n * F ≤ 99 * 12 * F := Nat.mul_le_mul_right F (by omega)
  rw [h1, pk_lT (by omega)]
  omega
theorem nsk {ns k : Nat} (h1 : ns ≤ 3) (h2 : k ≤ 6) : ns * k ≤ 18 := Nat.mul_le_mul h1 h2
theorem p18 {k : Nat} (h : k ≤ 18) : 4 ^ k < 2 ^ 40 := Nat.lt_of_le_of_lt (pow4_le h) (by decide)
theorem le_rng {x : Int32} {a : Nat} (ha : a ≤ 1000) : ((0 : Int32) ≤ x ∧ x ≤ nI a) ↔ ∃ i, i ≤ a ∧ x = nI i := by
  constructor
  · intro c
    obtain ⟨v, hv, -, v2⟩ := of_rng (a := 0) (b := a) rfl rfl (by omega) (by omega) c.1 c.2
    exact ⟨v, v2, hv⟩
  · rintro ⟨i, hi, rfl⟩
    exact ⟨nI_pos' (by omega), nI_le hi (by omega)⟩
theorem s_state (n : Nat) (sx sm : Sg) (a0 a1 a2 : Int32) (hn : n < 512) (h : Rel n sx sm) : ∃ (r : Int64) (sx9 : Sg) (sm9 : Sg), X7_state a0 a1 a2 sx = some (r, sx9) ∧ X8_state a0 a1 a2 sm = some (r, sm9) ∧ Rel (n + 1) sx9 sm9 := by
  obtain ⟨hn0, q, C, D, re, np, ns, hok, hVX, hVM, hPl, hT, hR, hE⟩ := id h
  obtain ⟨o1, o2, o3, o4, o5, o6, o7⟩ := id hok
  obtain ⟨x1, x2, x3, x4, x5, x6⟩ := id hVX
  obtain ⟨m1, m2, m3, m4, m5, m6⟩ := id hVM
  by_cases cd : (0 : Int32) ≤ a0 ∧ a0 ≤ nI D
  · obtain ⟨d, hd, rfl⟩ := (le_rng (by omega)).mp cd
    by_cases cn : (0 : Int32) ≤ a1 ∧ a1 ≤ nI C
    · obtain ⟨v, hv, rfl⟩ := (le_rng (by omega)).mp cn
      by_cases cp : a2 = 0 ∨ a2 = 1
      · by_cases hz : np = 0
        · refine ⟨-1000000000000000003, sx, sm, ?_, ?_, rel_idle hn h⟩
          · unfold X7_state X7_state_43
            rw [x2, wi_b, if_pos cd, if_neg (by decide), x1, wi_b, if_pos cn, if_neg (by decide), part_X, if_pos cp, if_neg (by decide), ref_b x4 o5, if_neg (by decide), if_pos hz, if_neg (by decide), lost3]
          · unfold X8_state
            rw [m2, in_c _ 0 (nI D) _ _ _ (by decide) rfl, if_pos cd, if_neg (by decide), m1, in_c _ 0 (nI C) _ _ _ (by decide) rfl, if_pos cn, if_neg (by decide), part_M, if_pos cp, if_neg (by decide), m4, if_pos (by rw [hz]; rfl)]
        · obtain ⟨sx', sm', b1, b2, b3, b4, b5, b6, b7⟩ := both_best hn hok hVX hVM hPl hT hR hE (by omega)
          have hb := (BV_bd hok (by omega) (D - d) (by omega)).rng (p18 (nsk o6 (by omega))) (n := v) (by omega)
          have hk : ns * (D - d) ≤ 18 := nsk o6 (by omega)
          obtain ⟨r, r1, r2⟩ := frac4 (u := BV q D re np ns (D - d) v) (k := ns * (D - d)) a2 hk (by omega)
          have eD : nI D - nI d = nI (D - d) := pk_sub hd
          refine ⟨r, sx', sm', ?_, ?_, b7⟩
          · unfold X7_state X7_state_43
            rw [x2, wi_b, if_pos cd, if_neg (by decide), x1, wi_b, if_pos cn, if_neg (by decide), part_X, if_pos cp, if_neg (by decide), ref_b x4 o5, if_neg (by decide), if_neg hz, if_pos rfl, b1, bnd1_some, cx7 (by omega), cx13 (by omega), b5.2.1, eD, sc_X b5.2.2.2.2.1 (by omega), bnd1_some, clI (by omega), clI (by omega), (b3 d hd v (by omega)).1, r1, bnd1_some]
          · unfold X8_state
            rw [m2, in_c _ 0 (nI D) _ _ _ (by decide) rfl, if_pos cd, if_neg (by decide), m1, in_c _ 0 (nI C) _ _ _ (by decide) rfl, if_pos cn, if_neg (by decide), part_M, if_pos cp, if_neg (by decide), m4, if_neg (nI_ne0 (by omega) (by omega)), b2, bnd1_some, ix13, cx91 (by omega), b6.2.2.2.2.1, b6.2.1, eD, pk_mul, pw_M (by omega), bnd1_some, clI (by omega), b4.1 d hd v (by omega), r2, bnd1_some]
      · refine ⟨-1000000000000000002, sx, sm, ?_, ?_, rel_idle hn h⟩
        · unfold X7_state X7_state_42 X7_state_43
          rw [x2, wi_b, if_pos cd, if_neg (by decide), x1, wi_b, if_pos cn, if_neg (by decide), part_X, if_neg cp, if_pos rfl, ref_b x4 o5, if_pos rfl, if_neg (by decide), lost2]
        · unfold X8_state X8_state_35
          rw [m2, in_c _ 0 (nI D) _ _ _ (by decide) rfl, if_pos cd, if_neg (by decide), m1, in_c _ 0 (nI C) _ _ _ (by decide) rfl, if_pos cn, if_neg (by decide), part_M, if_neg cp, if_pos rfl]
    · refine ⟨-1000000000000000002, sx, sm, ?_, ?_, rel_idle hn h⟩
      · unfold X7_state X7_state_42 X7_state_43
        rw [x2, wi_b, if_pos cd, if_neg (by decide), x1, wi_b, if_neg cn, if_pos rfl, ref_b x4 o5, if_pos rfl, if_neg (by decide), lost2]
      · unfold X8_state X8_state_35
        rw [m2, in_c _ 0 (nI D) _ _ _ (by decide) rfl, if_pos cd, if_neg (by decide), m1, in_c _ 0 (nI C) _ _ _ (by decide) rfl, if_neg cn, if_pos rfl]
  · refine ⟨-1000000000000000002, sx, sm, ?_, ?_, rel_idle hn h⟩
    · unfold X7_state X7_state_42 X7_state_43
      rw [x2, wi_b, if_neg cd, if_pos rfl, ref_b x4 o5, if_pos rfl, if_neg (by decide), lost2]
    · unfold X8_state X8_state_35
      rw [m2, in_c _ 0 (nI D) _ _ _ (by decide) rfl, if_neg cd, if_pos rfl]
/-- the inner walk over the numbers of coats, from n on; what follows takes the count -/
theorem dip_in {sx sm : Sg} {C d : Nat} {a0 : Int32} {P : Nat → Nat} (hd : d < 6) (hC : C ≤ 12) (hx : sx.1 1 0 = nI C) (hm : sm.1 0 0 = nI C) (hX : ∀ n, n < 13 → sx.1 (18 + d) n = nI (P n)) (hM : ∀ n, n < 13 → sm.1 9 (13 * d + n) = nI (P n)) (rX rM : Int32 → Int32 → Sg → Option (Int32 × Sg)) (nxt : ∀ m : Int32, ∃ r, rX m (nI (d + 1)) sx = some (r, sx) ∧ rM m (nI (d + 1)) sm = some (r, sm)) :
    ∀ (j n : Nat) (m : Int32) (kX kM : Nat), 1 ≤ n → n ≤ 13 → (n + j = C ∨ (C < n ∧ j = 0)) → j < kX → j < kM → ∃ r, X7_dip_36 rX a0 (nI d) kX m (nI n) sx = some (r, sx) ∧ X8_dip_29 rM a0 (nI d) kM m (nI n) sm = some (r, sm) := by
  intro j
  induction j with
  | zero =>
    intro n m kX kM h1 h13 hj hkX hkM
    obtain ⟨kX, rfl⟩ : ∃ k', kX = k' + 1 := ⟨kX - 1, by omega⟩
    obtain ⟨kM, rfl⟩ : ∃ k', kM = k' + 1 := ⟨kM - 1, by omega⟩
    obtain ⟨r, r1, r2⟩ := nxt m
    refine ⟨r, ?_, ?_⟩
    · show X7_dip_36b rX (X7_dip_36 rX a0 (nI d) kX) a0 m (nI d) (nI n) sx = _
      unfold X7_dip_36b X7_dip_102
      rw [hx, if_pos (nI_le (by omega) (by omega)), nm_eq, nI_1]; exact r1
    · show X8_dip_29b rM (X8_dip_29 rM a0 (nI d) kM) a0 m (nI d) (nI n) sm = _
      unfold X8_dip_29b X8_dip_89
      rw [hm, if_pos (nI_le (by omega) (by omega)), nm_eq, nI_1]; exact r2
  | succ j ih =>
    intro n m kX kM h1 h13 hj hkX hkM
    obtain ⟨kX, rfl⟩ : ∃ k', kX = k' + 1 := ⟨kX - 1, by omega⟩
    obtain ⟨kM, rfl⟩ : ∃ k', kM = k' + 1 := ⟨kM - 1, by omega⟩
    have hlt : n < C := by omega
    have eX : X7_dip_36 rX a0 (nI d) (kX + 1) m (nI n) sx = if nI (P n) ≤ nI (P (n + 1)) then X7_dip_36 rX a0 (nI d) kX m (nI (n + 1)) sx else if m = a0 then some ((100 * nI d) + nI n, sx) else X7_dip_36 rX a0 (nI d) kX (m + 1) (nI (n + 1)) sx := by
      show X7_dip_36b rX (X7_dip_36 rX a0 (nI d) kX) a0 m (nI d) (nI n) sx = _
      unfold X7_dip_36b X7_dip_96 X7_dip_84
      rw [hx, if_neg (nI_ge hlt (by omega)), cx6 hd, cx13 (by omega), cx6 hd, nI_1, cx13 (by omega), clI (by omega), clI (by omega), clI (by omega), hX n (by omega), hX (n + 1) (by omega)]
      simp only [nm_eq]
    have eM : X8_dip_29 rM a0 (nI d) (kM + 1) m (nI n) sm = if nI (P n) ≤ nI (P (n + 1)) then X8_dip_29 rM a0 (nI d) kM m (nI (n + 1)) sm else if m = a0 then some ((100 * nI d) + nI n, sm) else X8_dip_29 rM a0 (nI d) kM (m + 1) (nI (n + 1)) sm := by
      show X8_dip_29b rM (X8_dip_29 rM a0 (nI d) kM) a0 m (nI d) (nI n) sm = _
      unfold X8_dip_29b X8_dip_83 X8_dip_72
      rw [hm, if_neg (nI_ge hlt (by omega)), ix13, nI_1, cx78 (by omega), cx78 (by omega), clI (by omega), clI (by omega), hM n (by omega), show 13 * d + n + 1 = 13 * d + (n + 1) by omega, hM (n + 1) (by omega)]
      simp only [nm_eq, nI_1]
    rw [eX, eM]
    by_cases c : nI (P n) ≤ nI (P (n + 1))
    · rw [if_pos c, if_pos c]
      exact ih (n + 1) m kX kM (by omega) (by omega) (by omega) (by omega) (by omega)
    · rw [if_neg c, if_neg c]
      by_cases c2 : m = a0
      · rw [if_pos c2, if_pos c2]
        exact ⟨_, rfl, rfl⟩
      · rw [if_neg c2, if_neg c2]
        exact ih (n + 1) (m + 1) kX kM (by omega) (by omega) (by omega) (by omega) (by omega)
theorem s_dip (n : Nat) (sx sm : Sg) (a0 : Int32) (hn : n < 512) (h : Rel n sx sm) : ∃ (r : Int32) (sx9 : Sg) (sm9 : Sg), X7_dip a0 sx = some (r, sx9) ∧ X8_dip a0 sm = some (r, sm9) ∧ Rel (n + 1) sx9 sm9 := by
  obtain ⟨hn0, q, C, D, re, np, ns, hok, hVX, hVM, hPl, hT, hR, hE⟩ := id h
  obtain ⟨o1, o2, o3, o4, o5, o6, o7⟩ := id hok
  obtain ⟨x1, x2, x3, x4, x5, x6⟩ := id hVX
  obtain ⟨m1, m2, m3, m4, m5, m6⟩ := id hVM
  by_cases hz : np = 0
  · refine ⟨-3, sx, sm, ?_, ?_, rel_idle hn h⟩
    · unfold X7_dip
      rw [ref_b x4 o5, if_neg (by decide), if_pos hz, if_neg (by decide)]
    · unfold X8_dip
      rw [m4, if_pos (by rw [hz]; rfl)]
  · obtain ⟨sx', sm', b1, b2, b3, b4, b5, b6, b7⟩ := both_best hn hok hVX hVM hPl hT hR hE (by omega)
    have key : ∀ (j d : Nat) (m : Int32) (kX kM : Nat), d + j = D → j < kX → j < kM → ∃ r, X7_dip_21 a0 kX m (nI d) sx' = some (r, sx') ∧ X8_dip_18 a0 kM m (nI d) sm' = some (r, sm') := by
      intro j
      induction j with
      | zero =>
        intro d m kX kM hj hkX hkM
        obtain ⟨kX, rfl⟩ : ∃ k', kX = k' + 1 := ⟨kX - 1, by omega⟩
        obtain ⟨kM, rfl⟩ : ∃ k', kM = k' + 1 := ⟨kM - 1, by omega⟩
        refine ⟨if a0 = -1 then m else -6, ?_, ?_⟩
        · show X7_dip_21b (X7_dip_21 a0 kX) a0 m (nI d) sx' = _
          unfold X7_dip_21b X7_dip_108 X7_dip_119
          rw [b5.2.1, if_pos (nI_le (by omega) (by omega))]
          split <;> rfl
        · show X8_dip_18b (X8_dip_18 a0 kM) a0 m (nI d) sm' = _
          unfold X8_dip_18b X8_dip_95 X8_dip_106
          rw [b6.2.1, if_pos (nI_le (by omega) (by omega))]
          split <;> rfl
      | succ j ih =>
        intro d m kX kM hj hkX hkM
        obtain ⟨kX, rfl⟩ : ∃ k', kX = k' + 1 := ⟨kX - 1, by omega⟩
        obtain ⟨kM, rfl⟩ : ∃ k', kM = k' + 1 := ⟨kM - 1, by omega⟩
        have nxt : ∀ m : Int32, ∃ r, X7_dip_21 a0 kX m (nI (d + 1)) sx' = some (r, sx') ∧ X8_dip_18 a0 kM m (nI (d + 1)) sm' = some (r, sm') := fun m => ih (d + 1) m kX kM (by omega) (by omega) (by omega)
        obtain ⟨r, r1, r2⟩ := dip_in (a0 := a0) (P := fun n => BA q D re np ns (D - 1 - d) n) (d := d) (by omega) o1 b5.1 b6.1 (fun k hk => (b3 d (by omega) k (by omega)).2 (by omega)) (fun k hk => b4.2 d (by omega) k hk) _ _ nxt (C - 1) 1 m FU FU (by omega) (by omega) (by omega) (FU_gt (by omega)) (FU_gt (by omega))
        refine ⟨r, ?_, ?_⟩
        · show X7_dip_21b (X7_dip_21 a0 kX) a0 m (nI d) sx' = _
          unfold X7_dip_21b
          rw [b5.2.1, if_neg (nI_ge (by omega) (by omega)), show (1 : Int32) = nI 1 from rfl]
          exact r1
        · show X8_dip_18b (X8_dip_18 a0 kM) a0 m (nI d) sm' = _
          unfold X8_dip_18b
          rw [b6.2.1, if_neg (nI_ge (by omega) (by omega)), show (1 : Int32) = nI 1 from rfl]
          exact r2
    obtain ⟨r, r1, r2⟩ := key D 0 0 FU FU (by omega) (FU_gt (by omega)) (FU_gt (by omega))
    refine ⟨r, sx', sm', ?_, ?_, b7⟩
    · unfold X7_dip
      rw [ref_b x4 o5, if_neg (by decide), if_neg hz, if_pos rfl, b1, bnd1_some]
      exact r1
    · unfold X8_dip
      rw [m4, if_neg (nI_ne0 (by omega) (by omega)), b2, bnd1_some]
      exact r2
theorem s_made (n : Nat) (sx sm : Sg) (a0 : Int32) (hn : n < 512) (h : Rel n sx sm) : ∃ (r : Int32) (sx9 : Sg) (sm9 : Sg), X7_made a0 sx = some (r, sx9) ∧ X8_made a0 sm = some (r, sm9) ∧ Rel (n + 1) sx9 sm9 := by
  obtain ⟨hn0, q, C, D, re, np, ns, hok, hVX, hVM, hPl, hT, hR, hE⟩ := id h
  obtain ⟨o1, o2, o3, o4, o5, o6, o7⟩ := id hok
  obtain ⟨x1, x2, x3, x4, x5, x6⟩ := id hVX
  obtain ⟨m1, m2, m3, m4, m5, m6⟩ := id hVM
  by_cases c : (0 : Int32) ≤ a0 ∧ a0 ≤ 99
  · by_cases hz : np = 0
    · refine ⟨-3, sx, sm, ?_, ?_, rel_idle hn h⟩
      · unfold X7_made
        rw [wi_b, if_pos c, ref_b x4 o5, if_neg (by decide), if_pos hz, if_neg (by decide)]
      · unfold X8_made
        rw [in_c _ 0 99 _ _ _ (by decide) (by decide), if_pos c, if_neg (by decide), m4, if_pos (by rw [hz]; rfl)]
    · obtain ⟨w, rfl, -, w2⟩ := of_rng (a := 0) (b := 99) rfl rfl (by decide) (by decide) c.1 c.2
      obtain ⟨sx', sm', b1, b2, b3, b4, b5, b6, b7⟩ := both_best hn hok hVX hVM hPl hT hR hE (by omega)
      have hk : ns * D ≤ 18 := nsk o6 o3
      have e0 : (0 : Int32).toNatClampNeg = 0 := by decide
      have key : ∀ (j i b : Nat) (kX kM : Nat), i + j = 13 → b < 13 → j < kX → j < kM → ∃ r, X7_made_46 ((nI w).toInt64 * FI (ns * D)) kX (nI b) (nI i) sx' = some (r, sx') ∧ X8_made_48 (nI w) (FI (ns * D)) kM (nI b) (nI i) sm' = some (r, sm') := by
        intro j
        induction j with
        | zero =>
          intro i b kX kM hj hb hkX hkM
          obtain ⟨kX, rfl⟩ : ∃ k', kX = k' + 1 := ⟨kX - 1, by omega⟩
          obtain ⟨kM, rfl⟩ : ∃ k', kM = k' + 1 := ⟨kM - 1, by omega⟩
          have : i = 13 := by omega
          subst this
          refine ⟨nI b, ?_, ?_⟩
          · show X7_made_46b (X7_made_46 ((nI w).toInt64 * FI (ns * D)) kX) ((nI w).toInt64 * FI (ns * D)) (nI b) (nI 13) sx' = _
            unfold X7_made_46b X7_made_103
            rw [if_pos gt12']
          · show X8_made_48b (X8_made_48 (nI w) (FI (ns * D)) kM) (nI w) (FI (ns * D)) (nI b) (nI 13) sm' = _
            unfold X8_made_48b X8_made_104
            rw [if_pos gt12']
        | succ j ih =>
          intro i b kX kM hj hb hkX hkM
          obtain ⟨kX, rfl⟩ : ∃ k', kX = k' + 1 := ⟨kX - 1, by omega⟩
          obtain ⟨kM, rfl⟩ : ∃ k', kM = k' + 1 := ⟨kM - 1, by omega⟩
          have cost : ∀ u : Nat, u < 13 → ((nI w * nI u).toInt64 * FI (ns * D)) = (nI w).toInt64 * FI (ns * D) * (nI u).toInt64 := fun u hu => by
            have hwu : w * u ≤ 99 * 12 := Nat.mul_le_mul w2 (by omega)
            rw [pk_mul, nI_l (by omega), nI_l (by omega), nI_l (by omega), ← lN_mul]
            grind
          have vX : ∀ u, u < 13 → sx'.2 (10 + 0) u = BV q D re np ns D u := fun u hu => (b3 0 (by omega) u (by omega)).1
          have vM : ∀ u, u < 13 → sm'.2 8 u = BV q D re np ns D u := fun u hu => by
            have := b4.1 0 (by omega) u hu
            simpa using this
          by_cases cc : BV q D re np ns D b - (nI w).toInt64 * FI (ns * D) * (nI b).toInt64 < BV q D re np ns D i - (nI w).toInt64 * FI (ns * D) * (nI i).toInt64
          · obtain ⟨r, r1, r2⟩ := ih (i + 1) i kX kM (by omega) (by omega) (by omega) (by omega)
            refine ⟨r, ?_, ?_⟩
            · show X7_made_46b (X7_made_46 ((nI w).toInt64 * FI (ns * D)) kX) ((nI w).toInt64 * FI (ns * D)) (nI b) (nI i) sx' = _
              unfold X7_made_46b X7_made_97
              simp only [lg_le0]
              rw [if_neg (gt12 (by omega)), show (0 : Int32) = nI 0 from rfl, cx7 (by omega), cx13 (by omega), cx7 (by omega), cx13 hb, clI (by omega), clI (by omega), clI (by omega), vX i (by omega), vX b hb, if_neg (fun z => z cc), nm_eq, nI_1]
              exact r1
            · show X8_made_48b (X8_made_48 (nI w) (FI (ns * D)) kM) (nI w) (FI (ns * D)) (nI b) (nI i) sm' = _
              unfold X8_made_48b X8_made_96
              simp only [lg_le0]
              rw [if_neg (gt12 (by omega)), cx91 (by omega), cx91 (by omega), clI (by omega), clI (by omega), vM i (by omega), vM b hb, cost i (by omega), cost b hb, if_neg (fun z => z cc), nm_eq, nI_1]
              exact r2
          · obtain ⟨r, r1, r2⟩ := ih (i + 1) b kX kM (by omega) (by omega) (by omega) (by omega)
            refine ⟨r, ?_, ?_⟩
            · show X7_made_46b (X7_made_46 ((nI w).toInt64 * FI (ns * D)) kX) ((nI w).toInt64 * FI (ns * D)) (nI b) (nI i) sx' = _
              unfold X7_made_46b X7_made_97
              simp only [lg_le0]
              rw [if_neg (gt12 (by omega)), show (0 : Int32) = nI 0 from rfl, cx7 (by omega), cx13 (by omega), cx7 (by omega), cx13 hb, clI (by omega), clI (by omega), clI (by omega), vX i (by omega), vX b hb, if_pos cc, nm_eq, nI_1]
              exact r1
            · show X8_made_48b (X8_made_48 (nI w) (FI (ns * D)) kM) (nI w) (FI (ns * D)) (nI b) (nI i) sm' = _
              unfold X8_made_48b X8_made_96
              simp only [lg_le0]
              rw [if_neg (gt12 (by omega)), cx91 (by omega), cx91 (by omega), clI (by omega), clI (by omega), vM i (by omega), vM b hb, cost i (by omega), cost b hb, if_pos cc, nm_eq, nI_1]
              exact r2
      obtain ⟨r, r1, r2⟩ := key 12 1 0 FU FU (by omega) (by omega) (FU_gt (by omega)) (FU_gt (by omega))
      refine ⟨r, sx', sm', ?_, ?_, b7⟩
      · unfold X7_made
        rw [wi_b, if_pos c, ref_b x4 o5, if_neg (by decide), if_neg hz, if_pos rfl, b1, bnd1_some, b5.2.1, sc_X b5.2.2.2.2.1 (by omega), bnd1_some, nm_eq]
        exact r1
      · unfold X8_made
        rw [in_c _ 0 99 _ _ _ (by decide) (by decide), if_pos c, if_neg (by decide), m4, if_neg (nI_ne0 (by omega) (by omega)), b2, bnd1_some, b6.2.2.2.2.1, b6.2.1, pk_mul, pw_M (by omega), bnd1_some]
        exact r2
  · refine ⟨-2, sx, sm, ?_, ?_, rel_idle hn h⟩
    · unfold X7_made
      rw [wi_b, if_neg c, ref_b x4 o5, if_pos rfl, if_neg (by decide)]
    · unfold X8_made
      rw [in_c _ 0 99 _ _ _ (by decide) (by decide), if_neg c, if_pos rfl]
