theorem rel_arr {n : Nat} {sx sm : Sg} {q : Nat → Nat → Int32} {C D re np ns : Nat} (hn : n < 512) (h : Rel n sx sm) (hVX : VX sx q C D re np ns) (hVM : VM sm q C D re np ns) (hPl : Pln sx sm np) {j i : Nat} {v : Int32} (hj : 1 ≤ j ∧ j ≤ 4) (hok : Okd (fun t => if t = j then upd (q j) i v else q t) C D re np ns) : Rel (n + 1) (sI (sI sx (2 + j) i v) 1 10 (sx.1 1 10 + 1)) (sI sm (1 + j) i v) := by
  obtain ⟨x1, x2, x3, x4, x5, x6⟩ := id hVX
  obtain ⟨m1, m2, m3, m4, m5, m6⟩ := id hVM
  have e1 : ∀ k, (sI sx (2 + j) i v).1 1 k = sx.1 1 k := fun k => by rw [sI_ne (by omega)]
  have e0 : ∀ k, (sI sm (1 + j) i v).1 0 k = sm.1 0 k := fun k => by rw [sI_ne (by omega)]
  refine rel_chg hn h (q' := fun t => if t = j then upd (q j) i v else q t) (C' := C) (D' := D) (re' := re) (np' := np) (ns' := ns) hok ⟨?_, ?_, ?_, ?_, ?_, fun t ht => ?_⟩ ⟨?_, ?_, ?_, ?_, ?_, fun t ht => ?_⟩ ?_ ?_ ?_ ?_ ?_ ?_
  · rw [sI_at, if_neg (by decide), e1]; exact x1
  · rw [sI_at, if_neg (by decide), e1]; exact x2
  · rw [sI_at, if_neg (by decide), e1]; exact x3
  · rw [sI_at, if_neg (by decide), e1]; exact x4
  · rw [sI_at, if_neg (by decide), e1]; exact x5
  · rw [sI_ne (by omega)]
    by_cases c : t = j
    · subst c
      rw [sI_eq, x6 t ht]; simp
    · rw [sI_ne (by omega), x6 t ht]; simp [c]
  · rw [e0]; exact m1
  · rw [e0]; exact m2
  · rw [e0]; exact m3
  · rw [e0]; exact m4
  · rw [e0]; exact m5
  · by_cases c : t = j
    · subst c
      rw [sI_eq, m6 t ht]; simp
    · rw [sI_ne (by omega), m6 t ht]; simp [c]
  · unfold Pln
    rw [sI_ne (by omega), sI_ne (by omega), sI_ne (by omega)]
    exact hPl
  · rw [sI_at, if_pos ⟨rfl, rfl⟩]
  · rw [sI_ne (by omega), sI_ne (by omega)]
  · intro o ho; rw [sI_ne (by omega), sI_ne (by omega)]
  · exact ⟨e0 _, e0 _, e0 _⟩
  · intro o ho; rw [sI_ne (by omega)]
theorem s_change (n : Nat) (sx sm : Sg) (a0 a1 a2 : Int32) (hn : n < 512) (h : Rel n sx sm) : ∃ (r : Int32) (sx9 : Sg) (sm9 : Sg), X7_change a0 a1 a2 sx = some (r, sx9) ∧ X8_change a0 a1 a2 sm = some (r, sm9) ∧ Rel (n + 1) sx9 sm9 := by
  obtain ⟨hn0, q, C, D, re, np, ns, hok, hVX, hVM, hPl, hT, hR, hE⟩ := id h
  obtain ⟨o1, o2, o3, o4, o5, o6, o7, o8, o9, o10, o11⟩ := id hok
  obtain ⟨x1, x2, x3, x4, x5, x6⟩ := id hVX
  obtain ⟨m1, m2, m3, m4, m5, m6⟩ := id hVM
  have p1 : sx.1 3 = q 1 := x6 1 (by decide)
  have p2 : sx.1 4 = q 2 := x6 2 (by decide)
  have p3 : sx.1 5 = q 3 := x6 3 (by decide)
  have p4 : sx.1 6 = q 4 := x6 4 (by decide)
  have r1 : sm.1 2 = q 1 := m6 1 (by decide)
  have r2 : sm.1 3 = q 2 := m6 2 (by decide)
  have r3 : sm.1 4 = q 3 := m6 3 (by decide)
  have r4 : sm.1 5 = q 4 := m6 4 (by decide)
  have ed : ∀ o i v, o ≠ 1 → (sI sx o i v).1 1 10 = sx.1 1 10 := fun o i v ho => by rw [sI_ne (Ne.symm ho)]
  by_cases hs : ∃ i, i < ns ∧ a0 = nI i
  · obtain ⟨i, hi, rfl⟩ := hs
    have hi3 : i < 3 := by omega
    have cx : ∀ {α : Type} {k : Option α}, cix (nI i) 3 k = k := fun {α} {k} => cix_nI hi3 (by decide)
    have cl : (nI i).toNatClampNeg = i := nI_clamp (by omega)
    by_cases c0 : a1 = 0
    · subst c0
      by_cases c : (0 : Int32) ≤ a2 ∧ a2 ≤ 4
      · obtain ⟨v, hv, -, v2⟩ := of_rng (a := 0) (b := 4) rfl rfl (by decide) (by decide) c.1 c.2
        refine ⟨q 1 i, sI (sI sx 3 i a2) 1 10 (sx.1 1 10 + 1), sI sm 2 i a2, ?_, ?_, rel_arr (j := 1) hn h hVX hVM hPl (by decide) ⟨o1, o2, o3, o4, o5, o6, o7, fun t ht => ?_, o9, o10, o11⟩⟩
        · unfold X7_change X7_change_169
          rw [isS_y x5 hi (by omega), if_neg (by decide), if_pos rfl, wi_b, if_pos c, if_neg (by decide), cx, nm_eq, cx, nm_eq, nm_eq, cl, ed _ _ _ (by decide), p1]
        · unfold X8_change X8_change_36 X8_change_60 X8_change_130 X8_change_183
          rw [mS_y m5 hi (by omega), if_neg (by decide), in_c _ 0 3 _ _ _ (by decide) (by decide), if_pos (show (0 : Int32) ≤ 0 ∧ (0 : Int32) ≤ 3 by decide), if_neg (by decide), if_neg (by decide), if_pos rfl, in_c _ 0 4 _ _ _ (by decide) (by decide), if_pos c, if_neg (by decide), if_pos rfl, cx, if_pos rfl, cx, nm_eq, cl, r1]
        · by_cases ci : t = i
          · exact ⟨v, by simp [upd, ci, hv], v2⟩
          · obtain ⟨w, w1, w2⟩ := o8 t ht
            exact ⟨w, by simp [upd, ci, w1], w2⟩
      · refine ⟨-2, sx, sm, ?_, ?_, rel_idle hn h⟩
        · unfold X7_change X7_change_50 X7_change_89 X7_change_128 X7_change_166
          rw [isS_y x5 hi (by omega), if_neg (by decide), if_pos rfl, wi_b, if_neg c, if_pos rfl, if_neg (by decide), if_neg (by decide), if_neg (by decide)]
        · unfold X8_change X8_change_36 X8_change_60 X8_change_66
          rw [mS_y m5 hi (by omega), if_neg (by decide), in_c _ 0 3 _ _ _ (by decide) (by decide), if_pos (show (0 : Int32) ≤ 0 ∧ (0 : Int32) ≤ 3 by decide), if_neg (by decide), if_neg (by decide), if_pos rfl, in_c _ 0 4 _ _ _ (by decide) (by decide), if_neg c, if_pos rfl]
    · by_cases c1 : a1 = 1
      · subst c1
        by_cases c : (0 : Int32) ≤ a2 ∧ a2 ≤ 99
        · obtain ⟨v, hv, -, v2⟩ := of_rng (a := 0) (b := 99) rfl rfl (by decide) (by decide) c.1 c.2
          refine ⟨q 2 i, sI (sI sx 4 i a2) 1 10 (sx.1 1 10 + 1), sI sm 3 i a2, ?_, ?_, rel_arr (j := 2) hn h hVX hVM hPl (by decide) ⟨o1, o2, o3, o4, o5, o6, o7, o8, fun t ht => ?_, o10, o11⟩⟩
          · unfold X7_change X7_change_50 X7_change_169
            rw [isS_y x5 hi (by omega), if_neg (by decide), if_neg c0, if_pos rfl, wi_b, if_pos c, if_neg (by decide), cx, nm_eq, cx, nm_eq, nm_eq, cl, ed _ _ _ (by decide), p2]
          · unfold X8_change X8_change_36 X8_change_60 X8_change_130 X8_change_183
            rw [mS_y m5 hi (by omega), if_neg (by decide), in_c _ 0 3 _ _ _ (by decide) (by decide), if_pos (show (0 : Int32) ≤ 1 ∧ (1 : Int32) ≤ 3 by decide), if_neg (by decide), if_neg (by decide), if_neg c0, if_pos rfl, in_c _ 0 99 _ _ _ (by decide) (by decide), if_pos c, if_neg (by decide), if_neg c0, if_pos rfl, cx, if_neg c0, if_pos rfl, cx, nm_eq, cl, r2]
          · by_cases ci : t = i
            · exact ⟨v, by simp [upd, ci, hv], v2⟩
            · obtain ⟨w, w1, w2⟩ := o9 t ht
              exact ⟨w, by simp [upd, ci, w1], w2⟩
        · refine ⟨-2, sx, sm, ?_, ?_, rel_idle hn h⟩
          · unfold X7_change X7_change_50 X7_change_89 X7_change_128 X7_change_166
            rw [isS_y x5 hi (by omega), if_neg (by decide), if_neg c0, if_pos rfl, wi_b, if_neg c, if_pos rfl, if_neg (by decide), if_neg (by decide)]
          · unfold X8_change X8_change_36 X8_change_60 X8_change_66
            rw [mS_y m5 hi (by omega), if_neg (by decide), in_c _ 0 3 _ _ _ (by decide) (by decide), if_pos (show (0 : Int32) ≤ 1 ∧ (1 : Int32) ≤ 3 by decide), if_neg (by decide), if_neg (by decide), if_neg c0, if_pos rfl, in_c _ 0 99 _ _ _ (by decide) (by decide), if_neg c, if_pos rfl]
      · by_cases c2 : a1 = 2
        · subst c2
          by_cases c : (0 : Int32) ≤ a2 ∧ a2 ≤ 30
          · obtain ⟨v, hv, -, v2⟩ := of_rng (a := 0) (b := 30) rfl rfl (by decide) (by decide) c.1 c.2
            refine ⟨q 3 i, sI (sI sx 5 i a2) 1 10 (sx.1 1 10 + 1), sI sm 4 i a2, ?_, ?_, rel_arr (j := 3) hn h hVX hVM hPl (by decide) ⟨o1, o2, o3, o4, o5, o6, o7, o8, o9, fun t ht => ?_, o11⟩⟩
            · unfold X7_change X7_change_50 X7_change_89 X7_change_169
              rw [isS_y x5 hi (by omega), if_neg (by decide), if_neg c0, if_neg c1, if_pos rfl, wi_b, if_pos c, if_neg (by decide), cx, nm_eq, cx, nm_eq, nm_eq, cl, ed _ _ _ (by decide), p3]
            · unfold X8_change X8_change_36 X8_change_60 X8_change_130 X8_change_183
              rw [mS_y m5 hi (by omega), if_neg (by decide), in_c _ 0 3 _ _ _ (by decide) (by decide), if_pos (show (0 : Int32) ≤ 2 ∧ (2 : Int32) ≤ 3 by decide), if_neg (by decide), if_neg (by decide), if_neg c0, if_neg c1, in_c _ 0 30 _ _ _ (by decide) (by decide), if_pos c, if_neg (by decide), if_neg c0, if_neg c1, if_pos rfl, cx, if_neg c0, if_neg c1, if_pos rfl, cx, nm_eq, cl, r3]
            · by_cases ci : t = i
              · exact ⟨v, by simp [upd, ci, hv], v2⟩
              · obtain ⟨w, w1, w2⟩ := o10 t ht
                exact ⟨w, by simp [upd, ci, w1], w2⟩
          · refine ⟨-2, sx, sm, ?_, ?_, rel_idle hn h⟩
            · unfold X7_change X7_change_50 X7_change_89 X7_change_128 X7_change_166
              rw [isS_y x5 hi (by omega), if_neg (by decide), if_neg c0, if_neg c1, if_pos rfl, wi_b, if_neg c, if_pos rfl, if_neg (by decide)]
            · unfold X8_change X8_change_36 X8_change_60 X8_change_66
              rw [mS_y m5 hi (by omega), if_neg (by decide), in_c _ 0 3 _ _ _ (by decide) (by decide), if_pos (show (0 : Int32) ≤ 2 ∧ (2 : Int32) ≤ 3 by decide), if_neg (by decide), if_neg (by decide), if_neg c0, if_neg c1, in_c _ 0 30 _ _ _ (by decide) (by decide), if_neg c, if_pos rfl]
        · by_cases c3 : a1 = 3
          · subst c3
            by_cases c : (-1 : Int32) ≤ a2 ∧ a2 ≤ 30
            · have hv : a2 = -1 ∨ ∃ v : Nat, a2 = nI v ∧ v ≤ 30 := by
                by_cases cz : a2 = -1
                · exact Or.inl cz
                · have h0 : (0 : Int32) ≤ a2 := by
                    have h1 := c.1
                    rw [Int32.le_iff_toInt_le] at h1 ⊢
                    have t1 : (-1 : Int32).toInt = -1 := by decide
                    have t2 : (0 : Int32).toInt = 0 := by decide
                    have t3 : a2.toInt ≠ -1 := fun z => cz (Int32.toInt_inj.mp (z.trans t1.symm))
                    omega
                  obtain ⟨v, hv, -, v2⟩ := of_rng (a := 0) (b := 30) rfl rfl (by decide) (by decide) h0 c.2
                  exact Or.inr ⟨v, hv, v2⟩
              have neg : (0 : Int32) ≤ q 4 i ↔ ¬ q 4 i = -1 := by
                rcases o11 i hi with w | ⟨w, w1, w2⟩
                · rw [w]; decide
                · rw [w1]
                  have a : (0 : Int32) ≤ nI w := nI_pos' (by omega)
                  have b : ¬ nI w = -1 := fun z => by
                    have := nI_toInt (n := w) (by omega)
                    rw [z] at this
                    have t1 : (-1 : Int32).toInt = -1 := by decide
                    omega
                  exact ⟨fun _ => b, fun _ => a⟩
              have hrel := rel_arr (j := 4) (i := i) (v := a2) hn h hVX hVM hPl (by decide) ⟨o1, o2, o3, o4, o5, o6, o7, o8, o9, o10, fun t ht => by
                by_cases ci : t = i
                · rcases hv with hv | ⟨v, hv, v2⟩
                  · exact Or.inl (by simp [upd, ci, hv])
                  · exact Or.inr ⟨v, by simp [upd, ci, hv], v2⟩
                · rcases o11 t ht with w | ⟨w, w1, w2⟩
                  · exact Or.inl (by simp [upd, ci, w])
                  · exact Or.inr ⟨w, by simp [upd, ci, w1], w2⟩⟩
              by_cases cw : q 4 i = -1
              · refine ⟨-6, sI (sI sx 6 i a2) 1 10 (sx.1 1 10 + 1), sI sm 5 i a2, ?_, ?_, hrel⟩
                · unfold X7_change X7_change_50 X7_change_89 X7_change_128 X7_change_169
                  rw [isS_y x5 hi (by omega), if_neg (by decide), if_neg c0, if_neg c1, if_neg c2, if_pos rfl, wi_b, if_pos c, if_neg (by decide), wT_b hi3, p4, if_pos cw, cx, nm_eq, nm_eq, cl, ed _ _ _ (by decide)]
                · unfold X8_change X8_change_36 X8_change_60 X8_change_130 X8_change_183
                  rw [mS_y m5 hi (by omega), if_neg (by decide), in_c _ 0 3 _ _ _ (by decide) (by decide), if_pos (show (0 : Int32) ≤ 3 ∧ (3 : Int32) ≤ 3 by decide), if_neg (by decide), if_pos rfl, if_neg c0, if_neg c1, in_c _ (-1) 30 _ _ _ (by decide) (by decide), if_pos c, if_neg (by decide), if_neg c0, if_neg c1, if_neg c2, cx, cl, r4, if_neg (fun z => neg.mp z cw), if_neg c0, if_neg c1, if_neg c2, cx, nm_eq]
              · refine ⟨q 4 i, sI (sI sx 6 i a2) 1 10 (sx.1 1 10 + 1), sI sm 5 i a2, ?_, ?_, hrel⟩
                · unfold X7_change X7_change_50 X7_change_89 X7_change_128 X7_change_169
                  rw [isS_y x5 hi (by omega), if_neg (by decide), if_neg c0, if_neg c1, if_neg c2, if_pos rfl, wi_b, if_pos c, if_neg (by decide), wT_b hi3, p4, if_neg cw, cx, nm_eq, nm_eq, cl, ed _ _ _ (by decide)]
                · unfold X8_change X8_change_36 X8_change_60 X8_change_130 X8_change_183
                  rw [mS_y m5 hi (by omega), if_neg (by decide), in_c _ 0 3 _ _ _ (by decide) (by decide), if_pos (show (0 : Int32) ≤ 3 ∧ (3 : Int32) ≤ 3 by decide), if_neg (by decide), if_pos rfl, if_neg c0, if_neg c1, in_c _ (-1) 30 _ _ _ (by decide) (by decide), if_pos c, if_neg (by decide), if_neg c0, if_neg c1, if_neg c2, cx, cl, r4, if_pos (neg.mpr cw), cx, if_neg c0, if_neg c1, if_neg c2, cx, nm_eq]
            · refine ⟨-2, sx, sm, ?_, ?_, rel_idle hn h⟩
              · unfold X7_change X7_change_50 X7_change_89 X7_change_128 X7_change_166
                rw [isS_y x5 hi (by omega), if_neg (by decide), if_neg c0, if_neg c1, if_neg c2, if_pos rfl, wi_b, if_neg c, if_pos rfl]
              · unfold X8_change X8_change_36 X8_change_60 X8_change_66
                rw [mS_y m5 hi (by omega), if_neg (by decide), in_c _ 0 3 _ _ _ (by decide) (by decide), if_pos (show (0 : Int32) ≤ 3 ∧ (3 : Int32) ≤ 3 by decide), if_neg (by decide), if_pos rfl, if_neg c0, if_neg c1, in_c _ (-1) 30 _ _ _ (by decide) (by decide), if_neg c, if_pos rfl]
          · have hno : ¬ ((0 : Int32) ≤ a1 ∧ a1 ≤ 3) := by
              intro z
              obtain ⟨v, hv, hv2⟩ := (rngP (x := a1) (m := 4) (by decide)).mp z
              have : v = 0 ∨ v = 1 ∨ v = 2 ∨ v = 3 := by omega
              rcases this with rfl | rfl | rfl | rfl
              · exact c0 hv2
              · exact c1 hv2
              · exact c2 hv2
              · exact c3 hv2
            refine ⟨-2, sx, sm, ?_, ?_, rel_idle hn h⟩
            · unfold X7_change X7_change_50 X7_change_89 X7_change_128 X7_change_166
              rw [isS_y x5 hi (by omega), if_neg (by decide), if_neg c0, if_neg c1, if_neg c2, if_neg c3]
            · unfold X8_change X8_change_66
              rw [mS_y m5 hi (by omega), if_neg (by decide), in_c _ 0 3 _ _ _ (by decide) (by decide), if_neg hno, if_pos rfl]
  · refine ⟨-1, sx, sm, ?_, ?_, rel_idle hn h⟩
    · unfold X7_change
      rw [isS_n x5 hs (by omega), if_pos rfl]
    · unfold X8_change
      rw [mS_n m5 hs (by omega), if_pos rfl]
theorem sub_nI {x : Int32} {a b i : Nat} (hx : x = nI (a + i)) (hb : b = a) : x - nI b = nI i := by
  subst hb; subst hx
  rw [pk_sub (by omega)]
  congr 1
  omega
theorem s_told (n : Nat) (sx sm : Sg) (a0 : Int32) (hn : n < 512) (h : Rel n sx sm) : ∃ (r : Int32), X7_told a0 sx = some r ∧ X8_told a0 sm = some r ∧ Rel (n + 1) sx sm := by
  obtain ⟨hn0, q, C, D, re, np, ns, hok, hVX, hVM, hPl, hT, hR, hE⟩ := id h
  obtain ⟨o1, o2, o3, o4, o5, o6, o7, o8, o9, o10, o11⟩ := id hok
  obtain ⟨x1, x2, x3, x4, x5, x6⟩ := id hVX
  obtain ⟨m1, m2, m3, m4, m5, m6⟩ := id hVM
  obtain ⟨t, k, k1, k2, k3, k4, k5⟩ := id hT
  have p0 : sx.1 2 = q 0 := x6 0 (by decide)
  have p4 : sx.1 6 = q 4 := x6 4 (by decide)
  have r0 : sm.1 1 = q 0 := m6 0 (by decide)
  have r4 : sm.1 5 = q 4 := m6 4 (by decide)
  by_cases ca : (10 : Int32) ≤ a0 ∧ a0 ≤ 15
  · obtain ⟨v, rfl, v1, v2⟩ := of_rng (a := 10) (b := 15) rfl rfl (by decide) (by decide) ca.1 ca.2
    have e : nI v - 10 = nI (v - 10) := pk_sub (a := v) (b := 10) (by omega)
    refine ⟨sx.1 7 (v - 10), ?_, ?_, rel_idle hn h⟩
    · unfold X7_told
      rw [wi_b, if_pos ca, if_neg (by decide), e, cix_nI (by omega) (by decide), nI_clamp (by omega)]
    · unfold X8_told
      rw [in_c _ 10 15 _ _ _ (by decide) (by decide), if_pos ca, if_neg (by decide), e, cix_nI (by omega) (by decide), nI_clamp (by omega), hPl.1]
  · by_cases cc : (20 : Int32) ≤ a0 ∧ a0 ≤ 24
    · obtain ⟨v, rfl, v1, v2⟩ := of_rng (a := 20) (b := 24) rfl rfl (by decide) (by decide) cc.1 cc.2
      have e : nI v - 20 = nI (v - 20) := pk_sub (a := v) (b := 20) (by omega)
      by_cases hl : v - 20 < np
      · refine ⟨q 0 (v - 20), ?_, ?_, rel_idle hn h⟩
        · unfold X7_told X7_told_63
          rw [wi_b, if_neg ca, if_pos rfl, wi_b, if_pos cc, if_neg (by decide), e, isP_y x4 hl (by omega), if_neg (by decide), cix_nI (by omega) (by decide), nI_clamp (by omega), p0]
        · unfold X8_told X8_told_63
          rw [in_c _ 10 15 _ _ _ (by decide) (by decide), if_neg ca, if_pos rfl, in_c _ 20 24 _ _ _ (by decide) (by decide), if_pos cc, if_neg (by decide), e, m4, if_neg (nI_ge hl (by omega)), cix_nI (by omega) (by decide), nI_clamp (by omega), r0]
      · refine ⟨-6, ?_, ?_, rel_idle hn h⟩
        · unfold X7_told X7_told_63
          rw [wi_b, if_neg ca, if_pos rfl, wi_b, if_pos cc, if_neg (by decide), e, isP_n x4 (fun ⟨i, hi, hie⟩ => hl (by have := nI_inj (by omega) (by omega) hie; omega)) (by omega), if_pos rfl]
        · unfold X8_told X8_told_63
          rw [in_c _ 10 15 _ _ _ (by decide) (by decide), if_neg ca, if_pos rfl, in_c _ 20 24 _ _ _ (by decide) (by decide), if_pos cc, if_neg (by decide), e, m4, if_pos (nI_le (by omega) (by omega))]
    · by_cases cd : (30 : Int32) ≤ a0 ∧ a0 ≤ 32
      · obtain ⟨v, rfl, v1, v2⟩ := of_rng (a := 30) (b := 32) rfl rfl (by decide) (by decide) cd.1 cd.2
        have e : nI v - 30 = nI (v - 30) := pk_sub (a := v) (b := 30) (by omega)
        by_cases hl : v - 30 < ns
        · have neg : q 4 (v - 30) < 0 ↔ q 4 (v - 30) = -1 := by
            rcases o11 _ hl with w | ⟨w, w1, w2⟩
            · rw [w]; decide
            · rw [w1]
              have a : ¬ nI w < 0 := nI_pos (by omega)
              have b : ¬ nI w = -1 := fun z => by
                have := nI_toInt (n := w) (by omega)
                rw [z] at this
                have t1 : (-1 : Int32).toInt = -1 := by decide
                omega
              exact ⟨fun z => absurd z a, fun z => absurd z b⟩
          by_cases cw : q 4 (v - 30) = -1
          · refine ⟨-6, ?_, ?_, rel_idle hn h⟩
            · unfold X7_told X7_told_105
              rw [wi_b, if_neg ca, if_pos rfl, wi_b, if_neg cc, if_pos rfl, wi_b, if_pos cd, if_neg (by decide), e, isS_y x5 hl (by omega), if_neg (by decide), wT_b (by omega), p4, if_pos cw]
            · unfold X8_told X8_told_113 X8_told_115
              rw [in_c _ 10 15 _ _ _ (by decide) (by decide), if_neg ca, if_pos rfl, in_c _ 20 24 _ _ _ (by decide) (by decide), if_neg cc, if_pos rfl, in_c _ 30 32 _ _ _ (by decide) (by decide), if_pos cd, if_neg (by decide), e, m5, if_neg (nI_ge hl (by omega)), cix_nI (by omega) (by decide), nI_clamp (by omega), r4, if_pos (neg.mpr cw)]
          · refine ⟨q 4 (v - 30), ?_, ?_, rel_idle hn h⟩
            · unfold X7_told X7_told_105
              rw [wi_b, if_neg ca, if_pos rfl, wi_b, if_neg cc, if_pos rfl, wi_b, if_pos cd, if_neg (by decide), e, isS_y x5 hl (by omega), if_neg (by decide), wT_b (by omega), p4, if_neg cw]
            · unfold X8_told X8_told_115
              rw [in_c _ 10 15 _ _ _ (by decide) (by decide), if_neg ca, if_pos rfl, in_c _ 20 24 _ _ _ (by decide) (by decide), if_neg cc, if_pos rfl, in_c _ 30 32 _ _ _ (by decide) (by decide), if_pos cd, if_neg (by decide), e, m5, if_neg (nI_ge hl (by omega)), cix_nI (by omega) (by decide), nI_clamp (by omega), r4, if_neg (fun z => cw (neg.mp z)), cix_nI (by omega) (by decide)]
        · refine ⟨-6, ?_, ?_, rel_idle hn h⟩
          · unfold X7_told X7_told_105
            rw [wi_b, if_neg ca, if_pos rfl, wi_b, if_neg cc, if_pos rfl, wi_b, if_pos cd, if_neg (by decide), e, isS_n x5 (fun ⟨i, hi, hie⟩ => hl (by have := nI_inj (by omega) (by omega) hie; omega)) (by omega), if_pos rfl]
          · unfold X8_told X8_told_113 X8_told_115
            rw [in_c _ 10 15 _ _ _ (by decide) (by decide), if_neg ca, if_pos rfl, in_c _ 20 24 _ _ _ (by decide) (by decide), if_neg cc, if_pos rfl, in_c _ 30 32 _ _ _ (by decide) (by decide), if_pos cd, if_neg (by decide), e, m5, if_pos (nI_le (by omega) (by omega))]
      · have hX : X7_told a0 sx = if a0 = 0 then some (nI C) else if a0 = 1 then some (nI D) else if a0 = 2 then some (nI re) else if a0 = 3 then some (nI np) else if a0 = 4 then some (nI ns) else if a0 = 5 then some (nI k) else some (-2) := by
          unfold X7_told
          rw [wi_b, if_neg ca, if_pos rfl, wi_b, if_neg cc, if_pos rfl, wi_b, if_neg cd, if_pos rfl, x1, x2, x3, x4, x5, k2]
        have hM : X8_told a0 sm = if a0 = 0 then some (nI C) else if a0 = 1 then some (nI D) else if a0 = 2 then some (nI re) else if a0 = 3 then some (nI np) else if a0 = 4 then some (nI ns) else if a0 = 5 then some (nI k) else some (-2) := by
          unfold X8_told
          rw [in_c _ 10 15 _ _ _ (by decide) (by decide), if_neg ca, if_pos rfl, in_c _ 20 24 _ _ _ (by decide) (by decide), if_neg cc, if_pos rfl, in_c _ 30 32 _ _ _ (by decide) (by decide), if_neg cd, if_pos rfl, m1, m2, m3, m4, m5, k3]
        have hr : ∃ r, (if a0 = 0 then some (nI C) else if a0 = 1 then some (nI D) else if a0 = 2 then some (nI re) else if a0 = 3 then some (nI np) else if a0 = 4 then some (nI ns) else if a0 = 5 then some (nI k) else some (-2)) = some r := by
          repeat' split
          all_goals exact ⟨_, rfl⟩
        obtain ⟨r, hr⟩ := hr
        exact ⟨r, hX.trans hr, hM.trans hr, rel_idle hn h⟩
