theorem s_price (n : Nat) (sx sm : Sg) (a0 : Int32) (hn : n < 512) (h : Rel n sx sm) : ∃ (r : Int32) (sx9 : Sg) (sm9 : Sg), X7_price a0 sx = some (r, sx9) ∧ X8_price a0 sm = some (r, sm9) ∧ Rel (n + 1) sx9 sm9 := by
  obtain ⟨hn0, q, C, D, re, np, ns, hok, hVX, hVM, hPl, hT, hR, hE⟩ := id h
  obtain ⟨o1, o2, o3, o4, o5, o6, o7, o8⟩ := id hok
  obtain ⟨x1, x2, x3, x4, x5, x6⟩ := id hVX
  obtain ⟨m1, m2, m3, m4, m5, m6⟩ := id hVM
  have p0 : sx.1 2 = q 0 := x6 0 (by decide)
  have r0 : sm.1 1 = q 0 := m6 0 (by decide)
  -- what both ask first
  have key : ∀ (c : (1 ≤ a0 ∧ a0 ≤ 99) ∧ (np = 0 ∨ a0 < q 0 (np - 1))), ∃ (r : Int32) (sx9 : Sg) (sm9 : Sg), X7_price_40 a0 (nI np) sx = some (r, sx9) ∧ (if nI np = (5 : Int32) then some ((-4 : Int32), sm) else cix (nI np) 5 <| nm (sI sm 1 (nI np).toNatClampNeg a0) fun st6 => nm (sI st6 0 4 ((st6.1 0 4) + 1)) fun st7 => some ((st7.1 0 4) - 1, st7)) = some (r, sm9) ∧ Rel (n + 1) sx9 sm9 := by
    intro c
    by_cases cf : np = 5
    · subst cf
      refine ⟨-4, sx, sm, ?_, ?_, rel_idle hn h⟩
      · simp [X7_price_40, nI]
      · simp [nI]
    · have hlt : np < 5 := by omega
      have c5 : nI np < (5 : Int32) := nI_lt (a := np) (b := 5) hlt (by decide)
      have c6 : ¬ nI np = (5 : Int32) := fun z => cf (nI_inj (a := np) (b := 5) (by omega) (by decide) z)
      obtain ⟨v, hv, v1, v2⟩ := of_rng (a := 1) (b := 99) rfl rfl (by decide) (by decide) c.1.1 c.1.2
      refine ⟨nI np, sI (sI (sI sx 2 np a0) 1 4 (nI (np + 1))) 1 10 (sx.1 1 10 + 1), sI (sI sm 1 np a0) 0 4 (nI (np + 1)), ?_, ?_, ?_⟩
      · unfold X7_price_40
        rw [if_pos c5, cix_nI hlt (by decide), nm_eq, nm_eq, nm_eq, nI_clamp (by omega), sI_ne (o' := 1) (by decide), x4, nI_1, sI_at, if_neg (by decide), sI_ne (o' := 1) (by decide)]
      · have e4 : (sI sm 1 np a0).1 0 4 = nI np := by rw [sI_ne (by decide)]; exact m4
        rw [if_neg c6, cix_nI hlt (by decide), nm_eq, nm_eq, nI_clamp (by omega), e4, nI_1, sI_at, if_pos ⟨rfl, rfl⟩, nI_pred]
      · refine rel_chg hn h (q' := fun j => if j = 0 then upd (q 0) np a0 else q j) (C' := C) (D' := D) (re' := re) (np' := np + 1) (ns' := ns) ⟨o1, o2, o3, o4, by omega, o6, fun i hi => ?_, o8⟩ ⟨?_, ?_, ?_, ?_, ?_, fun i hi => ?_⟩ ⟨?_, ?_, ?_, ?_, ?_, fun i hi => ?_⟩ ?_ ?_ ?_ ?_ ?_ ?_
        · by_cases ci : i = np
          · exact ⟨v, by simp [upd, ci, hv], v1, v2⟩
          · obtain ⟨w, w1, w2⟩ := o7 i (by omega)
            exact ⟨w, by simp [upd, ci, w1], w2⟩
        · simp [sI_at, x1]
        · simp [sI_at, x2]
        · simp [sI_at, x3]
        · simp [sI_at]
        · simp [sI_at, x5]
        · rw [sI_ne (by omega), sI_ne (by omega)]
          by_cases ci : i = 0
          · subst ci
            rw [show 2 + 0 = 2 from rfl, sI_eq, p0]; rfl
          · rw [sI_ne (by omega), x6 i hi]; simp [ci]
        · simp [sI_at, m1]
        · simp [sI_at, m2]
        · simp [sI_at, m3]
        · simp [sI_at]
        · simp [sI_at, m5]
        · rw [sI_ne (by omega)]
          by_cases ci : i = 0
          · subst ci
            rw [show 1 + 0 = 1 from rfl, sI_eq, r0]; rfl
          · rw [sI_ne (by omega), m6 i hi]; simp [ci]
        · unfold Pln
          rw [sI_ne (by omega), sI_ne (by omega), sI_ne (by omega), sI_ne (by omega), sI_ne (by omega)]
          refine ⟨hPl.1, fun d hd => ?_⟩
          obtain ⟨w, w1, w2⟩ := hPl.2 d hd
          exact ⟨w, w1, by omega⟩
        · simp [sI_at]
        · rw [sI_ne (by omega), sI_ne (by omega), sI_ne (by omega)]
        · intro o ho; rw [sI_ne (by omega), sI_ne (by omega), sI_ne (by omega)]
        · simp [sI_at]
        · intro o ho; rw [sI_ne (by omega), sI_ne (by omega)]
  by_cases hz : np = 0
  · subst hz
    by_cases c : (1 : Int32) ≤ a0 ∧ a0 ≤ 99
    · obtain ⟨r, sx9, sm9, k1, k2, k3⟩ := key ⟨c, Or.inl rfl⟩
      refine ⟨r, sx9, sm9, ?_, ?_, k3⟩
      · unfold X7_price
        rw [nm_eq, x4, wi_b, if_pos c, if_neg (by decide), if_pos (by decide)]
        exact k1
      · unfold X8_price X8_price_30
        rw [m4, if_pos (by decide), in_c _ 1 99 _ _ _ (by decide) (by decide), if_pos c, if_neg (by decide)]
        exact k2
    · refine ⟨-2, sx, sm, ?_, ?_, rel_idle hn h⟩
      · unfold X7_price X7_price_37
        rw [nm_eq, wi_b, if_neg c, if_pos rfl]
      · unfold X8_price X8_price_30
        rw [m4, if_pos (by decide), in_c _ 1 99 _ _ _ (by decide) (by decide), if_neg c, if_pos rfl]
  · obtain ⟨w, w1, w2, w3⟩ := o7 (np - 1) (by omega)
    have e1 : nI np - 1 = nI (np - 1) := pk_sub (a := np) (b := 1) (by omega)
    have e2 : nI w - 1 = nI (w - 1) := pk_sub (a := w) (b := 1) (by omega)
    have hnp0 : ¬ nI np = 0 := nI_ne0 (by omega) (by omega)
    have hnp1 : ¬ nI np ≤ 0 := nI_nle (by omega) (by omega)
    have iff : ((1 : Int32) ≤ a0 ∧ a0 ≤ nI (w - 1)) ↔ ((1 : Int32) ≤ a0 ∧ a0 ≤ 99) ∧ a0 < nI w := by
      have t1 := nI_toInt (n := w - 1) (by omega)
      have t2 := nI_toInt (n := w) (by omega)
      have t3 : (99 : Int32).toInt = 99 := by decide
      simp only [Int32.le_iff_toInt_le, Int32.lt_iff_toInt_lt, t1, t2, t3]
      omega
    by_cases c : ((1 : Int32) ≤ a0 ∧ a0 ≤ 99) ∧ a0 < nI w
    · obtain ⟨r, sx9, sm9, k1, k2, k3⟩ := key ⟨c.1, Or.inr (by rw [w1]; exact c.2)⟩
      refine ⟨r, sx9, sm9, ?_, ?_, k3⟩
      · unfold X7_price
        rw [nm_eq, x4, wi_b, if_pos c.1, if_neg (by decide), if_neg hnp1, e1, cix_nI (by omega) (by decide), nI_clamp (by omega), p0, w1, if_pos c.2]
        exact k1
      · unfold X8_price X8_price_30
        rw [m4, if_neg hnp0, e1, cix_nI (by omega) (by decide), nI_clamp (by omega), r0, w1, e2, in_c _ 1 (nI (w - 1)) _ _ _ (by decide) rfl, if_pos (iff.mpr c), if_neg (by decide)]
        exact k2
    · refine ⟨-2, sx, sm, ?_, ?_, rel_idle hn h⟩
      · unfold X7_price X7_price_37
        rw [nm_eq, x4, wi_b]
        by_cases c1 : (1 : Int32) ≤ a0 ∧ a0 ≤ 99
        · have c2 : ¬ a0 < nI w := fun z => c ⟨c1, z⟩
          rw [if_pos c1, if_neg (by decide), if_neg hnp1, e1, cix_nI (by omega) (by decide), nI_clamp (by omega), p0, w1, if_neg c2]
        · rw [if_neg c1, if_pos rfl]
      · unfold X8_price X8_price_30
        rw [m4, if_neg hnp0, e1, cix_nI (by omega) (by decide), nI_clamp (by omega), r0, w1, e2, in_c _ 1 (nI (w - 1)) _ _ _ (by decide) rfl, if_neg (fun z => c (iff.mp z)), if_pos rfl]
theorem s_sort (n : Nat) (sx sm : Sg) (a0 a1 a2 : Int32) (hn : n < 512) (h : Rel n sx sm) : ∃ (r : Int32) (sx9 : Sg) (sm9 : Sg), X7_sort a0 a1 a2 sx = some (r, sx9) ∧ X8_sort a0 a1 a2 sm = some (r, sm9) ∧ Rel (n + 1) sx9 sm9 := by
  obtain ⟨hn0, q, C, D, re, np, ns, hok, hVX, hVM, hPl, hT, hR, hE⟩ := id h
  obtain ⟨o1, o2, o3, o4, o5, o6, o7, o8, o9, o10, o11⟩ := id hok
  obtain ⟨x1, x2, x3, x4, x5, x6⟩ := id hVX
  obtain ⟨m1, m2, m3, m4, m5, m6⟩ := id hVM
  by_cases c0 : (0 : Int32) ≤ a0 ∧ a0 ≤ 4
  · by_cases c1 : (0 : Int32) ≤ a1 ∧ a1 ≤ 99
    · by_cases c2 : (0 : Int32) ≤ a2 ∧ a2 ≤ 30
      · by_cases cf : ns = 3
        · subst cf
          refine ⟨-4, sx, sm, ?_, ?_, rel_idle hn h⟩
          · unfold X7_sort
            rw [wi_b, if_pos c0, if_neg (by decide), wi_b, if_pos c1, if_neg (by decide), wi_b, if_pos c2, if_neg (by decide), nm_eq, x5, if_neg (by decide)]
          · unfold X8_sort
            rw [in_c _ 0 4 _ _ _ (by decide) (by decide), if_pos c0, if_neg (by decide), in_c _ 0 99 _ _ _ (by decide) (by decide), if_pos c1, if_neg (by decide), in_c _ 0 30 _ _ _ (by decide) (by decide), if_pos c2, if_neg (by decide), m5, if_pos (by decide)]
        · have hlt : ns < 3 := by omega
          have c5 : nI ns < (3 : Int32) := nI_lt (a := ns) (b := 3) hlt (by decide)
          have c6 : ¬ nI ns = (3 : Int32) := fun z => cf (nI_inj (a := ns) (b := 3) (by omega) (by decide) z)
          obtain ⟨v0, hv0, -, b0⟩ := of_rng (a := 0) (b := 4) rfl rfl (by decide) (by decide) c0.1 c0.2
          obtain ⟨v1, hv1, -, b1⟩ := of_rng (a := 0) (b := 99) rfl rfl (by decide) (by decide) c1.1 c1.2
          obtain ⟨v2, hv2, -, b2⟩ := of_rng (a := 0) (b := 30) rfl rfl (by decide) (by decide) c2.1 c2.2
          refine ⟨nI ns, sI (sI (sI (sI (sI (sI sx 3 ns a0) 4 ns a1) 5 ns a2) 6 ns (-1)) 1 9 (nI (ns + 1))) 1 10 (sx.1 1 10 + 1), sI (sI (sI (sI (sI sm 2 ns a0) 3 ns a1) 4 ns a2) 5 ns (-1)) 0 9 (nI (ns + 1)), ?_, ?_, ?_⟩
          · unfold X7_sort
            simp only [wi_b, if_pos c0, if_pos c1, if_pos c2, nm_eq, x5, if_pos c5, cix_nI hlt (by decide : 3 < 2 ^ 31), nI_clamp (show ns < 2 ^ 31 by omega), sI_at]
            simp [x5, nI_1]
          · unfold X8_sort
            simp only [in_c _ 0 4 _ _ _ (by decide : (0 : Int64) = (0 : Int32).toInt64) (by decide : (4 : Int64) = (4 : Int32).toInt64), in_c _ 0 99 _ _ _ (by decide : (0 : Int64) = (0 : Int32).toInt64) (by decide : (99 : Int64) = (99 : Int32).toInt64), in_c _ 0 30 _ _ _ (by decide : (0 : Int64) = (0 : Int32).toInt64) (by decide : (30 : Int64) = (30 : Int32).toInt64), if_pos c0, if_pos c1, if_pos c2, nm_eq, m5, if_neg c6, sI_at]
            simp [m5, nI_1, cix_nI hlt (by decide : 3 < 2 ^ 31), nI_clamp (show ns < 2 ^ 31 by omega), nI_pred, c6]
          · refine rel_chg hn h (q' := fun j => if j = 1 then upd (q 1) ns a0 else if j = 2 then upd (q 2) ns a1 else if j = 3 then upd (q 3) ns a2 else if j = 4 then upd (q 4) ns (-1) else q j) (C' := C) (D' := D) (re' := re) (np' := np) (ns' := ns + 1) ⟨o1, o2, o3, o4, o5, by omega, o7, fun i hi => ?_, fun i hi => ?_, fun i hi => ?_, fun i hi => ?_⟩ ⟨?_, ?_, ?_, ?_, ?_, fun i hi => ?_⟩ ⟨?_, ?_, ?_, ?_, ?_, fun i hi => ?_⟩ ?_ ?_ ?_ ?_ ?_ ?_
            · by_cases ci : i = ns
              · exact ⟨v0, by simp [upd, ci, hv0], b0⟩
              · obtain ⟨w, w1, w2⟩ := o8 i (by omega)
                exact ⟨w, by simp [upd, ci, w1], w2⟩
            · by_cases ci : i = ns
              · exact ⟨v1, by simp [upd, ci, hv1], b1⟩
              · obtain ⟨w, w1, w2⟩ := o9 i (by omega)
                exact ⟨w, by simp [upd, ci, w1], w2⟩
            · by_cases ci : i = ns
              · exact ⟨v2, by simp [upd, ci, hv2], b2⟩
              · obtain ⟨w, w1, w2⟩ := o10 i (by omega)
                exact ⟨w, by simp [upd, ci, w1], w2⟩
            · by_cases ci : i = ns
              · exact Or.inl (by simp [upd, ci])
              · rcases o11 i (by omega) with w | ⟨w, w1, w2⟩
                · exact Or.inl (by simp [upd, ci, w])
                · exact Or.inr ⟨w, by simp [upd, ci, w1], w2⟩
            · simp [sI_at, x1]
            · simp [sI_at, x2]
            · simp [sI_at, x3]
            · simp [sI_at, x4]
            · simp [sI_at]
            · match i, hi with
              | 0, _ => simp [sI_ne]; exact x6 0 (by decide)
              | 1, _ => simp [sI_ne, sI_eq, show sx.1 3 = q 1 from x6 1 (by decide)]
              | 2, _ => simp [sI_ne, sI_eq, show sx.1 4 = q 2 from x6 2 (by decide)]
              | 3, _ => simp [sI_ne, sI_eq, show sx.1 5 = q 3 from x6 3 (by decide)]
              | 4, _ => simp [sI_ne, sI_eq, show sx.1 6 = q 4 from x6 4 (by decide)]
            · simp [sI_at, m1]
            · simp [sI_at, m2]
            · simp [sI_at, m3]
            · simp [sI_at, m4]
            · simp [sI_at]
            · match i, hi with
              | 0, _ => simp [sI_ne]; exact m6 0 (by decide)
              | 1, _ => simp [sI_ne, sI_eq, show sm.1 2 = q 1 from m6 1 (by decide)]
              | 2, _ => simp [sI_ne, sI_eq, show sm.1 3 = q 2 from m6 2 (by decide)]
              | 3, _ => simp [sI_ne, sI_eq, show sm.1 4 = q 3 from m6 3 (by decide)]
              | 4, _ => simp [sI_ne, sI_eq, show sm.1 5 = q 4 from m6 4 (by decide)]
            · unfold Pln
              simp only [sI_ne (show (7 : Nat) ≠ 1 by decide), sI_ne (show (7 : Nat) ≠ 3 by decide), sI_ne (show (7 : Nat) ≠ 4 by decide), sI_ne (show (7 : Nat) ≠ 5 by decide), sI_ne (show (7 : Nat) ≠ 6 by decide), sI_ne (show (6 : Nat) ≠ 0 by decide), sI_ne (show (6 : Nat) ≠ 2 by decide), sI_ne (show (6 : Nat) ≠ 3 by decide), sI_ne (show (6 : Nat) ≠ 4 by decide), sI_ne (show (6 : Nat) ≠ 5 by decide)]
              exact hPl
            · simp [sI_at]
            · simp [sI_ne]
            · intro o ho
              rw [sI_ne (by omega), sI_ne (by omega), sI_ne (by omega), sI_ne (by omega), sI_ne (by omega), sI_ne (by omega)]
            · simp [sI_at]
            · intro o ho
              rw [sI_ne (by omega), sI_ne (by omega), sI_ne (by omega), sI_ne (by omega), sI_ne (by omega)]
      · refine ⟨-2, sx, sm, ?_, ?_, rel_idle hn h⟩
        · unfold X7_sort X7_sort_29
          rw [wi_b, if_pos c0, if_neg (by decide), wi_b, if_pos c1, if_neg (by decide), wi_b, if_neg c2, if_pos rfl]
        · unfold X8_sort X8_sort_36
          rw [in_c _ 0 4 _ _ _ (by decide) (by decide), if_pos c0, if_neg (by decide), in_c _ 0 99 _ _ _ (by decide) (by decide), if_pos c1, if_neg (by decide), in_c _ 0 30 _ _ _ (by decide) (by decide), if_neg c2, if_pos rfl]
    · refine ⟨-2, sx, sm, ?_, ?_, rel_idle hn h⟩
      · unfold X7_sort X7_sort_29
        rw [wi_b, if_pos c0, if_neg (by decide), wi_b, if_neg c1, if_pos rfl]
      · unfold X8_sort X8_sort_36
        rw [in_c _ 0 4 _ _ _ (by decide) (by decide), if_pos c0, if_neg (by decide), in_c _ 0 99 _ _ _ (by decide) (by decide), if_neg c1, if_pos rfl]
  · refine ⟨-2, sx, sm, ?_, ?_, rel_idle hn h⟩
    · unfold X7_sort X7_sort_29
      rw [wi_b, if_neg c0, if_pos rfl]
    · unfold X8_sort X8_sort_36
      rw [in_c _ 0 4 _ _ _ (by decide) (by decide), if_neg c0, if_pos rfl]
theorem s_say (n : Nat) (sx sm : Sg) (a0 : Int32) (hn : n < 512) (h : Rel n sx sm) : ∃ (r : Int32) (sx9 : Sg) (sm9 : Sg), X7_say a0 sx = some (r, sx9) ∧ X8_say a0 sm = some (r, sm9) ∧ Rel (n + 1) sx9 sm9 := by
  obtain ⟨hn0, q, C, D, re, np, ns, hok, hVX, hVM, hPl, hT, hR, hE⟩ := id h
  obtain ⟨x1, x2, x3, x4, x5, x6⟩ := id hVX
  obtain ⟨m1, m2, m3, m4, m5, m6⟩ := id hVM
  obtain ⟨t, k, k1, k2, k3, k4, k5⟩ := hT
  by_cases c : (33 : Int32) ≤ a0 ∧ a0 ≤ 126
  · by_cases cf : k = 40
    · subst cf
      refine ⟨-4, sx, sm, ?_, ?_, rel_idle hn h⟩
      · unfold X7_say
        rw [wi_b, if_pos c, if_neg (by decide), k2, if_neg (by decide)]
      · unfold X8_say
        rw [in_c _ 33 126 _ _ _ (by decide) (by decide), if_pos c, if_neg (by decide), k3, if_pos (by decide)]
    · have hlt : k < 40 := by omega
      have c5 : nI k < (40 : Int32) := nI_lt (a := k) (b := 40) hlt (by decide)
      have c6 : ¬ nI k = (40 : Int32) := fun z => cf (nI_inj (a := k) (b := 40) (by omega) (by decide) z)
      have e1 : (sI sx 68 k a0).1 67 1 = nI k := by rw [sI_ne (by decide)]; exact k2
      have e2 : (sI sm 14 k a0).1 0 20 = nI k := by rw [sI_ne (by decide)]; exact k3
      refine ⟨nI (k + 1), sI (sI sx 68 k a0) 67 1 (nI (k + 1)), sI (sI sm 14 k a0) 0 20 (nI (k + 1)), ?_, ?_, ?_⟩
      · unfold X7_say
        rw [wi_b, if_pos c, if_neg (by decide), k2, if_pos c5, cix_nI hlt (by decide), nm_eq, nm_eq, nI_clamp (by omega), e1, nI_1, sI_at, if_pos ⟨rfl, rfl⟩]
      · unfold X8_say
        rw [in_c _ 33 126 _ _ _ (by decide) (by decide), if_pos c, if_neg (by decide), k3, if_neg c6, cix_nI hlt (by decide), nm_eq, nm_eq, nI_clamp (by omega), e2, nI_1, sI_at, if_pos ⟨rfl, rfl⟩]
      · refine ⟨by omega, q, C, D, re, np, ns, hok, ⟨?_, ?_, ?_, ?_, ?_, fun j hj => ?_⟩, ⟨?_, ?_, ?_, ?_, ?_, fun j hj => ?_⟩, ?_, ⟨upd t k a0, k + 1, by omega, ?_, ?_, ?_, ?_⟩, ?_, ?_⟩
        · simp [sI_at, x1]
        · simp [sI_at, x2]
        · simp [sI_at, x3]
        · simp [sI_at, x4]
        · simp [sI_at, x5]
        · rw [sI_ne (by omega), sI_ne (by omega)]; exact x6 j hj
        · simp [sI_at, m1]
        · simp [sI_at, m2]
        · simp [sI_at, m3]
        · simp [sI_at, m4]
        · simp [sI_at, m5]
        · rw [sI_ne (by omega), sI_ne (by omega)]; exact m6 j hj
        · unfold Pln
          rw [sI_ne (by omega), sI_ne (by omega), sI_ne (by omega), sI_ne (by omega)]
          exact hPl
        · simp [sI_at]
        · simp [sI_at]
        · rw [sI_ne (by omega), sI_eq, k4]
        · rw [sI_ne (by omega), sI_eq, k5]
        · unfold Rul at hR ⊢
          simp only [sI_at, sI_ne (show (69 : Nat) ≠ 67 by decide), sI_ne (show (69 : Nat) ≠ 68 by decide)]
          simpa using hR
        · exact edn_keep hE (by rw [sI_ne (by decide), sI_ne (by decide)]) (by rw [sI_ne (by decide), sI_ne (by decide)]) hok.2.2.1 (fun o ho => ⟨by rw [sI_ne (by omega), sI_ne (by omega)], rfl⟩)
  · refine ⟨-2, sx, sm, ?_, ?_, rel_idle hn h⟩
    · unfold X7_say
      rw [wi_b, if_neg c, if_pos rfl]
    · unfold X8_say
      rw [in_c _ 33 126 _ _ _ (by decide) (by decide), if_neg c, if_pos rfl]
theorem s_wipe (n : Nat) (sx sm : Sg) (hn : n < 512) (h : Rel n sx sm) : ∃ (r : Int32) (sx9 : Sg) (sm9 : Sg), X7_wipe sx = some (r, sx9) ∧ X8_wipe sm = some (r, sm9) ∧ Rel (n + 1) sx9 sm9 := by
  obtain ⟨hn0, q, C, D, re, np, ns, hok, hVX, hVM, hPl, hT, hR, hE⟩ := id h
  obtain ⟨x1, x2, x3, x4, x5, x6⟩ := id hVX
  obtain ⟨m1, m2, m3, m4, m5, m6⟩ := id hVM
  obtain ⟨t, k, k1, k2, k3, k4, k5⟩ := hT
  refine ⟨nI k, sI sx 67 1 0, sI sm 0 20 0, ?_, ?_, ?_⟩
  · unfold X7_wipe
    rw [nm_eq, nm_eq, k2]
  · unfold X8_wipe
    rw [nm_eq, nm_eq, k3]
  · refine ⟨by omega, q, C, D, re, np, ns, hok, ⟨?_, ?_, ?_, ?_, ?_, fun j hj => ?_⟩, ⟨?_, ?_, ?_, ?_, ?_, fun j hj => ?_⟩, ?_, ⟨t, 0, by omega, ?_, ?_, ?_, ?_⟩, ?_, ?_⟩
    · simp [sI_at, x1]
    · simp [sI_at, x2]
    · simp [sI_at, x3]
    · simp [sI_at, x4]
    · simp [sI_at, x5]
    · rw [sI_ne (by omega)]; exact x6 j hj
    · simp [sI_at, m1]
    · simp [sI_at, m2]
    · simp [sI_at, m3]
    · simp [sI_at, m4]
    · simp [sI_at, m5]
    · rw [sI_ne (by omega)]; exact m6 j hj
    · unfold Pln
      rw [sI_ne (by omega), sI_ne (by omega)]
      exact hPl
    · simp [sI_at]; rfl
    · simp [sI_at]; rfl
    · rw [sI_ne (by omega), k4]
    · rw [sI_ne (by omega), k5]
    · unfold Rul at hR ⊢
      simp only [sI_at]
      simpa using hR
    · exact edn_keep hE (by rw [sI_ne (by decide)]) (by rw [sI_ne (by decide)]) hok.2.2.1 (fun o ho => ⟨by rw [sI_ne (by omega)], rfl⟩)
