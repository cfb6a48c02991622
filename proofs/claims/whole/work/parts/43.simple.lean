/-! set, price, sort, change, worth, plan, told, say, wipe -/
theorem l64a (n : Nat) (h : n < 2147483648) (x : Int32) : lN n ≤ x.toInt64 ↔ nI n ≤ x := by rw [← nI_l h, i64_le]
theorem l64b (n : Nat) (h : n < 2147483648) (x : Int32) : x.toInt64 ≤ lN n ↔ x ≤ nI n := by rw [← nI_l h, i64_le]
theorem l64 (x : Int32) : ((0 : Int64) ≤ x.toInt64 ↔ (0 : Int32) ≤ x) ∧ ((1 : Int64) ≤ x.toInt64 ↔ (1 : Int32) ≤ x) ∧ ((10 : Int64) ≤ x.toInt64 ↔ (10 : Int32) ≤ x) ∧ ((20 : Int64) ≤ x.toInt64 ↔ (20 : Int32) ≤ x) ∧ ((30 : Int64) ≤ x.toInt64 ↔ (30 : Int32) ≤ x) ∧ ((33 : Int64) ≤ x.toInt64 ↔ (33 : Int32) ≤ x) ∧ ((48 : Int64) ≤ x.toInt64 ↔ (48 : Int32) ≤ x) ∧ (x.toInt64 ≤ (1 : Int64) ↔ x ≤ (1 : Int32)) ∧ (x.toInt64 ≤ (2 : Int64) ↔ x ≤ (2 : Int32)) ∧ (x.toInt64 ≤ (3 : Int64) ↔ x ≤ (3 : Int32)) ∧ (x.toInt64 ≤ (4 : Int64) ↔ x ≤ (4 : Int32)) ∧ (x.toInt64 ≤ (5 : Int64) ↔ x ≤ (5 : Int32)) ∧ (x.toInt64 ≤ (6 : Int64) ↔ x ≤ (6 : Int32)) ∧ (x.toInt64 ≤ (12 : Int64) ↔ x ≤ (12 : Int32)) ∧ (x.toInt64 ≤ (15 : Int64) ↔ x ≤ (15 : Int32)) ∧ (x.toInt64 ≤ (24 : Int64) ↔ x ≤ (24 : Int32)) ∧ (x.toInt64 ≤ (30 : Int64) ↔ x ≤ (30 : Int32)) ∧ (x.toInt64 ≤ (32 : Int64) ↔ x ≤ (32 : Int32)) ∧ (x.toInt64 ≤ (52 : Int64) ↔ x ≤ (52 : Int32)) ∧ (x.toInt64 ≤ (57 : Int64) ↔ x ≤ (57 : Int32)) ∧ (x.toInt64 ≤ (99 : Int64) ↔ x ≤ (99 : Int32)) ∧ (x.toInt64 ≤ (126 : Int64) ↔ x ≤ (126 : Int32)) ∧ ((-1 : Int64) ≤ x.toInt64 ↔ (-1 : Int32) ≤ x) :=
  ⟨l64a 0 (by decide) x, l64a 1 (by decide) x, l64a 10 (by decide) x, l64a 20 (by decide) x, l64a 30 (by decide) x, l64a 33 (by decide) x, l64a 48 (by decide) x, l64b 1 (by decide) x, l64b 2 (by decide) x, l64b 3 (by decide) x, l64b 4 (by decide) x, l64b 5 (by decide) x, l64b 6 (by decide) x, l64b 12 (by decide) x, l64b 15 (by decide) x, l64b 24 (by decide) x, l64b 30 (by decide) x, l64b 32 (by decide) x, l64b 52 (by decide) x, l64b 57 (by decide) x, l64b 99 (by decide) x, l64b 126 (by decide) x, by
    have e : (-1 : Int64) = (-1 : Int32).toInt64 := by decide
    rw [e, i64_le]⟩
theorem upd_i {f : Nat → Int32} {k j : Nat} {x : Int32} : upd f k x j = if j = k then x else f j := rfl
theorem s_set (n : Nat) (sx sm : Sg) (a0 a1 : Int32) (hn : n < 512) (h : Rel n sx sm) : ∃ (r : Int32) (sx9 : Sg) (sm9 : Sg), X7_set a0 a1 sx = some (r, sx9) ∧ X8_set a0 a1 sm = some (r, sm9) ∧ Rel (n + 1) sx9 sm9 := by
  obtain ⟨hn0, q, C, D, re, np, ns, hok, hVX, hVM, hPl, hT, hR, hE⟩ := id h
  obtain ⟨o1, o2, o3, o4, o5, o6, o7⟩ := id hok
  obtain ⟨x1, x2, x3, x4, x5, x6⟩ := id hVX
  obtain ⟨m1, m2, m3, m4, m5, m6⟩ := id hVM
  by_cases c0 : a0 = 0
  · subst c0
    by_cases c : (0 : Int32) ≤ a1 ∧ a1 ≤ 12
    · obtain ⟨v, rfl, v1, v2⟩ := of_rng (a := 0) (b := 12) rfl rfl (by decide) (by decide) c.1 c.2
      refine ⟨nI C, sI (sI sx 1 0 (nI v)) 1 10 (sx.1 1 10 + 1), sI sm 0 0 (nI v), ?_, ?_, ?_⟩
      · simp [X7_set, X7_set_104, wi_b, nm_eq, c, x1, sI_at]
      · simp [X8_set, X8_set_24, X8_set_48, X8_set_84, X8_set_115, in_b, l64, nm_eq, c, m1]
      · refine rel_chg hn h (q' := q) (C' := v) (D' := D) (re' := re) (np' := np) (ns' := ns) ⟨v2, o2, o3, o4, o5, o6, o7⟩ ⟨?_, ?_, ?_, ?_, ?_, fun i hi => ?_⟩ ⟨?_, ?_, ?_, ?_, ?_, fun i hi => ?_⟩ ?_ ?_ ?_ ?_ ?_ ?_
        · simp [sI_at, x1, x2, x3, x4, x5]
        · simp [sI_at, x1, x2, x3, x4, x5]
        · simp [sI_at, x1, x2, x3, x4, x5]
        · simp [sI_at, x1, x2, x3, x4, x5]
        · simp [sI_at, x1, x2, x3, x4, x5]
        · rw [sI_ne (by omega), sI_ne (by omega)]; exact x6 i hi
        · simp [sI_at, m1, m2, m3, m4, m5]
        · simp [sI_at, m1, m2, m3, m4, m5]
        · simp [sI_at, m1, m2, m3, m4, m5]
        · simp [sI_at, m1, m2, m3, m4, m5]
        · simp [sI_at, m1, m2, m3, m4, m5]
        · rw [sI_ne (by omega)]; exact m6 i hi
        · unfold Pln; rw [sI_ne (by omega), sI_ne (by omega), sI_ne (by omega)]; exact hPl
        · simp [sI_at]
        · rw [sI_ne (by omega), sI_ne (by omega)]
        · intro o ho; rw [sI_ne (by omega), sI_ne (by omega)]
        · simp [sI_at]
        · intro o ho; rw [sI_ne (by omega)]
    · refine ⟨-2, sx, sm, ?_, ?_, rel_idle hn h⟩
      · simp [X7_set, X7_set_33, X7_set_67, X7_set_101, wi_b, nm_eq, c]
      · simp only [X8_set, X8_set_24, X8_set_48, in_b, l64]; simp [X8_set_54, c]
  · by_cases c1 : a0 = 1
    · subst c1
      by_cases c : (1 : Int32) ≤ a1 ∧ a1 ≤ 6
      · obtain ⟨v, rfl, v1, v2⟩ := of_rng (a := 1) (b := 6) rfl rfl (by decide) (by decide) c.1 c.2
        refine ⟨nI D, sI (sI sx 1 1 (nI v)) 1 10 (sx.1 1 10 + 1), sI sm 0 1 (nI v), ?_, ?_, ?_⟩
        · simp [X7_set, X7_set_33, X7_set_104, wi_b, nm_eq, c, x2, sI_at]
        · simp [X8_set, X8_set_24, X8_set_48, X8_set_84, X8_set_115, in_b, l64, nm_eq, c, m2]
        · refine rel_chg hn h (q' := q) (C' := C) (D' := v) (re' := re) (np' := np) (ns' := ns) ⟨o1, v1, v2, o4, o5, o6, o7⟩ ⟨?_, ?_, ?_, ?_, ?_, fun i hi => ?_⟩ ⟨?_, ?_, ?_, ?_, ?_, fun i hi => ?_⟩ ?_ ?_ ?_ ?_ ?_ ?_
          · simp [sI_at, x1, x2, x3, x4, x5]
          · simp [sI_at, x1, x2, x3, x4, x5]
          · simp [sI_at, x1, x2, x3, x4, x5]
          · simp [sI_at, x1, x2, x3, x4, x5]
          · simp [sI_at, x1, x2, x3, x4, x5]
          · rw [sI_ne (by omega), sI_ne (by omega)]; exact x6 i hi
          · simp [sI_at, m1, m2, m3, m4, m5]
          · simp [sI_at, m1, m2, m3, m4, m5]
          · simp [sI_at, m1, m2, m3, m4, m5]
          · simp [sI_at, m1, m2, m3, m4, m5]
          · simp [sI_at, m1, m2, m3, m4, m5]
          · rw [sI_ne (by omega)]; exact m6 i hi
          · unfold Pln; rw [sI_ne (by omega), sI_ne (by omega), sI_ne (by omega)]; exact hPl
          · simp [sI_at]
          · rw [sI_ne (by omega), sI_ne (by omega)]
          · intro o ho; rw [sI_ne (by omega), sI_ne (by omega)]
          · simp [sI_at]
          · intro o ho; rw [sI_ne (by omega)]
      · refine ⟨-2, sx, sm, ?_, ?_, rel_idle hn h⟩
        · simp [X7_set, X7_set_33, X7_set_67, X7_set_101, wi_b, nm_eq, c]
        · simp only [X8_set, X8_set_24, X8_set_48, in_b, l64]; simp [X8_set_54, c]
    · by_cases c2 : a0 = 2
      · subst c2
        by_cases c : (0 : Int32) ≤ a1 ∧ a1 ≤ 99
        · obtain ⟨v, rfl, v1, v2⟩ := of_rng (a := 0) (b := 99) rfl rfl (by decide) (by decide) c.1 c.2
          refine ⟨nI re, sI (sI sx 1 2 (nI v)) 1 10 (sx.1 1 10 + 1), sI sm 0 2 (nI v), ?_, ?_, ?_⟩
          · simp [X7_set, X7_set_33, X7_set_67, X7_set_104, wi_b, nm_eq, c, x3, sI_at]
          · simp [X8_set, X8_set_24, X8_set_48, X8_set_84, X8_set_115, in_b, l64, nm_eq, c, m3]
          · refine rel_chg hn h (q' := q) (C' := C) (D' := D) (re' := v) (np' := np) (ns' := ns) ⟨o1, o2, o3, v2, o5, o6, o7⟩ ⟨?_, ?_, ?_, ?_, ?_, fun i hi => ?_⟩ ⟨?_, ?_, ?_, ?_, ?_, fun i hi => ?_⟩ ?_ ?_ ?_ ?_ ?_ ?_
            · simp [sI_at, x1, x2, x3, x4, x5]
            · simp [sI_at, x1, x2, x3, x4, x5]
            · simp [sI_at, x1, x2, x3, x4, x5]
            · simp [sI_at, x1, x2, x3, x4, x5]
            · simp [sI_at, x1, x2, x3, x4, x5]
            · rw [sI_ne (by omega), sI_ne (by omega)]; exact x6 i hi
            · simp [sI_at, m1, m2, m3, m4, m5]
            · simp [sI_at, m1, m2, m3, m4, m5]
            · simp [sI_at, m1, m2, m3, m4, m5]
            · simp [sI_at, m1, m2, m3, m4, m5]
            · simp [sI_at, m1, m2, m3, m4, m5]
            · rw [sI_ne (by omega)]; exact m6 i hi
            · unfold Pln; rw [sI_ne (by omega), sI_ne (by omega), sI_ne (by omega)]; exact hPl
            · simp [sI_at]
            · rw [sI_ne (by omega), sI_ne (by omega)]
            · intro o ho; rw [sI_ne (by omega), sI_ne (by omega)]
            · simp [sI_at]
            · intro o ho; rw [sI_ne (by omega)]
        · refine ⟨-2, sx, sm, ?_, ?_, rel_idle hn h⟩
          · simp [X7_set, X7_set_33, X7_set_67, X7_set_101, wi_b, nm_eq, c]
          · simp only [X8_set, X8_set_24, X8_set_48, in_b, l64]; simp [X8_set_54, c]
      · have hno : ¬ ((0 : Int32) ≤ a0 ∧ a0 ≤ 2) := by
          intro q
          obtain ⟨v, rfl, v1, v2⟩ := of_rng (a := 0) (b := 2) rfl rfl (by decide) (by decide) q.1 q.2
          have : v = 0 ∨ v = 1 ∨ v = 2 := by omega
          rcases this with rfl | rfl | rfl
          · exact c0 rfl
          · exact c1 rfl
          · exact c2 rfl
        refine ⟨-2, sx, sm, ?_, ?_, rel_idle hn h⟩
        · simp [X7_set, X7_set_33, X7_set_67, X7_set_101, wi_b, nm_eq, c0, c1, c2]
        · simp only [X8_set, in_b, l64]; simp [X8_set_54, hno]
