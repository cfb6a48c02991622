theorem nI_sub1_toInt {m : Nat} (h : m ≤ 1000) : (nI m - 1).toInt = (m : Int) - 1 := pk_sub_toInt (a := m) (b := 1) (by omega) (by decide)
theorem rngP {x : Int32} {m : Nat} (hm : m ≤ 1000) : ((0 : Int32) ≤ x ∧ x ≤ nI m - 1) ↔ ∃ i, i < m ∧ x = nI i := by
  constructor
  · intro h
    have h0 : ¬ x < 0 := Int32.not_lt.mpr h.1
    obtain ⟨j, hj, rfl⟩ := nI_of h0
    refine ⟨j, ?_, rfl⟩
    have h2 := h.2
    rw [Int32.le_iff_toInt_le, nI_sub1_toInt hm, nI_toInt hj] at h2
    omega
  · rintro ⟨i, hi, rfl⟩
    refine ⟨nI_pos' (by omega), ?_⟩
    rw [Int32.le_iff_toInt_le, nI_sub1_toInt hm, nI_toInt (by omega)]
    omega
theorem in_y {α : Type} {i m : Nat} {k : Int32 → Option α} (h : i < m) (hm : m ≤ 1000) : bnd1 (X8_in (nI i).toInt64 0 (nI m - 1).toInt64) k = k 1 := by
  rw [in_c _ 0 (nI m - 1) _ _ _ (by decide) rfl, if_pos ((rngP hm).mpr ⟨i, h, rfl⟩)]
theorem in_n {α : Type} {x : Int32} {m : Nat} {k : Int32 → Option α} (h : ¬ ∃ i, i < m ∧ x = nI i) (hm : m ≤ 1000) : bnd1 (X8_in x.toInt64 0 (nI m - 1).toInt64) k = k 0 := by
  rw [in_c _ 0 (nI m - 1) _ _ _ (by decide) rfl, if_neg (fun q => h ((rngP hm).mp q))]
theorem wi_y {α : Type} {i m : Nat} {k : Int32 → Option α} (h : i < m) (hm : m ≤ 1000) : bnd1 (X7_isWithin (nI i) 0 (nI m - 1)) k = k 1 := by
  rw [wi_b, if_pos ((rngP hm).mpr ⟨i, h, rfl⟩)]
theorem wi_n {α : Type} {x : Int32} {m : Nat} {k : Int32 → Option α} (h : ¬ ∃ i, i < m ∧ x = nI i) (hm : m ≤ 1000) : bnd1 (X7_isWithin x 0 (nI m - 1)) k = k 0 := by
  rw [wi_b, if_neg (fun q => h ((rngP hm).mp q))]
theorem ltP {x : Int32} {m : Nat} (hm : m ≤ 1000) : (¬ x < 0 ∧ ¬ nI m ≤ x) ↔ ∃ i, i < m ∧ x = nI i := by
  constructor
  · intro h
    obtain ⟨j, hj, rfl⟩ := nI_of h.1
    refine ⟨j, ?_, rfl⟩
    have h2 := h.2
    rw [nI_leI (by omega) hj] at h2
    omega
  · rintro ⟨i, hi, rfl⟩
    exact ⟨nI_pos (by omega), nI_ge hi (by omega)⟩
theorem isS_y {α : Type} {sx : Sg} {i ns : Nat} {k : Int32 → Option α} (hx : sx.1 1 9 = nI ns) (h : i < ns) (hm : ns ≤ 1000) : bnd1 (X3_isSort (nI i) sx) k = k 1 := by
  have h2 := (ltP hm).mpr ⟨i, h, rfl⟩
  simp only [X3_isSort, X3_isSort_17, hx, if_neg h2.1, if_neg h2.2, cb01_1, bnd1_some]
theorem isS_n {α : Type} {sx : Sg} {x : Int32} {ns : Nat} {k : Int32 → Option α} (hx : sx.1 1 9 = nI ns) (h : ¬ ∃ i, i < ns ∧ x = nI i) (hm : ns ≤ 1000) : bnd1 (X3_isSort x sx) k = k 0 := by
  have h2 : ¬ (¬ x < 0 ∧ ¬ nI ns ≤ x) := fun q => h ((ltP hm).mp q)
  simp only [X3_isSort, X3_isSort_16, X3_isSort_17, hx, cb01_0]
  by_cases c : x < 0
  · simp only [if_pos c, bnd1_some]
  · have c2 : nI ns ≤ x := Classical.not_not.mp (fun q => h2 ⟨c, q⟩)
    simp only [if_neg c, if_pos c2, bnd1_some]
theorem isP_y {α : Type} {sx : Sg} {i np : Nat} {k : Int32 → Option α} (hx : sx.1 1 4 = nI np) (h : i < np) (hm : np ≤ 1000) : bnd1 (X3_isPrice (nI i) sx) k = k 1 := by
  have h2 := (ltP hm).mpr ⟨i, h, rfl⟩
  simp only [X3_isPrice, X3_isPrice_17, hx, if_neg h2.1, if_neg h2.2, cb01_1, bnd1_some]
theorem isP_n {α : Type} {sx : Sg} {x : Int32} {np : Nat} {k : Int32 → Option α} (hx : sx.1 1 4 = nI np) (h : ¬ ∃ i, i < np ∧ x = nI i) (hm : np ≤ 1000) : bnd1 (X3_isPrice x sx) k = k 0 := by
  have h2 : ¬ (¬ x < 0 ∧ ¬ nI np ≤ x) := fun q => h ((ltP hm).mp q)
  simp only [X3_isPrice, X3_isPrice_16, X3_isPrice_17, hx, cb01_0]
  by_cases c : x < 0
  · simp only [if_pos c, bnd1_some]
  · have c2 : nI np ≤ x := Classical.not_not.mp (fun q => h2 ⟨c, q⟩)
    simp only [if_neg c, if_pos c2, bnd1_some]
theorem mS_y {α : Type} {sm : Sg} {i ns : Nat} {k : Int32 → Option α} (hx : sm.1 0 9 = nI ns) (h : i < ns) (hm : ns ≤ 1000) : bnd1 (X8_isSort (nI i) sm) k = k 1 := by
  unfold X8_isSort
  rw [hx, in_y h hm]
  rfl
theorem mS_n {α : Type} {sm : Sg} {x : Int32} {ns : Nat} {k : Int32 → Option α} (hx : sm.1 0 9 = nI ns) (h : ¬ ∃ i, i < ns ∧ x = nI i) (hm : ns ≤ 1000) : bnd1 (X8_isSort x sm) k = k 0 := by
  unfold X8_isSort
  rw [hx, in_n h hm]
  rfl
theorem isW_b {α : Type} {sx : Sg} {i : Nat} {k : Int32 → Option α} (h : i < 3) : bnd1 (X3_isWaiting (nI i) sx) k = if sx.1 6 i = -1 then k 0 else k 1 := by
  unfold X3_isWaiting X3_isWaiting_15
  rw [cix_nI h (by decide), nI_clamp (by omega)]
  by_cases c : sx.1 6 i = -1
  · rw [if_pos c, if_pos c, cb01_0]; rfl
  · rw [if_neg c, if_neg c, cb01_1]; rfl
theorem wT_b {α : Type} {sx : Sg} {i : Nat} {k : Int32 → Option α} (h : i < 3) : bnd1 (X3_waitTold (nI i) sx) k = if sx.1 6 i = -1 then k (-6) else k (sx.1 6 i) := by
  unfold X3_waitTold X3_waitTold_19
  rw [isW_b h]
  by_cases c : sx.1 6 i = -1
  · rw [if_pos c, if_pos c]; rfl
  · rw [if_neg c, if_neg c, if_neg (by decide), cix_nI h (by decide), nI_clamp (by omega)]; rfl
theorem wv_X {α : Type} {sx : Sg} {q : Nat → Nat → Int32} {i d : Nat} {k : Int32 → Option α} (h2 : sx.1 4 = q 2) (h3 : sx.1 5 = q 3) (h : i < 3) : bnd1 (X3_worthOn (nI i) (nI d) sx) k = k (wv q i d) := by
  unfold X3_worthOn X3_worthOn_25
  rw [cix_nI h (by decide), cix_nI h (by decide), nI_clamp (by omega), h2, h3, nm_eq]
  unfold wv
  by_cases c : (0 : Int32) < q 2 i - q 3 i * nI d
  · rw [if_neg (Int32.not_le.mpr c), if_pos c, bnd1_some]
  · rw [if_pos (Int32.not_lt.mp c), if_neg c, bnd1_some]
theorem wv_M {α : Type} {sm : Sg} {q : Nat → Nat → Int32} {i d : Nat} {k : Int32 → Option α} (h2 : sm.1 3 = q 2) (h3 : sm.1 4 = q 3) (h : i < 3) : bnd1 (X8_worthOf (nI i) (nI d) sm) k = k (wv q i d) := by
  unfold X8_worthOf X8_worthOf_25
  rw [cix_nI h (by decide), cix_nI h (by decide), nI_clamp (by omega), h2, h3, nm_eq]
  unfold wv
  by_cases c : (0 : Int32) < q 2 i - q 3 i * nI d
  · rw [if_pos (Int32.le_of_lt c), if_pos c, bnd1_some]
  · rw [if_neg c]
    by_cases c2 : (0 : Int32) ≤ q 2 i - q 3 i * nI d
    · rw [if_pos c2, bnd1_some]
      have : q 2 i - q 3 i * nI d = 0 := Int32.le_antisymm (Int32.not_lt.mp c) c2
      rw [this]
    · rw [if_neg c2, bnd1_some]
theorem s_worth (n : Nat) (sx sm : Sg) (a0 a1 : Int32) (hn : n < 512) (h : Rel n sx sm) : ∃ (r : Int32), X7_worth a0 a1 sx = some r ∧ X8_worth a0 a1 sm = some r ∧ Rel (n + 1) sx sm := by
  obtain ⟨hn0, q, C, D, re, np, ns, hok, hVX, hVM, hPl, hT, hR, hE⟩ := id h
  obtain ⟨o1, o2, o3, o4, o5, o6, o7⟩ := id hok
  obtain ⟨x1, x2, x3, x4, x5, x6⟩ := id hVX
  obtain ⟨m1, m2, m3, m4, m5, m6⟩ := id hVM
  by_cases hs : ∃ i, i < ns ∧ a0 = nI i
  · obtain ⟨i, hi, rfl⟩ := hs
    by_cases hd : ∃ d, d < 6 ∧ a1 = nI d
    · obtain ⟨d, hd, rfl⟩ := hd
      have c : (0 : Int32) ≤ nI d ∧ nI d ≤ 5 := (rngP (x := nI d) (m := 6) (by decide)).mpr ⟨d, hd, rfl⟩
      refine ⟨wv q i d, ?_, ?_, rel_idle hn h⟩
      · unfold X7_worth X7_worth_36
        rw [isS_y x5 hi (by omega), if_neg (by decide), wi_b, if_pos c, if_neg (by decide), wv_X (x6 2 (by decide)) (x6 3 (by decide)) (by omega)]
      · unfold X8_worth X8_worth_33
        rw [mS_y m5 hi (by omega), if_neg (by decide), in_c _ 0 5 _ _ _ (by decide) (by decide), if_pos c, if_neg (by decide), wv_M (m6 2 (by decide)) (m6 3 (by decide)) (by omega)]
    · have c : ¬ ((0 : Int32) ≤ a1 ∧ a1 ≤ 5) := fun z => hd ((rngP (x := a1) (m := 6) (by decide)).mp z)
      refine ⟨-2, ?_, ?_, rel_idle hn h⟩
      · unfold X7_worth X7_worth_36
        rw [isS_y x5 hi (by omega), if_neg (by decide), wi_b, if_neg c, if_pos rfl]
      · unfold X8_worth X8_worth_33
        rw [mS_y m5 hi (by omega), if_neg (by decide), in_c _ 0 5 _ _ _ (by decide) (by decide), if_neg c, if_pos rfl]
  · refine ⟨-1, ?_, ?_, rel_idle hn h⟩
    · unfold X7_worth
      rw [isS_n x5 hs (by omega), if_pos rfl]
    · unfold X8_worth
      rw [mS_n m5 hs (by omega), if_pos rfl]
theorem s_plan (n : Nat) (sx sm : Sg) (a0 a1 : Int32) (hn : n < 512) (h : Rel n sx sm) : ∃ (r : Int32) (sx9 : Sg) (sm9 : Sg), X7_plan a0 a1 sx = some (r, sx9) ∧ X8_plan a0 a1 sm = some (r, sm9) ∧ Rel (n + 1) sx9 sm9 := by
  obtain ⟨hn0, q, C, D, re, np, ns, hok, hVX, hVM, hPl, hT, hR, hE⟩ := id h
  obtain ⟨o1, o2, o3, o4, o5, o6, o7⟩ := id hok
  obtain ⟨x1, x2, x3, x4, x5, x6⟩ := id hVX
  obtain ⟨m1, m2, m3, m4, m5, m6⟩ := id hVM
  obtain ⟨p1, p2⟩ := id hPl
  by_cases hp : ∃ i, i < np ∧ a1 = nI i
  · obtain ⟨i, hi, rfl⟩ := hp
    by_cases hd : ∃ d, d < 6 ∧ a0 = nI d
    · obtain ⟨d, hd, rfl⟩ := hd
      have c : (0 : Int32) ≤ nI d ∧ nI d ≤ 5 := (rngP (x := nI d) (m := 6) (by decide)).mpr ⟨d, hd, rfl⟩
      refine ⟨sx.1 7 d, sI sx 7 d (nI i), sI sm 6 d (nI i), ?_, ?_, ?_⟩
      · unfold X7_plan
        rw [isP_y x4 hi (by omega), if_neg (by decide), wi_b, if_pos c, if_neg (by decide), cix_nI hd (by decide), nm_eq, cix_nI hd (by decide), nm_eq, nI_clamp (by omega)]
      · unfold X8_plan
        rw [m4, in_y hi (by omega), if_neg (by decide), in_c _ 0 5 _ _ _ (by decide) (by decide), if_pos c, if_neg (by decide), cix_nI hd (by decide), nm_eq, cix_nI hd (by decide), nm_eq, nI_clamp (by omega), p1]
      · refine ⟨by omega, q, C, D, re, np, ns, hok, ⟨?_, ?_, ?_, ?_, ?_, fun j hj => ?_⟩, ⟨?_, ?_, ?_, ?_, ?_, fun j hj => ?_⟩, ⟨?_, fun e he => ?_⟩, ?_, ?_, ?_⟩
        · rw [sI_ne (by decide)]; exact x1
        · rw [sI_ne (by decide)]; exact x2
        · rw [sI_ne (by decide)]; exact x3
        · rw [sI_ne (by decide)]; exact x4
        · rw [sI_ne (by decide)]; exact x5
        · rw [sI_ne (by omega)]; exact x6 j hj
        · rw [sI_ne (by decide)]; exact m1
        · rw [sI_ne (by decide)]; exact m2
        · rw [sI_ne (by decide)]; exact m3
        · rw [sI_ne (by decide)]; exact m4
        · rw [sI_ne (by decide)]; exact m5
        · rw [sI_ne (by omega)]; exact m6 j hj
        · rw [sI_eq, sI_eq, p1]
        · rw [sI_eq]
          by_cases c5 : e = d
          · exact ⟨i, by simp [upd, c5], Or.inr hi⟩
          · obtain ⟨v, v1, v2⟩ := p2 e he
            exact ⟨v, by simp [upd, c5, v1], v2⟩
        · unfold Txt
          rw [sI_ne (by decide), sI_ne (by decide), sI_ne (by decide), sI_ne (by decide)]
          exact hT
        · unfold Rul
          rw [sI_ne (by decide), sI_ne (by decide), sI_ne (by decide), sI_ne (by decide), sI_ne (by decide), sI_ne (by decide), sI_ne (by decide), sI_ne (by decide), sI_ne (by decide), sI_ne (by decide)]
          exact hR
        · exact edn_keep hE (sI_ne (by decide)) (by rw [sI_ne (by decide)]) o3 (fun o ho => ⟨sI_ne (by omega), rfl⟩)
    · have c : ¬ ((0 : Int32) ≤ a0 ∧ a0 ≤ 5) := fun z => hd ((rngP (x := a0) (m := 6) (by decide)).mp z)
      refine ⟨-2, sx, sm, ?_, ?_, rel_idle hn h⟩
      · unfold X7_plan
        rw [isP_y x4 hi (by omega), if_neg (by decide), wi_b, if_neg c, if_pos rfl]
      · unfold X8_plan
        rw [m4, in_y hi (by omega), if_neg (by decide), in_c _ 0 5 _ _ _ (by decide) (by decide), if_neg c, if_pos rfl]
  · refine ⟨-1, sx, sm, ?_, ?_, rel_idle hn h⟩
    · unfold X7_plan
      rw [isP_n x4 hp (by omega), if_pos rfl]
    · unfold X8_plan
      rw [m4, in_n hp (by omega), if_pos rfl]
