/-! the signs: what may follow what; fault -/
abbrev dig (c : Int32) : Prop := (48 : Int32) ≤ c ∧ c ≤ 57
abbrev prc (c : Int32) : Prop := (48 : Int32) ≤ c ∧ c ≤ 52
abbrev hwc (c : Int32) : Prop := c = 60 ∨ c = 62 ∨ c = 61
abbrev fct (c : Int32) : Prop := c = 108 ∨ c = 100
def fol (a : Nat) (c : Int32) : Nat :=
  if a = 0 then (if fct c then 1 else if prc c then 7 else 8)
  else if a = 1 then (if hwc c then 2 else 8)
  else if a = 2 then (if dig c then 3 else 8)
  else if a = 3 then (if dig c then 4 else if c = 58 then 5 else 8)
  else if a = 4 then (if c = 58 then 5 else 8)
  else if a = 5 then (if prc c then 6 else 8)
  else if a = 6 then (if c = 59 then 0 else 8)
  else 8
theorem fol_le {a : Nat} {c : Int32} : fol a c ≤ 8 := by
  unfold fol
  repeat' split
  all_goals omega
theorem b_fact {α : Type} {c : Int32} {k : Int32 → Option α} : bnd1 (X5_isFact c) k = if fct c then k 1 else k 0 := by
  unfold X5_isFact X5_isFact_12 X5_isFact_17 fct
  rw [cb01_0, cb01_1]
  by_cases c1 : c = 108
  · rw [if_pos c1, if_pos (Or.inl c1)]; rfl
  · rw [if_neg c1]
    by_cases c2 : c = 100
    · rw [if_pos c2, if_pos (Or.inr c2)]; rfl
    · rw [if_neg c2, if_neg (by rintro (z | z); exact c1 z; exact c2 z)]; rfl
theorem b_prc {α : Type} {c : Int32} {k : Int32 → Option α} : bnd1 (X5_isPriceDigit c) k = if prc c then k 1 else k 0 := by
  unfold X5_isPriceDigit X5_isPriceDigit_16 X5_isPriceDigit_17 prc
  rw [cb01_0, cb01_1]
  by_cases c1 : c < 48
  · rw [if_pos c1, if_neg (fun z => Int32.not_lt.mpr z.1 c1)]; rfl
  · rw [if_neg c1]
    have h1 : (48 : Int32) ≤ c := Int32.not_lt.mp c1
    by_cases c2 : (53 : Int32) ≤ c
    · rw [if_pos c2, if_neg (fun z => by
        have := z.2
        rw [Int32.le_iff_toInt_le] at c2 this
        have e1 : (53 : Int32).toInt = 53 := by decide
        have e2 : (52 : Int32).toInt = 52 := by decide
        omega)]; rfl
    · rw [if_neg c2, if_pos ⟨h1, by
        have := Int32.not_le.mp c2
        rw [Int32.lt_iff_toInt_lt] at this
        rw [Int32.le_iff_toInt_le]
        have e1 : (53 : Int32).toInt = 53 := by decide
        have e2 : (52 : Int32).toInt = 52 := by decide
        omega⟩]; rfl
theorem b_dig {α : Type} {c : Int32} {k : Int32 → Option α} : bnd1 (X5_isDigit c) k = if dig c then k 1 else k 0 := by
  unfold X5_isDigit X5_isDigit_16 X5_isDigit_17 dig
  rw [cb01_0, cb01_1]
  by_cases c1 : c < 48
  · rw [if_pos c1, if_neg (fun z => Int32.not_lt.mpr z.1 c1)]; rfl
  · rw [if_neg c1]
    by_cases c2 : (57 : Int32) < c
    · rw [if_pos c2, if_neg (fun z => Int32.not_lt.mpr z.2 c2)]; rfl
    · rw [if_neg c2, if_pos ⟨Int32.not_lt.mp c1, Int32.not_lt.mp c2⟩]; rfl
theorem b_cmp {α : Type} {c : Int32} {k : Int32 → Option α} : bnd1 (X5_isCompare c) k = if hwc c then k 1 else k 0 := by
  unfold X5_isCompare X5_isCompare_18 X5_isCompare_23 hwc
  rw [cb01_0, cb01_1]
  by_cases c1 : c = 60
  · rw [if_pos c1, if_pos (Or.inl c1)]; rfl
  · rw [if_neg c1]
    by_cases c2 : c = 62
    · rw [if_pos c2, if_pos (Or.inr (Or.inl c2))]; rfl
    · rw [if_neg c2]
      by_cases c3 : c = 61
      · rw [if_pos c3, if_pos (Or.inr (Or.inr c3))]; rfl
      · rw [if_neg c3, if_neg (by rintro (z | z | z); exact c1 z; exact c2 z; exact c3 z)]; rfl
theorem b_how {α : Type} {c : Int32} {k : Int32 → Option α} : bnd1 (X8_isHow c) k = if hwc c then k 1 else k 0 := by
  unfold X8_isHow X8_isHow_18 X8_isHow_23 hwc
  rw [cb01_0, cb01_1]
  by_cases c1 : c = 60
  · rw [if_pos c1, if_pos (Or.inl c1)]; rfl
  · rw [if_neg c1]
    by_cases c2 : c = 62
    · rw [if_pos c2, if_pos (Or.inr (Or.inl c2))]; rfl
    · rw [if_neg c2]
      by_cases c3 : c = 61
      · rw [if_pos c3, if_pos (Or.inr (Or.inr c3))]; rfl
      · rw [if_neg c3, if_neg (by rintro (z | z | z); exact c1 z; exact c2 z; exact c3 z)]; rfl
theorem b_mdig {α : Type} {c : Int32} {k : Int32 → Option α} : bnd1 (X8_in c.toInt64 48 57) k = if dig c then k 1 else k 0 := in_c _ 48 57 _ _ _ (by decide) (by decide)
theorem b_mprc {α : Type} {c : Int32} {k : Int32 → Option α} : bnd1 (X8_in c.toInt64 48 52) k = if prc c then k 1 else k 0 := in_c _ 48 52 _ _ _ (by decide) (by decide)
theorem fol0 {c : Int32} : fol 0 c = if fct c then 1 else if prc c then 7 else 8 := rfl
theorem fol1 {c : Int32} : fol 1 c = if hwc c then 2 else 8 := rfl
theorem fol2 {c : Int32} : fol 2 c = if dig c then 3 else 8 := rfl
theorem fol3 {c : Int32} : fol 3 c = if dig c then 4 else if c = 58 then 5 else 8 := rfl
theorem fol4 {c : Int32} : fol 4 c = if c = 58 then 5 else 8 := rfl
theorem fol5 {c : Int32} : fol 5 c = if prc c then 6 else 8 := rfl
theorem fol6 {c : Int32} : fol 6 c = if c = 59 then 0 else 8 := rfl
theorem fol7 {c : Int32} : fol 7 c = 8 := rfl
theorem x_follow {a : Nat} {c : Int32} (ha : a ≤ 7) : X5_follow (nI a) c = some (nI (fol a c)) := by
  have h : a = 0 ∨ a = 1 ∨ a = 2 ∨ a = 3 ∨ a = 4 ∨ a = 5 ∨ a = 6 ∨ a = 7 := by omega
  unfold X5_follow X5_follow_69 X5_follow_83 X5_follow_97 X5_follow_121 X5_follow_134 X5_follow_149 X5_follow_162
  rcases h with rfl | rfl | rfl | rfl | rfl | rfl | rfl | rfl
  · rw [if_pos (by decide), b_fact, fol0]
    by_cases c1 : fct c
    · rw [if_pos c1, if_pos c1, if_neg (by decide)]; rfl
    · rw [if_neg c1, if_neg c1, if_pos rfl, b_prc]
      by_cases c2 : prc c
      · rw [if_pos c2, if_pos c2, if_neg (by decide)]; rfl
      · rw [if_neg c2, if_neg c2, if_pos rfl]; rfl
  · rw [if_neg (by decide), if_pos (by decide), b_cmp, fol1]
    by_cases c1 : hwc c
    · rw [if_pos c1, if_pos c1, if_neg (by decide)]; rfl
    · rw [if_neg c1, if_neg c1, if_pos rfl]; rfl
  · rw [if_neg (by decide), if_neg (by decide), if_pos (by decide), b_dig, fol2]
    by_cases c1 : dig c
    · rw [if_pos c1, if_pos c1, if_neg (by decide)]; rfl
    · rw [if_neg c1, if_neg c1, if_pos rfl]; rfl
  · rw [if_neg (by decide), if_neg (by decide), if_neg (by decide), if_pos (by decide), b_dig, fol3]
    by_cases c1 : dig c
    · rw [if_pos c1, if_pos c1, if_neg (by decide)]; rfl
    · rw [if_neg c1, if_neg c1, if_pos rfl]
      by_cases c2 : c = 58
      · rw [if_pos c2, if_pos c2]; rfl
      · rw [if_neg c2, if_neg c2]; rfl
  · rw [if_neg (by decide), if_neg (by decide), if_neg (by decide), if_neg (by decide), if_pos (by decide), fol4]
    by_cases c2 : c = 58
    · rw [if_pos c2, if_pos c2]; rfl
    · rw [if_neg c2, if_neg c2]; rfl
  · rw [if_neg (by decide), if_neg (by decide), if_neg (by decide), if_neg (by decide), if_neg (by decide), if_pos (by decide), b_prc, fol5]
    by_cases c1 : prc c
    · rw [if_pos c1, if_pos c1, if_neg (by decide)]; rfl
    · rw [if_neg c1, if_neg c1, if_pos rfl]; rfl
  · rw [if_neg (by decide), if_neg (by decide), if_neg (by decide), if_neg (by decide), if_neg (by decide), if_neg (by decide), if_pos (by decide), fol6]
    by_cases c2 : c = 59
    · rw [if_pos c2, if_pos c2]; rfl
    · rw [if_neg c2, if_neg c2]; rfl
  · rw [if_neg (by decide), if_neg (by decide), if_neg (by decide), if_neg (by decide), if_neg (by decide), if_neg (by decide), if_neg (by decide)]
    rfl
theorem b_mdig1 {α : Type} {c : Int32} {k : Int32 → Option α} : bnd1 (X8_in c.toInt64 48 57) k = k (if dig c then 1 else 0) := by
  rw [b_mdig]
  by_cases p : dig c
  · rw [if_pos p, if_pos p]
  · rw [if_neg p, if_neg p]
theorem b_mprc1 {α : Type} {c : Int32} {k : Int32 → Option α} : bnd1 (X8_in c.toInt64 48 52) k = k (if prc c then 1 else 0) := by
  rw [b_mprc]
  by_cases p : prc c
  · rw [if_pos p, if_pos p]
  · rw [if_neg p, if_neg p]
theorem m_stepOf {a : Nat} {c : Int32} (ha : a ≤ 7) : X8_stepOf (nI a) c = some (if fol a c = 8 then -1 else nI (fol a c)) := by
  have h : a = 0 ∨ a = 1 ∨ a = 2 ∨ a = 3 ∨ a = 4 ∨ a = 5 ∨ a = 6 ∨ a = 7 := by omega
  unfold X8_stepOf X8_stepOf_80 X8_stepOf_94 X8_stepOf_107 X8_stepOf_117 X8_stepOf_137 X8_stepOf_149 X8_stepOf_160 X8_stepOf_172
  rw [b_mdig1, b_mprc1]
  rcases h with rfl | rfl | rfl | rfl | rfl | rfl | rfl | rfl
  · rw [if_pos (by decide)]
    by_cases c1 : c = 108
    · have hf : fol 0 c = 1 := by rw [fol0, if_pos (Or.inl c1)]
      rw [if_pos c1, hf]; rfl
    · rw [if_neg c1]
      by_cases c2 : c = 100
      · have hf : fol 0 c = 1 := by rw [fol0, if_pos (Or.inr c2)]
        rw [if_pos c2, hf]; rfl
      · have nf : ¬ fct c := by rintro (z | z); exact c1 z; exact c2 z
        rw [if_neg c2]
        by_cases c3 : prc c
        · have hf : fol 0 c = 7 := by rw [fol0, if_neg nf, if_pos c3]
          rw [if_pos c3, hf]; rfl
        · have hf : fol 0 c = 8 := by rw [fol0, if_neg nf, if_neg c3]
          rw [if_neg c3, hf]; rfl
  · rw [if_neg (by decide), if_pos (by decide), b_how]
    by_cases c1 : hwc c
    · have hf : fol 1 c = 2 := by rw [fol1, if_pos c1]
      rw [if_pos c1, hf]; rfl
    · have hf : fol 1 c = 8 := by rw [fol1, if_neg c1]
      rw [if_neg c1, hf]; rfl
  · rw [if_neg (by decide), if_neg (by decide), if_pos (by decide)]
    by_cases c1 : dig c
    · have hf : fol 2 c = 3 := by rw [fol2, if_pos c1]
      rw [if_pos c1, hf]; rfl
    · have hf : fol 2 c = 8 := by rw [fol2, if_neg c1]
      rw [if_neg c1, hf]; rfl
  · rw [if_neg (by decide), if_neg (by decide), if_neg (by decide), if_pos (by decide)]
    by_cases c1 : dig c
    · have hf : fol 3 c = 4 := by rw [fol3, if_pos c1]
      rw [if_pos c1, hf]; rfl
    · rw [if_neg c1, if_pos rfl]
      by_cases c2 : c = 58
      · have hf : fol 3 c = 5 := by rw [fol3, if_neg c1, if_pos c2]
        rw [if_pos c2, hf]; rfl
      · have hf : fol 3 c = 8 := by rw [fol3, if_neg c1, if_neg c2]
        rw [if_neg c2, hf]; rfl
  · rw [if_neg (by decide), if_neg (by decide), if_neg (by decide), if_neg (by decide), if_pos (by decide)]
    by_cases c2 : c = 58
    · have hf : fol 4 c = 5 := by rw [fol4, if_pos c2]
      rw [if_pos c2, hf]; rfl
    · have hf : fol 4 c = 8 := by rw [fol4, if_neg c2]
      rw [if_neg c2, hf]; rfl
  · rw [if_neg (by decide), if_neg (by decide), if_neg (by decide), if_neg (by decide), if_neg (by decide), if_pos (by decide)]
    by_cases c1 : prc c
    · have hf : fol 5 c = 6 := by rw [fol5, if_pos c1]
      rw [if_pos c1, hf]; rfl
    · have hf : fol 5 c = 8 := by rw [fol5, if_neg c1]
      rw [if_neg c1, hf]; rfl
  · rw [if_neg (by decide), if_neg (by decide), if_neg (by decide), if_neg (by decide), if_neg (by decide), if_neg (by decide), if_pos (by decide)]
    by_cases c2 : c = 59
    · have hf : fol 6 c = 0 := by rw [fol6, if_pos c2]
      rw [if_pos c2, hf]; rfl
    · have hf : fol 6 c = 8 := by rw [fol6, if_neg c2]
      rw [if_neg c2, hf]; rfl
  · rw [if_neg (by decide), if_neg (by decide), if_neg (by decide), if_neg (by decide), if_neg (by decide), if_neg (by decide), if_neg (by decide)]
    rfl
/-- the place of the first fault, none if there is none -/
def flt (t : Nat → Int32) (k : Nat) : Nat → Nat → Nat → Option Nat
  | 0, _, a => if a = 7 then none else some k
  | j + 1, i, a => if fol a (t i) = 8 then some i else flt t k j (i + 1) (fol a (t i))
def fI (r : Option Nat) : Int32 := match r with | none => -6 | some p => nI p
theorem cx40 {α : Type} {i : Nat} {k : Option α} (h : i < 40) : cix (nI i) 40 k = k := cix_nI h (by decide)
theorem x_fault {st : Sg} {t : Nat → Int32} {k : Nat} (hk : k ≤ 40) (h1 : st.1 67 1 = nI k) (h2 : st.1 68 = t) : ∀ (j i a f : Nat), i + j = k → j < f → a ≤ 7 → X5_faultPlace_4 st f (nI a) (nI i) = some (fI (flt t k j i a)) := by
  intro j
  induction j with
  | zero =>
    intro i a f hi hf ha
    obtain ⟨f, rfl⟩ : ∃ k', f = k' + 1 := ⟨f - 1, by omega⟩
    show X5_faultPlace_4b (X5_faultPlace_4 st f) (nI a) (nI i) st = _
    unfold X5_faultPlace_4b X5_faultPlace_37 X5_faultPlace_52 flt
    rw [h1, if_pos (nI_le (by omega) (by omega))]
    by_cases c : a = 7
    · subst c; rw [if_pos (by decide), if_pos rfl]; rfl
    · rw [if_neg (show ¬ nI a = (7 : Int32) from nI_neI (a := a) (b := 7) (by omega) (by decide) c), if_neg c]; rfl
  | succ j ih =>
    intro i a f hi hf ha
    obtain ⟨f, rfl⟩ : ∃ k', f = k' + 1 := ⟨f - 1, by omega⟩
    show X5_faultPlace_4b (X5_faultPlace_4 st f) (nI a) (nI i) st = _
    unfold X5_faultPlace_4b X5_faultPlace_29 flt
    rw [h1, if_neg (nI_ge (by omega) (by omega)), cx40 (by omega), clI (by omega), h2, x_follow ha, bnd1_some]
    by_cases c : fol a (t i) = 8
    · rw [if_pos (by rw [c]; rfl), if_pos c]; rfl
    · have hle := fol_le (a := a) (c := t i)
      rw [if_neg (show ¬ nI (fol a (t i)) = (8 : Int32) from nI_neI (b := 8) (by omega) (by decide) c), if_neg c, nm_eq, nI_1]
      exact ih (i + 1) _ f (by omega) (by omega) (by omega)
theorem m_fault {st : Sg} {t : Nat → Int32} {k : Nat} (hk : k ≤ 40) (h1 : st.1 0 20 = nI k) (h2 : st.1 14 = t) : ∀ (j i a f : Nat), i + j = k → j < f → a ≤ 7 → X8_fault_4 st f (nI a) (nI i) = some (fI (flt t k j i a)) := by
  intro j
  induction j with
  | zero =>
    intro i a f hi hf ha
    obtain ⟨f, rfl⟩ : ∃ k', f = k' + 1 := ⟨f - 1, by omega⟩
    show X8_fault_4b (X8_fault_4 st f) (nI a) (nI i) st = _
    unfold X8_fault_4b X8_fault_35 X8_fault_50 flt
    rw [h1, if_pos (nI_le (by omega) (by omega))]
    by_cases c : a = 7
    · subst c; rw [if_pos (by decide), if_pos rfl]; rfl
    · rw [if_neg (show ¬ nI a = (7 : Int32) from nI_neI (a := a) (b := 7) (by omega) (by decide) c), if_neg c]; rfl
  | succ j ih =>
    intro i a f hi hf ha
    obtain ⟨f, rfl⟩ : ∃ k', f = k' + 1 := ⟨f - 1, by omega⟩
    show X8_fault_4b (X8_fault_4 st f) (nI a) (nI i) st = _
    unfold X8_fault_4b X8_fault_27 flt
    rw [h1, if_neg (nI_ge (by omega) (by omega)), cx40 (by omega), clI (by omega), h2, m_stepOf ha, bnd1_some]
    by_cases c : fol a (t i) = 8
    · rw [if_pos c, if_neg (by decide), if_pos c]; rfl
    · have hle := fol_le (a := a) (c := t i)
      rw [if_neg c, if_pos (nI_pos' (by omega)), if_neg c, nm_eq, nI_1]
      exact ih (i + 1) _ f (by omega) (by omega) (by omega)
theorem x_faultP {st : Sg} {t : Nat → Int32} {k : Nat} (hk : k ≤ 40) (h1 : st.1 67 1 = nI k) (h2 : st.1 68 = t) : X5_faultPlace st = some (fI (flt t k k 0 0)) := by
  unfold X5_faultPlace
  exact x_fault hk h1 h2 k 0 0 FU (by omega) (FU_gt (by omega)) (by omega)
theorem m_faultP {st : Sg} {t : Nat → Int32} {k : Nat} (hk : k ≤ 40) (h1 : st.1 0 20 = nI k) (h2 : st.1 14 = t) : X8_fault st = some (fI (flt t k k 0 0)) := by
  unfold X8_fault
  exact m_fault hk h1 h2 k 0 0 FU (by omega) (FU_gt (by omega)) (by omega)
theorem s_fault (n : Nat) (sx sm : Sg) (hn : n < 512) (h : Rel n sx sm) : ∃ (r : Int32), X7_fault sx = some r ∧ X8_fault sm = some r ∧ Rel (n + 1) sx sm := by
  obtain ⟨hn0, q, C, D, re, np, ns, hok, hVX, hVM, hPl, ⟨t, k, k1, k2, k3, k4, k5⟩, hR, hE⟩ := id h
  refine ⟨fI (flt t k k 0 0), ?_, m_faultP k1 k3 k5, rel_idle hn h⟩
  unfold X7_fault
  rw [x_faultP k1 k2 k4, bnd1_some]
