/-! pure rows: the lifted words evaluated, loops, numbers -/
theorem nm_eq {α β : Type} (v : β) (k : β → Option α) : nm v k = k v := rfl
theorem bnd1_some {α β : Type} (x : β) (k : β → Option α) : bnd1 (some x) k = k x := rfl
theorem bnd2_some {α β γ : Type} (x : β) (y : γ) (k : β → γ → Option α) : bnd2 (some (x, y)) k = k x y := rfl
theorem cix_ok {α : Type} {i : Int32} {n : Nat} {k : Option α} (h : vp_in i n) : cix i n k = k := if_neg h
theorem cix_nI {α : Type} {i n : Nat} {k : Option α} (h : i < n) (hn : n < 2 ^ 31) : cix (nI i) n k = k := cix_ok (vp_in_nI h hn)
theorem cnz_ok {α : Type} {y : Int64} {k : Option α} (h : ¬ y = 0) : cnz y k = k := if_neg h
theorem cb01_0 {α : Type} {k : Option α} : cb01 0 k = k := if_pos (Or.inl rfl)
theorem cb01_1 {α : Type} {k : Option α} : cb01 1 k = k := if_pos (Or.inr rfl)
theorem cpc_ok {α : Type} {sp dp n : Int32} {n0 n1 : Nat} {k : Option α} (h : okC sp dp n n0 n1) : cpc sp dp n n0 n1 k = k := if_pos h
theorem loopU {τ α : Type} {L : Nat → Int32 → τ → Option α} {E : τ → Option α} (I : Nat → τ → Prop) (e : Nat) (hs : ∀ k i t, i < e → I i t → ∃ t', I (i + 1) t' ∧ L (k + 1) (nI i) t = L k (nI (i + 1)) t') (hx : ∀ k t, I e t → L (k + 1) (nI e) t = E t) : ∀ d i k t, i + d = e → d < k → I i t → ∃ t', I e t' ∧ L k (nI i) t = E t' := by
  intro d
  induction d with
  | zero =>
    intro i k t hi hk h
    obtain ⟨k, rfl⟩ : ∃ k', k = k' + 1 := ⟨k - 1, by omega⟩
    have : i = e := by omega
    subst this
    exact ⟨t, h, hx k t h⟩
  | succ d ih =>
    intro i k t hi hk h
    obtain ⟨k, rfl⟩ : ∃ k', k = k' + 1 := ⟨k - 1, by omega⟩
    obtain ⟨t', h', he⟩ := hs k i t (by omega) h
    obtain ⟨t2, h2, he2⟩ := ih (i + 1) k t' (by omega) (by omega) h'
    exact ⟨t2, h2, he.trans he2⟩
theorem nI_m1 (i : Nat) : nI (i + 1) + (-1) = nI i := pk_m1 i
theorem nI_0m1 : nI 0 + (-1) = -1 := by decide
theorem loopD {τ α : Type} {L : Nat → Int32 → τ → Option α} {E : τ → Option α} (I : Nat → τ → Prop) (hs : ∀ k i t, I (i + 1) t → ∃ t', I i t' ∧ L (k + 1) (nI i) t = L k (nI i + (-1)) t') (hx : ∀ k t, I 0 t → L (k + 1) (-1) t = E t) : ∀ i k t, i < k → I i t → ∃ t', I 0 t' ∧ L k (nI i + (-1)) t = E t' := by
  intro i
  induction i with
  | zero =>
    intro k t hk h
    obtain ⟨k, rfl⟩ : ∃ k', k = k' + 1 := ⟨k - 1, by omega⟩
    rw [nI_0m1]
    exact ⟨t, h, hx k t h⟩
  | succ i ih =>
    intro k t hk h
    obtain ⟨k, rfl⟩ : ∃ k', k = k' + 1 := ⟨k - 1, by omega⟩
    rw [nI_m1]
    obtain ⟨t', h', he⟩ := hs k i t h
    obtain ⟨t2, h2, he2⟩ := ih k t' (by omega) h'
    exact ⟨t2, h2, he.trans he2⟩
theorem FU_gt {n : Nat} (h : n < 4611686018427387904) : n < FU := h
/-- frames: ints change at most at the places a..b, longs at c..d -/
def Fr (a b c d : Nat) (st st' : Sg) : Prop := (∀ o, ¬ (a ≤ o ∧ o < b) → st'.1 o = st.1 o) ∧ ∀ o, ¬ (c ≤ o ∧ o < d) → st'.2 o = st.2 o
theorem Fr.rf {a b c d : Nat} {st : Sg} : Fr a b c d st st := ⟨fun _ _ => rfl, fun _ _ => rfl⟩
theorem Fr.tr {a b c d : Nat} {s1 s2 s3 : Sg} (h : Fr a b c d s1 s2) (h2 : Fr a b c d s2 s3) : Fr a b c d s1 s3 := ⟨fun o q => (h2.1 o q).trans (h.1 o q), fun o q => (h2.2 o q).trans (h.2 o q)⟩
theorem Fr.up {a b c d a' b' c' d' : Nat} {s1 s2 : Sg} (h : Fr a b c d s1 s2) (h1 : a' ≤ a ∨ b ≤ a) (h2 : b ≤ b' ∨ b ≤ a) (h3 : c' ≤ c ∨ d ≤ c) (h4 : d ≤ d' ∨ d ≤ c) : Fr a' b' c' d' s1 s2 := ⟨fun o q => h.1 o (by omega), fun o q => h.2 o (by omega)⟩
theorem sJ_fr {a b c d o k : Nat} {v : Int64} {st : Sg} (h : c ≤ o ∧ o < d) : Fr a b c d st (sJ st o k v) := ⟨fun _ _ => rfl, fun j hj => by
  have : j ≠ o := fun e => hj (by omega)
  simp [sJ, va_up, this]⟩
theorem sI_fr {a b c d o k : Nat} {v : Int32} {st : Sg} (h : a ≤ o ∧ o < b) : Fr a b c d st (sI st o k v) := ⟨fun j hj => by
  have : j ≠ o := fun e => hj (by omega)
  simp [sI, va_up, this], fun _ _ => rfl⟩
theorem sJr_fr {a b c d o : Nat} {f : Nat → Int64} {st : Sg} (h : c ≤ o ∧ o < d) : Fr a b c d st (sJr st o f) := ⟨fun _ _ => rfl, fun j hj => by
  have : j ≠ o := fun e => hj (by omega)
  simp [sJr, va_up, this]⟩
theorem sIr_fr {a b c d o : Nat} {f : Nat → Int32} {st : Sg} (h : a ≤ o ∧ o < b) : Fr a b c d st (sIr st o f) := ⟨fun j hj => by
  have : j ≠ o := fun e => hj (by omega)
  simp [sIr, va_up, this], fun _ _ => rfl⟩
theorem sJ_1 {st : Sg} {o k : Nat} {v : Int64} : (sJ st o k v).1 = st.1 := rfl
theorem sI_2 {st : Sg} {o k : Nat} {v : Int32} : (sI st o k v).2 = st.2 := rfl
theorem sJ_at {st : Sg} {o k o' k' : Nat} {v : Int64} : (sJ st o k v).2 o' k' = if o' = o ∧ k' = k then v else st.2 o' k' := by
  by_cases h : o' = o
  · subst h
    by_cases h2 : k' = k <;> simp [sJ, va_up, vp_updL, h2]
  · simp [sJ, va_up, h]
theorem sI_at {st : Sg} {o k o' k' : Nat} {v : Int32} : (sI st o k v).1 o' k' = if o' = o ∧ k' = k then v else st.1 o' k' := by
  by_cases h : o' = o
  · subst h
    by_cases h2 : k' = k <;> simp [sI, va_up, upd, h2]
  · simp [sI, va_up, h]
theorem lg_le0 (x y : Int64) : lg_cmp x y ≤ 0 ↔ ¬ y < x := by
  unfold lg_cmp
  by_cases h : y < x
  · rw [if_pos h]; simp [h]
  · rw [if_neg h]
    by_cases h2 : x = y
    · rw [if_pos h2]; simp [h]
    · rw [if_neg h2]; simp [h]
theorem lg_lt0 (x y : Int64) : lg_cmp x y < 0 ↔ x < y := by
  unfold lg_cmp
  by_cases h : y < x
  · rw [if_pos h]
    have : ¬ x < y := fun q => Int64.lt_irrefl (Int64.lt_trans h q)
    simp [this]
  · rw [if_neg h]
    by_cases h2 : x = y
    · rw [if_pos h2]; subst h2; simp
    · rw [if_neg h2]
      have : x < y := by
        rcases Int64.lt_or_lt_of_ne h2 with q | q
        · exact q
        · exact absurd q h
      simp [this]
theorem lg_gt0 (x y : Int64) : 0 < lg_cmp x y ↔ y < x := by
  have h := lg_le0 x y
  constructor
  · intro q
    by_cases h2 : y < x
    · exact h2
    · exact absurd (h.mpr h2) (Int32.not_le.mpr q)
  · intro q
    exact Int32.not_le.mp (fun z => h.mp z q)
theorem lg_ge0 (x y : Int64) : 0 ≤ lg_cmp x y ↔ ¬ x < y := by
  have h := lg_lt0 x y
  constructor
  · intro q z
    exact absurd (h.mpr z) (Int32.not_lt.mpr q)
  · intro q
    exact Int32.not_lt.mp (fun z => q (h.mp z))
theorem lg_eq0 (x y : Int64) : lg_cmp x y = 0 ↔ x = y := by
  unfold lg_cmp
  by_cases h : y < x
  · rw [if_pos h]
    have : ¬ x = y := fun q => by subst q; exact Int64.lt_irrefl h
    simp [this]
  · rw [if_neg h]
    by_cases h2 : x = y
    · rw [if_pos h2]; simp [h2]
    · rw [if_neg h2]; simp [h2]
/-- the bounds of the two sides, as one -/
theorem in_b {α : Type} (x lo hi : Int64) (k : Int32 → Option α) : bnd1 (X8_in x lo hi) k = if lo ≤ x ∧ x ≤ hi then k 1 else k 0 := by
  unfold X8_in X8_in_17 X8_in_18
  simp only [lg_lt0, lg_gt0, cb01_0, cb01_1]
  by_cases h1 : x < lo
  · have : ¬ lo ≤ x := Int64.not_le.mpr h1
    simp [h1, this, bnd1_some]
  · have h1' : lo ≤ x := Int64.not_lt.mp h1
    by_cases h2 : hi < x
    · have : ¬ x ≤ hi := Int64.not_le.mpr h2
      simp [h1, h2, this, bnd1_some]
    · have h2' : x ≤ hi := Int64.not_lt.mp h2
      simp [h1, h2, h1', h2', bnd1_some]
theorem wi_b {α : Type} (x lo hi : Int32) (k : Int32 → Option α) : bnd1 (X7_isWithin x lo hi) k = if lo ≤ x ∧ x ≤ hi then k 1 else k 0 := by
  unfold X7_isWithin X7_isWithin_14 X7_isWithin_15
  simp only [cb01_0, cb01_1]
  by_cases h1 : x < lo
  · have : ¬ lo ≤ x := Int32.not_le.mpr h1
    simp [h1, this, bnd1_some]
  · have h1' : lo ≤ x := Int32.not_lt.mp h1
    by_cases h2 : hi < x
    · have : ¬ x ≤ hi := Int32.not_le.mpr h2
      simp [h1, h2, this, bnd1_some]
    · have h2' : x ≤ hi := Int32.not_lt.mp h2
      simp [h1, h2, h1', h2', bnd1_some]
theorem i64_le (x y : Int32) : x.toInt64 ≤ y.toInt64 ↔ x ≤ y := by
  rw [Int64.le_iff_toInt_le, Int32.le_iff_toInt_le, Int32.toInt_toInt64, Int32.toInt_toInt64]
theorem i64_lit (n : Nat) (h : n < 2 ^ 31) : (lN n) = (nI n).toInt64 := (nI_l h).symm
