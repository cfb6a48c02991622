/-! the rule read on both sides -/
def rem (a : Nat) : Nat := if a = 0 then 1 else if a = 1 then 6 else if a = 2 then 5 else if a = 3 then 4 else if a = 4 then 4 else if a = 5 then 3 else if a = 6 then 2 else 0
def off (a : Nat) : Nat := if a = 0 then 0 else if a = 1 then 1 else if a = 2 then 2 else if a = 3 then 3 else if a = 4 then 4 else if a = 5 then 4 else if a = 6 then 5 else 1
theorem fol_ok {a : Nat} {c : Int32} (ha : a ≤ 7) (h : ¬ fol a c = 8) : (a = 0 ∧ fct c ∧ fol a c = 1) ∨ (a = 0 ∧ ¬ fct c ∧ prc c ∧ fol a c = 7) ∨ (a = 1 ∧ hwc c ∧ fol a c = 2) ∨ (a = 2 ∧ dig c ∧ fol a c = 3) ∨ (a = 3 ∧ dig c ∧ fol a c = 4) ∨ (a = 3 ∧ ¬ dig c ∧ c = 58 ∧ fol a c = 5) ∨ (a = 4 ∧ c = 58 ∧ fol a c = 5) ∨ (a = 5 ∧ prc c ∧ fol a c = 6) ∨ (a = 6 ∧ c = 59 ∧ fol a c = 0) := by
  have h8 : a = 0 ∨ a = 1 ∨ a = 2 ∨ a = 3 ∨ a = 4 ∨ a = 5 ∨ a = 6 ∨ a = 7 := by omega
  rcases h8 with rfl | rfl | rfl | rfl | rfl | rfl | rfl | rfl
  · rw [fol0] at h ⊢
    by_cases c1 : fct c
    · simp [c1]
    · by_cases c2 : prc c
      · rw [if_neg c1, if_pos c2]
        exact Or.inr (Or.inl ⟨rfl, c1, c2, rfl⟩)
      · rw [if_neg c1, if_neg c2] at h; exact absurd rfl h
  · rw [fol1] at h ⊢
    by_cases c1 : hwc c
    · rw [if_pos c1]; exact Or.inr (Or.inr (Or.inl ⟨rfl, c1, rfl⟩))
    · rw [if_neg c1] at h; exact absurd rfl h
  · rw [fol2] at h ⊢
    by_cases c1 : dig c
    · rw [if_pos c1]; exact Or.inr (Or.inr (Or.inr (Or.inl ⟨rfl, c1, rfl⟩)))
    · rw [if_neg c1] at h; exact absurd rfl h
  · rw [fol3] at h ⊢
    by_cases c1 : dig c
    · rw [if_pos c1]; exact Or.inr (Or.inr (Or.inr (Or.inr (Or.inl ⟨rfl, c1, rfl⟩))))
    · by_cases c2 : c = 58
      · rw [if_neg c1, if_pos c2]; exact Or.inr (Or.inr (Or.inr (Or.inr (Or.inr (Or.inl ⟨rfl, c1, c2, rfl⟩)))))
      · rw [if_neg c1, if_neg c2] at h; exact absurd rfl h
  · rw [fol4] at h ⊢
    by_cases c2 : c = 58
    · rw [if_pos c2]; exact Or.inr (Or.inr (Or.inr (Or.inr (Or.inr (Or.inr (Or.inl ⟨rfl, c2, rfl⟩))))))
    · rw [if_neg c2] at h; exact absurd rfl h
  · rw [fol5] at h ⊢
    by_cases c2 : prc c
    · rw [if_pos c2]; exact Or.inr (Or.inr (Or.inr (Or.inr (Or.inr (Or.inr (Or.inr (Or.inl ⟨rfl, c2, rfl⟩)))))))
    · rw [if_neg c2] at h; exact absurd rfl h
  · rw [fol6] at h ⊢
    by_cases c2 : c = 59
    · rw [if_pos c2]; exact Or.inr (Or.inr (Or.inr (Or.inr (Or.inr (Or.inr (Or.inr (Or.inr ⟨rfl, c2, rfl⟩)))))))
    · rw [if_neg c2] at h; exact absurd rfl h
  · exact absurd fol7 h
theorem rem_s {a : Nat} {c : Int32} (ha : a ≤ 7) (h : ¬ fol a c = 8) : rem a ≤ rem (fol a c) + 1 := by
  rcases fol_ok ha h with ⟨rfl, _, e⟩ | ⟨rfl, _, _, e⟩ | ⟨rfl, _, e⟩ | ⟨rfl, _, e⟩ | ⟨rfl, _, e⟩ | ⟨rfl, _, _, e⟩ | ⟨rfl, _, e⟩ | ⟨rfl, _, e⟩ | ⟨rfl, _, e⟩ <;> rw [e] <;> decide
theorem flt_rem {t : Nat → Int32} {k : Nat} : ∀ (j i a : Nat), a ≤ 7 → flt t k j i a = none → rem a ≤ j := by
  intro j
  induction j with
  | zero =>
    intro i a ha h
    unfold flt at h
    by_cases c : a = 7
    · subst c; decide
    · rw [if_neg c] at h; simp at h
  | succ j ih =>
    intro i a ha h
    unfold flt at h
    by_cases c : fol a (t i) = 8
    · rw [if_pos c] at h; simp at h
    · rw [if_neg c] at h
      have hle := fol_le (a := a) (c := t i)
      have := ih (i + 1) _ (by omega) h
      have := rem_s ha c
      omega
/-- the clauses read so far -/
def CE (nc : Nat) (tx tm : Sg) : Prop := ∀ k, k < nc → tm.1 15 k = tx.1 70 k ∧ tm.1 16 k = tx.1 71 k ∧ tm.1 17 k = tx.1 72 k ∧ tm.1 18 k = tx.1 73 k ∧ ∃ v : Nat, tx.1 73 k = nI v ∧ v ≤ 4
def RS (a nc : Nat) (num : Int32) (tx tm : Sg) : Prop :=
  (a = 0 ∨ a = 1 ∨ a = 2 ∨ a = 5 → num = 0) ∧ (1 ≤ a → a ≤ 6 → tm.1 15 nc = tx.1 70 nc) ∧ (2 ≤ a → a ≤ 6 → tm.1 16 nc = tx.1 71 nc) ∧ (a = 3 ∨ a = 4 → num = tx.1 72 nc) ∧ (a = 5 ∨ a = 6 → tm.1 17 nc = tx.1 72 nc) ∧ (a = 6 → ∃ v : Nat, num = nI v ∧ tx.1 73 nc = nI v ∧ v ≤ 4) ∧ (a = 7 → ∃ v : Nat, num = nI v ∧ tx.1 69 6 = nI v ∧ v ≤ 4)
def RI : List Nat := [69, 70, 71, 72, 73]
def RM : List Nat := [0, 15, 16, 17, 18]
theorem sIn {st : Sg} {o k j : Nat} {v : Int32} (h : j ≠ k) : (sI st o k v).1 o j = st.1 o j := by
  rw [sI_at, if_neg (fun z => h z.2)]
theorem sIs {st : Sg} {o k : Nat} {v : Int32} : (sI st o k v).1 o k = v := by
  rw [sI_at, if_pos ⟨rfl, rfl⟩]
theorem CE.keep {nc : Nat} {tx tm tx' tm' : Sg} (h : CE nc tx tm) (hx : ∀ o, 70 ≤ o → o < 74 → ∀ k, k < nc → tx'.1 o k = tx.1 o k) (hm : ∀ o, 15 ≤ o → o < 19 → ∀ k, k < nc → tm'.1 o k = tm.1 o k) : CE nc tx' tm' := by
  intro k hk
  rw [hx 70 (by omega) (by omega) k hk, hx 71 (by omega) (by omega) k hk, hx 72 (by omega) (by omega) k hk, hx 73 (by omega) (by omega) k hk, hm 15 (by omega) (by omega) k hk, hm 16 (by omega) (by omega) k hk, hm 17 (by omega) (by omega) k hk, hm 18 (by omega) (by omega) k hk]
  exact h k hk
theorem cx8 {α : Type} {i : Nat} {k : Option α} (h : i < 8) : cix (nI i) 8 k = k := cix_nI h (by decide)
theorem mr_dig {k i nc cnt : Nat} {num c : Int32} {tm : Sg} (hi : i < cnt) (hc : cnt ≤ 40) (h20 : tm.1 0 20 = nI cnt) (h14 : tm.1 14 i = c) (hd : dig c) : X8_rule_19 (k + 1) num (nI i) tm = X8_rule_19 k ((10 * num) + c - 48) (nI (i + 1)) tm := by
  show X8_rule_19b (X8_rule_19 k) num (nI i) tm = _
  unfold X8_rule_19b X8_rule_143
  rw [h20, if_neg (nI_ge hi (by omega)), cx40 (by omega), nm_eq, clI (by omega), h14, b_mdig, if_pos hd, if_neg (by decide), nm_eq, nm_eq, nI_1]
theorem mr_col {k i nc cnt : Nat} {num : Int32} {tm : Sg} (hi : i < cnt) (hc : cnt ≤ 40) (hn : nc < 8) (h20 : tm.1 0 20 = nI cnt) (h25 : tm.1 0 25 = nI nc) (h14 : tm.1 14 i = 58) : X8_rule_19 (k + 1) num (nI i) tm = X8_rule_19 k 0 (nI (i + 1)) (sI tm 17 nc num) := by
  show X8_rule_19b (X8_rule_19 k) num (nI i) tm = _
  unfold X8_rule_19b X8_rule_143
  rw [h20, if_neg (nI_ge hi (by omega)), cx40 (by omega), nm_eq, clI (by omega), h14, b_mdig, if_neg (by decide), if_pos rfl, if_pos rfl, h25, cx8 hn, nm_eq, nm_eq, clI (by omega), nI_1]
theorem mr_sem {k i nc cnt : Nat} {num : Int32} {tm : Sg} (hi : i < cnt) (hc : cnt ≤ 40) (hn : nc < 8) (h20 : tm.1 0 20 = nI cnt) (h25 : tm.1 0 25 = nI nc) (h14 : tm.1 14 i = 59) : X8_rule_19 (k + 1) num (nI i) tm = X8_rule_19 k 0 (nI (i + 1)) (sI (sI tm 18 nc num) 0 25 (nI (nc + 1))) := by
  show X8_rule_19b (X8_rule_19 k) num (nI i) tm = _
  unfold X8_rule_19b X8_rule_143
  rw [h20, if_neg (nI_ge hi (by omega)), cx40 (by omega), nm_eq, clI (by omega), h14, b_mdig, if_neg (by decide), if_pos rfl, if_neg (by decide), if_pos rfl, h25, cx8 hn, nm_eq, nm_eq, nm_eq, clI (by omega), sI_ne (by decide), h25, nI_1, nI_1]
theorem mr_how {k i nc cnt : Nat} {num c : Int32} {tm : Sg} (hi : i < cnt) (hc : cnt ≤ 40) (hn : nc < 8) (h20 : tm.1 0 20 = nI cnt) (h25 : tm.1 0 25 = nI nc) (h14 : tm.1 14 i = c) (hw : hwc c) : X8_rule_19 (k + 1) num (nI i) tm = X8_rule_19 k num (nI (i + 1)) (sI tm 16 nc c) := by
  have n1 : ¬ dig c := by rcases hw with rfl | rfl | rfl <;> decide
  have n2 : ¬ c = 58 := by rcases hw with rfl | rfl | rfl <;> decide
  have n3 : ¬ c = 59 := by rcases hw with rfl | rfl | rfl <;> decide
  show X8_rule_19b (X8_rule_19 k) num (nI i) tm = _
  unfold X8_rule_19b X8_rule_143
  rw [h20, if_neg (nI_ge hi (by omega)), cx40 (by omega), nm_eq, clI (by omega), h14, b_mdig, if_neg n1, if_pos rfl, if_neg n2, if_neg n3, b_how, if_pos hw, if_neg (by decide), h25, cx8 hn, nm_eq, nm_eq, clI (by omega), nI_1]
theorem mr_fact {k i nc cnt : Nat} {num c : Int32} {tm : Sg} (hi : i < cnt) (hc : cnt ≤ 40) (hn : nc < 8) (h20 : tm.1 0 20 = nI cnt) (h25 : tm.1 0 25 = nI nc) (h14 : tm.1 14 i = c) (hw : fct c) : X8_rule_19 (k + 1) num (nI i) tm = X8_rule_19 k num (nI (i + 1)) (sI tm 15 nc c) := by
  have n1 : ¬ dig c := by rcases hw with rfl | rfl <;> decide
  have n2 : ¬ c = 58 := by rcases hw with rfl | rfl <;> decide
  have n3 : ¬ c = 59 := by rcases hw with rfl | rfl <;> decide
  have n4 : ¬ hwc c := by rcases hw with rfl | rfl <;> decide
  show X8_rule_19b (X8_rule_19 k) num (nI i) tm = _
  unfold X8_rule_19b X8_rule_143
  rw [h20, if_neg (nI_ge hi (by omega)), cx40 (by omega), nm_eq, clI (by omega), h14, b_mdig, if_neg n1, if_pos rfl, if_neg n2, if_neg n3, b_how, if_neg n4, if_pos rfl, h25, cx8 hn, nm_eq, nm_eq, clI (by omega), nI_1]
/-- the class's step -/
def xrd (a nc : Nat) (c : Int32) (tx : Sg) : Sg :=
  if a = 0 then (if fct c then sI tx 70 nc c else sI tx 69 6 (c - 48))
  else if a = 1 then sI tx 71 nc c
  else if a = 2 then sI tx 72 nc (c - 48)
  else if a = 3 then (if dig c then sI tx 72 nc (((tx.1 72 nc) * 10) + c - 48) else tx)
  else if a = 4 then tx
  else if a = 5 then sI tx 73 nc (c - 48)
  else sI tx 69 1 (nI (nc + 1))
theorem xr_step {k i a nc cnt : Nat} {c : Int32} {tx : Sg} (ha : a ≤ 6) (hi : i < cnt) (hc : cnt ≤ 40) (hn : nc < 6 ∨ (a = 0 ∧ ¬ fct c)) (h67 : tx.1 67 1 = nI cnt) (h69 : tx.1 69 1 = nI nc) (h68 : tx.1 68 i = c) : X2_read_14 (k + 1) (nI a) (nI i) tx = X2_read_14 k (nI (fol a c)) (nI (i + 1)) (xrd a nc c tx) := by
  show X2_read_14b (X2_read_14 k) (nI a) (nI i) tx = _
  unfold X2_read_14b X2_read_89
  rw [h67, if_neg (nI_ge hi (by omega)), cx40 (by omega), nm_eq, clI (by omega), h68]
  have rest : nc < 6 → ¬ a = 6 → ∀ tx', X2_readInClause (nI a) c tx = some tx' → X2_read_54 (X2_read_14 k) (nI a) (nI i) c tx = X2_read_14 k (nI (fol a c)) (nI (i + 1)) tx' := by
    intro h6 hn6 tx' hx
    unfold X2_read_54 X2_read_89
    rw [if_neg (show ¬ nI a = (6 : Int32) from nI_neI (b := 6) (by omega) (by decide) hn6), h69, if_neg (show ¬ (6 : Int32) ≤ nI nc from nI_ge (b := 6) h6 (by decide)), hx, bnd1_some, x_follow (by omega), bnd1_some, nm_eq, nI_1]
  have h8 : a = 0 ∨ a = 1 ∨ a = 2 ∨ a = 3 ∨ a = 4 ∨ a = 5 ∨ a = 6 := by omega
  rcases h8 with rfl | rfl | rfl | rfl | rfl | rfl | rfl
  · rw [if_pos (by decide), b_fact]
    show _ = X2_read_14 k (nI (fol 0 c)) (nI (i + 1)) (if fct c then sI tx 70 nc c else sI tx 69 6 (c - 48))
    by_cases cf : fct c
    · have h6 : nc < 6 := by rcases hn with z | z; exact z; exact absurd cf z.2
      rw [if_pos cf, if_pos cf, if_neg (by decide)]
      refine rest h6 (by decide) _ ?_
      unfold X2_readInClause X2_readInClause_134
      rw [if_pos (by decide), h69, cix_nI h6 (by decide), nm_eq, clI (by omega)]
    · rw [if_neg cf, if_neg cf, if_pos rfl, nm_eq, x_follow (by omega), bnd1_some, nm_eq, nI_1]
  · rw [if_neg (by decide)]
    have h6 : nc < 6 := by omega
    refine rest h6 (by decide) _ ?_
    unfold X2_readInClause X2_readInClause_134
    rw [if_neg (by decide), if_pos (by decide), h69, cix_nI h6 (by decide), nm_eq, clI (by omega)]
    rfl
  · rw [if_neg (by decide)]
    have h6 : nc < 6 := by omega
    refine rest h6 (by decide) _ ?_
    unfold X2_readInClause X2_readInClause_134
    rw [if_neg (by decide), if_neg (by decide), if_pos (by decide), h69, cix_nI h6 (by decide), nm_eq, clI (by omega)]
    rfl
  · rw [if_neg (by decide)]
    have h6 : nc < 6 := by omega
    refine rest h6 (by decide) _ ?_
    unfold X2_readInClause X2_readInClause_134
    rw [if_neg (by decide), if_neg (by decide), if_neg (by decide), if_pos (by decide), b_dig]
    show _ = some (if dig c then sI tx 72 nc (((tx.1 72 nc) * 10) + c - 48) else tx)
    by_cases cf : dig c
    · rw [if_pos cf, if_pos cf, if_neg (by decide), h69, cix_nI h6 (by decide), cix_nI h6 (by decide), nm_eq, clI (by omega)]
    · rw [if_neg cf, if_neg cf, if_pos rfl]
  · rw [if_neg (by decide)]
    have h6 : nc < 6 := by omega
    refine rest h6 (by decide) _ ?_
    unfold X2_readInClause X2_readInClause_134
    rw [if_neg (by decide), if_neg (by decide), if_neg (by decide), if_neg (by decide), if_pos (by decide)]
    rfl
  · rw [if_neg (by decide)]
    have h6 : nc < 6 := by omega
    refine rest h6 (by decide) _ ?_
    unfold X2_readInClause X2_readInClause_134
    rw [if_neg (by decide), if_neg (by decide), if_neg (by decide), if_neg (by decide), if_neg (by decide), if_pos (by decide), h69, cix_nI h6 (by decide), nm_eq, clI (by omega)]
    rfl
  · rw [if_neg (by decide)]
    unfold X2_read_54 X2_read_89
    rw [if_pos (by decide), nm_eq, x_follow (by omega), bnd1_some, nm_eq, nI_1, h69, nI_1]
    rfl
