/-! the plans that never rise: their order, their marks, the greatest -/
theorem nxP_none {m : Nat} : ∀ l : List Nat, nxP m l = none → ∀ j, j < l.length → ¬ l.getD j 0 < m := by
  intro l
  induction l with
  | nil => intro _ j hj; simp at hj
  | cons x xs ih =>
    intro h j hj
    unfold nxP at h
    cases hx : nxP m xs with
    | some ys => rw [hx] at h; simp at h
    | none =>
      rw [hx] at h
      by_cases c : x < m
      · simp [c] at h
      · cases j with
        | zero => simpa using c
        | succ j =>
          have := ih hx j (by simpa using hj)
          simpa using this
theorem getD_map {xs : List Nat} {v j : Nat} (h : j < xs.length) : (xs.map (fun _ => v)).getD j 0 = v := by
  simp [List.getD, h]
theorem nxP_some {m : Nat} : ∀ l l' : List Nat, nxP m l = some l' → ∃ d, d < l.length ∧ l.getD d 0 < m ∧ (∀ j, d < j → j < l.length → ¬ l.getD j 0 < m) ∧ l'.length = l.length ∧ (∀ j, j < d → l'.getD j 0 = l.getD j 0) ∧ ∀ j, d ≤ j → j < l.length → l'.getD j 0 = l.getD d 0 + 1 := by
  intro l
  induction l with
  | nil => intro l' h; simp [nxP] at h
  | cons x xs ih =>
    intro l' h
    unfold nxP at h
    cases hx : nxP m xs with
    | some ys =>
      rw [hx] at h
      have : l' = x :: ys := by simpa using h.symm
      subst this
      obtain ⟨d, a1, a2, a3, a4, a5, a6⟩ := ih ys hx
      refine ⟨d + 1, by simpa using a1, by simpa using a2, fun j h1 h2 => ?_, by simpa using a4, fun j hj => ?_, fun j h1 h2 => ?_⟩
      · obtain ⟨i, rfl⟩ : ∃ i, j = i + 1 := ⟨j - 1, by omega⟩
        have := a3 i (by omega) (by simpa using h2)
        simpa using this
      · cases j with
        | zero => simp
        | succ j =>
          have := a5 j (by omega)
          simpa using this
      · obtain ⟨i, rfl⟩ : ∃ i, j = i + 1 := ⟨j - 1, by omega⟩
        have := a6 i (by omega) (by simpa using h2)
        simpa using this
    | none =>
      rw [hx] at h
      have hn := nxP_none xs hx
      by_cases c : x < m
      · have : l' = (x + 1) :: xs.map (fun _ => x + 1) := by simpa [c] using h.symm
        subst this
        refine ⟨0, by simp, by simpa using c, fun j h1 h2 => ?_, by simp, fun j hj => by omega, fun j h1 h2 => ?_⟩
        · obtain ⟨i, rfl⟩ : ∃ i, j = i + 1 := ⟨j - 1, by omega⟩
          have := hn i (by simpa using h2)
          simpa using this
        · cases j with
          | zero => simp
          | succ j =>
            have : j < xs.length := by simpa using h2
            simp [List.getD, this]
      · simp [c] at h
/-- a plan laid at a place -/
def Lp (st : Sg) (o : Nat) (l : List Nat) (D np : Nat) : Prop := l.length = D ∧ ∀ d, d < D → st.1 o d = nI (l.getD d 0) ∧ l.getD d 0 < np
theorem nxP_lt {m : Nat} {l l' : List Nat} (h : nxP m l = some l') (hl : ∀ j, j < l.length → l.getD j 0 ≤ m) : ∀ j, j < l'.length → l'.getD j 0 ≤ m := by
  obtain ⟨d, a1, a2, a3, a4, a5, a6⟩ := nxP_some l l' h
  intro j hj
  by_cases c : j < d
  · rw [a5 j c]; exact hl j (by omega)
  · rw [a6 j (by omega) (by omega)]; omega
theorem mks_drop {l : List Nat} {i : Nat} (h1 : 1 ≤ i) (h2 : i < l.length) : mks (l.drop (i - 1)) = (if l.getD i 0 = l.getD (i - 1) 0 then 0 else 1) + mks (l.drop i) := by
  obtain ⟨k, rfl⟩ : ∃ k, i = k + 1 := ⟨i - 1, by omega⟩
  rw [show k + 1 - 1 = k from rfl, List.drop_eq_getElem_cons (show k < l.length by omega), List.drop_eq_getElem_cons h2]
  have e1 : l.getD (k + 1) 0 = l[k + 1] := by simp [List.getD, h2]
  have e2 : l.getD k 0 = l[k] := by simp [List.getD, show k < l.length by omega]
  rw [e1, e2]
  show (if l[k + 1] ≠ l[k] then 1 else 0) + _ = _
  by_cases c : l[k + 1] = l[k]
  · simp [c]
  · simp [c]
theorem mks_last {l : List Nat} (h : 1 ≤ l.length) : mks (l.drop (l.length - 1)) = 0 := by
  rw [List.drop_eq_getElem_cons (show l.length - 1 < l.length by omega), List.drop_of_length_le (by omega)]
  rfl
theorem mks_le : ∀ l : List Nat, mks l ≤ l.length := by
  intro l
  induction l with
  | nil => simp [mks]
  | cons x xs ih =>
    cases xs with
    | nil => simp [mks]
    | cons y r =>
      have e : mks (x :: y :: r) = (if y ≠ x then 1 else 0) + mks (y :: r) := rfl
      rw [e]
      have : (x :: y :: r).length = (y :: r).length + 1 := rfl
      rw [this]
      split <;> omega
theorem x_marks {st : Sg} {l : List Nat} {D np : Nat} (hL : Lp st 60 l D np) (hD : 1 ≤ D) (hD6 : D ≤ 6) (hnp : np ≤ 5) : X0_marksDown (nI D) st = some (nI (mks l)) := by
  obtain ⟨hlen, hL⟩ := hL
  have hmk : mks l ≤ 6 := Nat.le_trans (mks_le l) (by omega)
  obtain ⟨x, ⟨h1, v, h2, h3⟩, he⟩ := loopU (L := fun k v (t : Int32) => X0_marksDown_4 (nI D) st k t v) (E := fun t => X0_marksDown_35 t st) (fun i (t : Int32) => 1 ≤ i ∧ ∃ v : Nat, t = nI v ∧ v + mks (l.drop (i - 1)) = mks l) D
    (fun k i t hi ⟨a1, v, a2, a3⟩ => by
      have e1 : nI i - 1 = nI (i - 1) := pk_sub (a := i) (b := 1) (by omega)
      have hd := mks_drop (l := l) a1 (by omega)
      have g1 := hL i hi
      have g2 := hL (i - 1) (by omega)
      have un : X0_marksDown_4 (nI D) st (k + 1) t (nI i) = if nI (l.getD i 0) = nI (l.getD (i - 1) 0) then X0_marksDown_4 (nI D) st k t (nI (i + 1)) else X0_marksDown_4 (nI D) st k (t + 1) (nI (i + 1)) := by
        show X0_marksDown_4b (X0_marksDown_4 (nI D) st k) (nI D) t (nI i) st = _
        unfold X0_marksDown_4b X0_marksDown_29
        simp only [nm_eq, nI_1]
        rw [if_neg (nI_ge hi (by omega)), cx6 (by omega), e1, cx6 (by omega), clI (by omega), clI (by omega), g1.1, g2.1]
      by_cases c : l.getD i 0 = l.getD (i - 1) 0
      · refine ⟨t, ⟨by omega, v, a2, ?_⟩, ?_⟩
        · rw [if_pos c] at hd
          rw [show i + 1 - 1 = i from rfl]; omega
        · rw [un, if_pos (by rw [c])]
      · refine ⟨t + 1, ⟨by omega, v + 1, by rw [a2, nI_1], ?_⟩, ?_⟩
        · rw [if_neg c] at hd
          rw [show i + 1 - 1 = i from rfl]; omega
        · rw [un, if_neg (fun z => c (nI_inj (by omega) (by omega) z))])
    (fun k t _ => by
      show X0_marksDown_4b (X0_marksDown_4 (nI D) st k) (nI D) t (nI D) st = _
      unfold X0_marksDown_4b
      rw [if_pos (nI_le (Nat.le_refl D) (by omega))])
    (D - 1) 1 FU 0 (by omega) (FU_gt (by omega)) ⟨by omega, 0, rfl, by simp⟩
  unfold X0_marksDown
  rw [show (1 : Int32) = nI 1 from rfl]
  refine he.trans ?_
  show some x = _
  have := mks_last (l := l) (by omega)
  rw [hlen] at this
  rw [this] at h3
  rw [h2, ← h3]; rfl
theorem m_once {st : Sg} {l : List Nat} {D np : Nat} (hL : Lp st 11 l D np) (hd : st.1 0 1 = nI D) (hD : 1 ≤ D) (hD6 : D ≤ 6) (hnp : np ≤ 5) : X8_isOnce st = some (if mks l ≤ 1 then 1 else 0) := by
  obtain ⟨hlen, hL⟩ := hL
  have hmk : mks l ≤ 6 := Nat.le_trans (mks_le l) (by omega)
  obtain ⟨x, ⟨h1, v, h2, h3⟩, he⟩ := loopU (L := fun k v (t : Int32) => X8_isOnce_4 st k t v) (E := fun t => X8_isOnce_43 t st) (fun i (t : Int32) => 1 ≤ i ∧ ∃ v : Nat, t = nI v ∧ v + mks (l.drop (i - 1)) = mks l) D
    (fun k i t hi ⟨a1, v, a2, a3⟩ => by
      have e1 : nI i - 1 = nI (i - 1) := pk_sub (a := i) (b := 1) (by omega)
      have hdr := mks_drop (l := l) a1 (by omega)
      have g1 := hL i hi
      have g2 := hL (i - 1) (by omega)
      have un : X8_isOnce_4 st (k + 1) t (nI i) = if nI (l.getD i 0) = nI (l.getD (i - 1) 0) then X8_isOnce_4 st k (t + 0) (nI (i + 1)) else X8_isOnce_4 st k (t + 1) (nI (i + 1)) := by
        show X8_isOnce_4b (X8_isOnce_4 st k) t (nI i) st = _
        unfold X8_isOnce_4b X8_isOnce_35
        simp only [nm_eq, nI_1]
        rw [hd, if_neg (nI_ge hi (by omega)), cx6 (by omega), e1, cx6 (by omega), clI (by omega), clI (by omega), g1.1, g2.1]
      by_cases c : l.getD i 0 = l.getD (i - 1) 0
      · refine ⟨t + 0, ⟨by omega, v, by rw [a2]; exact nI_add v 0, ?_⟩, ?_⟩
        · rw [if_pos c] at hdr
          rw [show i + 1 - 1 = i from rfl]; omega
        · rw [un, if_pos (by rw [c])]
      · refine ⟨t + 1, ⟨by omega, v + 1, by rw [a2, nI_1], ?_⟩, ?_⟩
        · rw [if_neg c] at hdr
          rw [show i + 1 - 1 = i from rfl]; omega
        · rw [un, if_neg (fun z => c (nI_inj (by omega) (by omega) z))])
    (fun k t _ => by
      show X8_isOnce_4b (X8_isOnce_4 st k) t (nI D) st = _
      unfold X8_isOnce_4b
      rw [hd, if_pos (nI_le (Nat.le_refl D) (by omega))])
    (D - 1) 1 FU 0 (by omega) (FU_gt (by omega)) ⟨by omega, 0, rfl, by simp⟩
  unfold X8_isOnce
  rw [show (1 : Int32) = nI 1 from rfl]
  refine he.trans ?_
  show X8_isOnce_43 x st = _
  have := mks_last (l := l) (by omega)
  rw [hlen] at this
  rw [this] at h3
  have hv : v = mks l := by omega
  unfold X8_isOnce_43 X8_isOnce_53
  rw [h2, hv, cb01_0, cb01_1]
  by_cases c : mks l ≤ 1
  · rw [if_neg (show ¬ (2 : Int32) ≤ nI (mks l) from nI_ge (b := 2) (by omega) (by decide)), if_pos c]; rfl
  · rw [if_pos (show (2 : Int32) ≤ nI (mks l) from nI_le (a := 2) (by omega) (by omega)), if_neg c]
