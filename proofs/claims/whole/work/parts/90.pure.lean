def RelT (n : Nat) (sx sm : Sg) : Prop := n = n ∧ sx = sx ∧ sm = sm
theorem pure_init : RelT 0 st0X st0M := ⟨rfl, rfl, rfl⟩
theorem pure_step : StepOK RelT := by
  sorry
