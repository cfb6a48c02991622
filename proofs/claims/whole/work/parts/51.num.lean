/-! the numbers of the spec: powers, bounds -/
theorem fi4_eq (s : Nat) : ∀ f : Int64, fi4 s f = f * lN (4 ^ s) := by
  induction s with
  | zero => intro f; show f = f * 1; grind
  | succ s ih =>
    intro f
    show fi4 s (f * 4) = _
    rw [ih, Nat.pow_succ, ← lN_mul]
    have : lN 4 = 4 := rfl
    grind
theorem FI_eq (k : Nat) : FI k = lN (4 ^ k) := by
  unfold FI
  rw [fi4_eq]
  grind
theorem fi4_FI (s k : Nat) : fi4 s (FI k) = FI (k + s) := by
  rw [fi4_eq, FI_eq, FI_eq, lN_mul, Nat.pow_add]
theorem pow4 (m : Nat) : 4 ^ m = 2 ^ (2 * m) := by rw [Nat.pow_mul]
theorem FI_p2 (k : Nat) : FI k = lN (2 ^ (2 * k)) := by rw [FI_eq, pow4]
theorem shl_FI : ∀ m, m < 19 → (1 : Int64) <<< ((nI (2 * m)).toInt64 &&& 63) = lN (4 ^ m) := by decide +kernel
theorem sc_X {sx : Sg} {ns d : Nat} (h : sx.1 1 9 = nI ns) (hm : ns * d < 19) : X3_scale (nI d) sx = some (FI (ns * d)) := by
  unfold X3_scale
  rw [h, show (2 : Int32) = nI 2 from rfl, pk_mul, pk_mul, Nat.mul_assoc, shl_FI _ hm, FI_eq]
theorem pw_M {m : Nat} (hm : m < 19) : X8_power (nI m) = some (FI m) := by
  unfold X8_power
  rw [show (2 : Int32) = nI 2 from rfl, pk_mul, shl_FI _ hm, FI_eq]
theorem four_sub {c : Nat} (h : c ≤ 4) : ((4 : Int32) - nI c).toInt64 = lN (4 - c) := by
  rw [show (4 : Int32) = nI 4 from rfl, pk_sub h, nI_l (by omega)]
/-- a row of scale F within its bounds -/
def Bd (F : Nat) (b : Nat → Int64) : Prop := ∀ n, n < 13 → ∃ v : Nat, b n = lN v ∧ v ≤ 99 * n * F
theorem Bd.zero {F : Nat} {b : Nat → Int64} (h : Bd F b) : b 0 = 0 := by
  obtain ⟨v, h1, h2⟩ := h 0 (by decide)
  have : v = 0 := by omega
  rw [h1, this]; rfl
theorem Bd.row {F cv pv : Nat} {b : Nat → Int64} (h : Bd F b) (hc : cv ≤ 4) (hp : pv ≤ 99) : Bd (F * 4) (rowU (nI cv) (nI pv) (lN F) b) := by
  intro n hn
  unfold rowU
  by_cases c0 : n = 0
  · subst c0
    rw [if_pos (Or.inl rfl)]
    obtain ⟨v, h1, h2⟩ := h 0 (by decide)
    exact ⟨v, h1, by omega⟩
  · rw [if_neg (by omega)]
    obtain ⟨v1, h1, b1⟩ := h (n - 1) (by omega)
    obtain ⟨v2, h2, b2⟩ := h n hn
    refine ⟨cv * (pv * F + v1) + (4 - cv) * v2, ?_, ?_⟩
    · unfold UB
      rw [h1, h2, four_sub hc, nI_l (by omega), nI_l (by omega), lN_mul, lN_add, lN_mul, lN_mul, lN_add]
    · obtain ⟨m, rfl⟩ : ∃ m, n = m + 1 := ⟨n - 1, by omega⟩
      have e1 : m + 1 - 1 = m := by omega
      rw [e1] at b1
      have k1 : pv * F ≤ 99 * F := Nat.mul_le_mul_right F hp
      have k2 : pv * F + v1 ≤ 99 * (m + 1) * F := by
        have : 99 * (m + 1) * F = 99 * F + 99 * m * F := by grind
        omega
      have k3 : cv * (pv * F + v1) ≤ cv * (99 * (m + 1) * F) := Nat.mul_le_mul_left cv k2
      have k4 : (4 - cv) * v2 ≤ (4 - cv) * (99 * (m + 1) * F) := Nat.mul_le_mul_left _ b2
      have k5 : cv * (99 * (m + 1) * F) + (4 - cv) * (99 * (m + 1) * F) = 4 * (99 * (m + 1) * F) := by
        rw [← Nat.add_mul]; congr 1; omega
      have k6 : 99 * (m + 1) * (F * 4) = 4 * (99 * (m + 1) * F) := by grind
      omega
theorem dayB_bd {cs : Nat → Int32} {p : Int32} {pv : Nat} (hp : p = nI pv) (hpv : pv ≤ 99) : ∀ (s F : Nat) (b : Nat → Int64), (∀ i, i < s → ∃ v : Nat, cs i = nI v ∧ v ≤ 4) → Bd F b → Bd (F * 4 ^ s) (dayB cs p s (lN F) b) := by
  intro s
  induction s with
  | zero => intro F b _ h; simpa [dayB] using h
  | succ s ih =>
    intro F b hc h
    obtain ⟨v, h1, h2⟩ := hc s (by omega)
    have h3 := h.row h2 hpv
    rw [← h1, ← hp] at h3
    have h4 := ih (F * 4) _ (fun i hi => hc i (by omega)) h3
    have e : lN F * 4 = lN (F * 4) := lN_mul F 4
    show Bd _ (dayB cs p s (lN F * 4) _)
    rw [e, Nat.pow_succ, Nat.mul_comm (4 ^ s) 4, ← Nat.mul_assoc]
    exact h4
theorem rowU_cg {c p : Int32} {fi : Int64} {b b' : Nat → Int64} (h : ∀ n, n < 13 → b n = b' n) : ∀ n, n < 13 → rowU c p fi b n = rowU c p fi b' n := by
  intro n hn
  unfold rowU UB
  rw [h n hn, h (n - 1) (by omega)]
theorem dayB_cg {cs : Nat → Int32} {p : Int32} : ∀ (s : Nat) (fi : Int64) (b b' : Nat → Int64), (∀ n, n < 13 → b n = b' n) → ∀ n, n < 13 → dayB cs p s fi b n = dayB cs p s fi b' n := by
  intro s
  induction s with
  | zero => intro fi b b' h n hn; exact h n hn
  | succ s ih => intro fi b b' h n hn; exact ih _ _ _ (rowU_cg h) n hn
theorem dayB_cs {cs cs' : Nat → Int32} {p : Int32} : ∀ (s : Nat) (fi : Int64) (b : Nat → Int64), (∀ i, i < s → cs i = cs' i) → dayB cs p s fi b = dayB cs' p s fi b := by
  intro s
  induction s with
  | zero => intro fi b h; rfl
  | succ s ih =>
    intro fi b h
    show dayB cs p s _ (rowU (cs s) p fi b) = dayB cs' p s _ (rowU (cs' s) p fi b)
    rw [h s (by omega), ih _ _ (fun i hi => h i (by omega))]
theorem endV_bd {re : Nat} (h : re ≤ 99) : Bd 1 (endV re) := by
  intro n hn
  refine ⟨re * n, ?_, ?_⟩
  · unfold endV
    rw [nI_l (by omega), nI_l (by omega), lN_mul]
  · have := Nat.mul_le_mul_right n h
    omega
theorem cb_bd {q : Nat → Nat → Int32} {C D re np ns : Nat} (hok : Okd q C D re np ns) {d p s : Nat} (hs : s < ns) : ∃ v : Nat, cb q d p s = nI v ∧ v ≤ 4 := by
  unfold cb
  split
  · exact ⟨0, rfl, by decide⟩
  · exact hok.2.2.2.2.2.2.2.1 s hs
theorem m1_lt {v : Nat} (h : v < 2 ^ 62) : (-1 : Int64) < lN v := by
  rw [Int64.lt_iff_toInt_lt, pk_lT (by omega)]
  have : (-1 : Int64).toInt = -1 := by decide
  omega
theorem bsV_bd {F np : Nat} {rows : Nat → Nat → Int64} (hp : 0 < np) (hF : F < 2 ^ 40) (h : ∀ p, p < np → Bd F (rows p)) : Bd F (fun n => bsV rows n np) := by
  induction np with
  | zero => omega
  | succ np ih =>
    intro n hn
    show ∃ v, (if bsV rows n np < rows np n then rows np n else bsV rows n np) = lN v ∧ _
    split
    · exact h np (by omega) n hn
    · rename_i hno
      by_cases hz : np = 0
      · subst hz
        obtain ⟨v, h1, h2⟩ := h 0 (by omega) n hn
        have hb : 99 * n * F ≤ 99 * 12 * F := Nat.mul_le_mul_right F (by omega)
        exact absurd (by rw [h1]; exact m1_lt (by omega)) hno
      · exact ih (by omega) (fun p hp => h p (by omega)) n hn
theorem pow4_le {a b : Nat} (h : a ≤ b) : 4 ^ a ≤ 4 ^ b := Nat.pow_le_pow_right (by decide) h
theorem BV_bd {q : Nat → Nat → Int32} {C D re np ns : Nat} (hok : Okd q C D re np ns) (hp : 0 < np) : ∀ k, k ≤ D → Bd (4 ^ (ns * k)) (BV q D re np ns k) := by
  intro k
  induction k with
  | zero => intro _; exact endV_bd hok.2.2.2.1
  | succ k ih =>
    intro hk
    have hD := hok.2.2.1
    have hns := hok.2.2.2.2.2.1
    have hb : ns * (k + 1) ≤ 18 := by
      have : ns * (k + 1) ≤ 3 * 6 := Nat.mul_le_mul hns (by omega)
      omega
    refine bsV_bd hp (Nat.lt_of_le_of_lt (pow4_le hb) (by decide)) (fun p hpn => ?_)
    obtain ⟨v, h1, h2, h3⟩ := hok.2.2.2.2.2.2.1 p hpn
    have := dayB_bd (cs := cb q (D - 1 - k) p) h1 h3 ns (4 ^ (ns * k)) _ (fun i hi => cb_bd hok hi) (ih (by omega))
    rw [FI_eq]
    rw [← Nat.pow_add, ← Nat.mul_succ] at this
    exact this
/-- what a row that is taken first is -/
theorem bsV_1 {rows : Nat → Nat → Int64} {n F : Nat} (hF : F < 2 ^ 40) (hn : n < 13) (h : Bd F (rows 0)) : bsV rows n 1 = rows 0 n ∧ bsA rows n 1 = 0 := by
  obtain ⟨v, h1, h2⟩ := h n hn
  have hb : 99 * n * F ≤ 99 * 12 * F := Nat.mul_le_mul_right F (by omega)
  have hlt : (-1 : Int64) < rows 0 n := by rw [h1]; exact m1_lt (by omega)
  exact ⟨if_pos hlt, if_pos hlt⟩
theorem bsA_lt {rows : Nat → Nat → Int64} {n : Nat} : ∀ np, 0 < np → bsA rows n np < np := by
  intro np
  induction np with
  | zero => intro h; omega
  | succ np ih =>
    intro _
    show (if bsV rows n np < rows np n then np else bsA rows n np) < np + 1
    split
    · omega
    · by_cases hz : np = 0
      · subst hz; exact Nat.lt_succ_self 0
      · have := ih (by omega); omega
