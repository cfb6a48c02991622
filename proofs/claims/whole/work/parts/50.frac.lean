/-! fractions in lowest terms: halving on the one side, Euclid on the other -/
def uN (x : Int64) : Nat := x.toUInt64.toNat
theorem uN_lt (x : Int64) : uN x < 18446744073709551616 := x.toUInt64.toNat_lt
theorem uN_inj {x y : Int64} (h : uN x = uN y) : x = y := congrArg UInt64.toInt64 (UInt64.toNat_inj.mp h)
theorem uN_bit (x : Int64) : (x &&& 1) = 0 ↔ uN x % 2 = 0 := by
  have h : uN (x &&& 1) = uN x % 2 := by
    show (x.toUInt64 &&& Int64.toUInt64 1).toNat = _
    rw [UInt64.toNat_and]
    exact Nat.and_two_pow_sub_one_eq_mod _ 1
  rw [← h]
  exact ⟨fun z => by rw [z]; rfl, fun z => uN_inj (z.trans rfl)⟩
theorem uN_int (x : Int64) : x.toInt = if 2 * uN x < 18446744073709551616 then (uN x : Int) else (uN x : Int) - 18446744073709551616 := BitVec.toInt_eq_toNat_cond _
theorem bit_int (x : Int64) : (x &&& 1) = 0 ↔ x.toInt % 2 = 0 := by
  rw [uN_bit, uN_int]
  have := uN_lt x
  split <;> omega
theorem shr1_int (x : Int64) : (x >>> ((1 : Int32).toInt64 &&& 63)).toInt = x.toInt / 2 := by
  have e : (x >>> ((1 : Int32).toInt64 &&& 63)).toInt = x.toInt >>> 1 := by
    have hD : (((1 : Int32).toInt64 &&& 63).toBitVec.smod 64).toNat = 1 := by decide
    rw [← hD]
    exact BitVec.toInt_sshiftRight ..
  rw [e, Int.shiftRight_eq_div_pow]
  rfl
def fr : Nat → Int → Int × Nat
  | 0, z => (z, 1)
  | j + 1, z => if z % 2 = 0 then fr j (z / 2) else (z, 2 ^ (j + 1))
theorem p2lt {j k : Nat} (h : j < k) : 2 ^ j < 2 ^ k := Nat.pow_lt_pow_right (by decide) h
theorem lN_p2 {j : Nat} (h : j < 63) : (lN (2 ^ j)).toInt = (2 : Int) ^ j := by
  rw [pk_lT (p2lt h)]
  simp
theorem ofI (x : Int64) : Int64.ofInt x.toInt = x := Int64.ofInt_toInt x
theorem fr_X (part : Int32) : ∀ (j i fuel : Nat) (x : Int64), i + j ≤ 63 → j < 60 → j < fuel → X7_partOf_9 part fuel x (lN (2 ^ j)) (nI i) = if part = 0 then some (Int64.ofInt (fr j x.toInt).1) else some (lN (fr j x.toInt).2) := by
  intro j
  induction j with
  | zero =>
    intro i fuel x hi hj hf
    obtain ⟨fuel, rfl⟩ : ∃ k, fuel = k + 1 := ⟨fuel - 1, by omega⟩
    show X7_partOf_9b (X7_partOf_9 part fuel) part x (lN (2 ^ 0)) (nI i) = _
    unfold X7_partOf_9b X7_partOf_52 X7_partOf_64
    have c1 : ¬ (64 : Int32) ≤ nI i := nI_ge (a := i) (b := 64) (by omega) (by decide)
    have c2 : ¬ (lN (2 ^ 0) &&& 1) = 0 := by decide
    simp only [lg_eq0, if_neg c1, if_neg c2, ite_self, fr, ofI]
    try rfl
  | succ j ih =>
    intro i fuel x hi hj hf
    obtain ⟨fuel, rfl⟩ : ∃ k, fuel = k + 1 := ⟨fuel - 1, by omega⟩
    show X7_partOf_9b (X7_partOf_9 part fuel) part x (lN (2 ^ (j + 1))) (nI i) = _
    unfold X7_partOf_9b X7_partOf_52 X7_partOf_64
    have c1 : ¬ (64 : Int32) ≤ nI i := nI_ge (a := i) (b := 64) (by omega) (by decide)
    have c2 : (lN (2 ^ (j + 1)) &&& 1) = 0 := by
      rw [bit_int, lN_p2 (by omega), Int.pow_succ]
      omega
    have e2 : lN (2 ^ (j + 1)) >>> ((1 : Int32).toInt64 &&& 63) = lN (2 ^ j) := by
      apply Int64.toInt_inj.mp
      rw [shr1_int, lN_p2 (by omega), lN_p2 (by omega), Int.pow_succ]
      omega
    simp only [lg_eq0, if_neg c1, if_pos c2, nm_eq, e2, nI_1]
    by_cases c : x.toInt % 2 = 0
    · rw [if_pos ((bit_int x).mpr c), ih (i + 1) fuel _ (by omega) (by omega) (by omega), shr1_int]
      simp only [fr, if_pos c]
    · rw [if_neg (fun z => c ((bit_int x).mp z))]
      simp only [fr, if_neg c, ofI]
theorem gcd_M (u lo : Int64) (part : Int32) : ∀ (b a fuel : Nat), a < 2 ^ 63 → b < 2 ^ 63 → b < fuel → X8_lowest_17 u lo part fuel (lN a) (lN b) = X8_lowest_42 u lo part (lN (Nat.gcd b a)) := by
  intro b
  induction b using Nat.strongRecOn with
  | ind b ih =>
    intro a fuel ha hb hf
    obtain ⟨fuel, rfl⟩ : ∃ k, fuel = k + 1 := ⟨fuel - 1, by omega⟩
    show X8_lowest_17b (X8_lowest_17 u lo part fuel) u lo part (lN a) (lN b) = _
    unfold X8_lowest_17b
    simp only [lg_eq0]
    by_cases c : b = 0
    · subst c
      rw [if_pos (by decide), Nat.gcd_zero_left]
    · have c2 : ¬ lN b = 0 := fun z => c ((pk_lEQ hb (by decide : 0 < 2 ^ 63)).mp z)
      rw [if_neg c2, cnz_ok c2, nm_eq, pk_lRem ha (by omega) hb]
      have hm : a % b < b := Nat.mod_lt _ (by omega)
      rw [ih (a % b) hm b fuel hb (by omega) (by omega), ← Nat.gcd_rec]
theorem fr_gcd : ∀ (j : Nat) (z : Int), (fr j z).1 * (Nat.gcd (2 ^ j) z.natAbs : Int) = z ∧ (fr j z).2 * Nat.gcd (2 ^ j) z.natAbs = 2 ^ j := by
  intro j
  induction j with
  | zero => intro z; simp [fr]
  | succ j ih =>
    intro z
    by_cases c : z % 2 = 0
    · obtain ⟨h1, h2⟩ := ih (z / 2)
      have e : z.natAbs = 2 * (z / 2).natAbs := by omega
      have eg : Nat.gcd (2 ^ (j + 1)) z.natAbs = 2 * Nat.gcd (2 ^ j) (z / 2).natAbs := by
        rw [e, Nat.pow_succ, Nat.mul_comm (2 ^ j) 2, Nat.gcd_mul_left]
      simp only [fr, if_pos c, eg]
      refine ⟨?_, ?_⟩
      · rw [Int.natCast_mul]
        have : (fr j (z / 2)).1 * (((2 : Nat) : Int) * (Nat.gcd (2 ^ j) (z / 2).natAbs : Int)) = 2 * ((fr j (z / 2)).1 * (Nat.gcd (2 ^ j) (z / 2).natAbs : Int)) := by grind
        rw [this, h1]
        omega
      · rw [Nat.mul_left_comm, h2, Nat.pow_succ, Nat.mul_comm]
    · have eg : Nat.gcd (2 ^ (j + 1)) z.natAbs = 1 := by
        have ho : z.natAbs % 2 = 1 := by omega
        have hc : Nat.Coprime 2 z.natAbs := by
          rw [Nat.coprime_iff_gcd_eq_one, Nat.gcd_rec, ho]
          decide
        exact Nat.Coprime.pow_left (j + 1) hc
      simp only [fr, if_neg c, eg]
      exact ⟨by omega, by omega⟩
theorem div_ex {u : Int64} {g : Nat} {w : Int} (hg : 0 < g) (hg2 : g < 2 ^ 62) (h : w * (g : Int) = u.toInt) (hu : -(2 ^ 62 : Int) < u.toInt ∧ u.toInt < 2 ^ 62) : u / lN g = Int64.ofInt w := by
  apply Int64.toInt_inj.mp
  have hgi : (lN g).toInt = (g : Int) := pk_lT (by omega)
  have hw : -(2 ^ 62 : Int) < w ∧ w < 2 ^ 62 := by
    have hg' : (1 : Int) ≤ (g : Int) := by omega
    constructor
    · rcases Int.lt_or_le w 0 with h0 | h0
      · have : w * (g : Int) ≤ w * 1 := Int.mul_le_mul_of_nonpos_left (by omega) hg'
        omega
      · omega
    · rcases Int.lt_or_le w 0 with h0 | h0
      · omega
      · have : w * 1 ≤ w * (g : Int) := Int.mul_le_mul_of_nonneg_left hg' h0
        omega
  rw [Int64.toInt_div, hgi, ← h, Int.mul_tdiv_cancel _ (by omega), Int64.toInt_ofInt]
theorem frac {u : Int64} {j : Nat} (part : Int32) (hu : -(2 ^ 62 : Int) < u.toInt ∧ u.toInt < 2 ^ 62) (hj : j < 60) : X7_partOf u (lN (2 ^ j)) part = some (if part = 0 then Int64.ofInt (fr j u.toInt).1 else lN (fr j u.toInt).2) ∧ X8_lowest u (lN (2 ^ j)) part = some (if part = 0 then Int64.ofInt (fr j u.toInt).1 else lN (fr j u.toInt).2) := by
  constructor
  · show X7_partOf_9 part FU u (lN (2 ^ j)) (nI 0) = _
    rw [fr_X part j 0 FU u (by omega) hj (FU_gt (by omega))]
    split <;> rfl
  · have hp : 2 ^ j < 2 ^ 60 := p2lt hj
    have habs : u.toInt.natAbs < 2 ^ 63 := by omega
    obtain ⟨g1, g2⟩ := fr_gcd j u.toInt
    have hg0 : 0 < Nat.gcd (2 ^ j) u.toInt.natAbs := Nat.gcd_pos_of_pos_left _ (Nat.two_pow_pos j)
    have hgle : Nat.gcd (2 ^ j) u.toInt.natAbs ≤ 2 ^ j := Nat.gcd_le_left _ (Nat.two_pow_pos j)
    have hnz : ¬ lN (Nat.gcd (2 ^ j) u.toInt.natAbs) = 0 := fun z => by
      have := (pk_lEQ (by omega) (by decide : 0 < 2 ^ 63)).mp z
      omega
    have key : ∀ k0 : Int64, k0 = lN u.toInt.natAbs → X8_lowest_12 k0 u (lN (2 ^ j)) part = some (if part = 0 then Int64.ofInt (fr j u.toInt).1 else lN (fr j u.toInt).2) := by
      intro k0 hk
      unfold X8_lowest_12
      rw [hk, gcd_M u _ part (2 ^ j) _ FU habs (by omega) (FU_gt (by omega))]
      unfold X8_lowest_42 X8_lowest_58
      rw [cnz_ok hnz, cnz_ok hnz, div_ex hg0 (by omega) g1 hu, pk_lDiv (by omega) hg0 (by omega)]
      have e : 2 ^ j / Nat.gcd (2 ^ j) u.toInt.natAbs = (fr j u.toInt).2 := Nat.div_eq_of_eq_mul_left hg0 g2.symm
      rw [e]
      split <;> rfl
    unfold X8_lowest
    simp only [lg_ge0]
    have z0 : (0 : Int64).toInt = 0 := by decide
    by_cases c : u < 0
    · rw [if_neg (fun q => q c)]
      apply key
      rw [Int64.lt_iff_toInt_lt, z0] at c
      apply Int64.toInt_inj.mp
      rw [pk_lT habs, Int64.toInt_neg]
      have : (-u.toInt).bmod (2 ^ 64) = -u.toInt := by
        apply Int.bmod_eq_of_le <;> omega
      rw [this]
      omega
    · rw [if_pos c]
      apply key
      rw [Int64.lt_iff_toInt_lt, z0] at c
      apply Int64.toInt_inj.mp
      rw [pk_lT habs]
      omega
