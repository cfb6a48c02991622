/-! the walk: forward odds and takings against the backward rows -/
def oS (c : Int32) (o : Nat → Int64) (n : Nat) : Int64 := (if n = 0 then 4 else 4 - c.toInt64) * o n + (if n < 12 then c.toInt64 * o (n + 1) else 0)
def smU (f : Nat → Int64) : Nat → Int64
  | 0 => 0
  | k + 1 => smU f k + f k
def stp (c p : Int32) (w : (Nat → Int64) × Int64) : (Nat → Int64) × Int64 := (oS c w.1, w.2 * 4 + c.toInt64 * smU (fun n => w.1 (n + 1)) 12 * p.toInt64)
def fwS (cs : Nat → Int32) (p : Int32) : Nat → (Nat → Int64) × Int64 → (Nat → Int64) × Int64
  | 0, w => w
  | s + 1, w => stp (cs s) p (fwS cs p s w)
def fw0 (C : Nat) : (Nat → Int64) × Int64 := (fun n => if n = C then 1 else 0, 0)
def fwD (q : Nat → Nat → Int32) (ns : Nat) (P : Nat → Nat) (C : Nat) : Nat → (Nat → Int64) × Int64
  | 0 => fw0 C
  | d + 1 => fwS (cb q d (P d)) (q 0 (P d)) ns (fwD q ns P C d)
def QQ (w : (Nat → Int64) × Int64) (fi : Int64) (b : Nat → Int64) : Int64 := smU (fun n => w.1 n * b n) 13 + fi * w.2
theorem sub4 {c : Int32} {cv : Nat} (h : c = nI cv) (hc : cv ≤ 4) : (4 - c).toInt64 = 4 - c.toInt64 := by
  rw [h, four_sub hc, nI_l (by omega), show (4 : Int64) = lN 4 from rfl, lN_sub hc]
theorem rowU_v {c p : Int32} {cv : Nat} {fi : Int64} {b : Nat → Int64} (h : c = nI cv) (hc : cv ≤ 4) (n : Nat) (h0 : n ≠ 0) (hn : n < 13) : rowU c p fi b n = c.toInt64 * (p.toInt64 * fi + b (n - 1)) + (4 - c.toInt64) * b n := by
  unfold rowU UB
  rw [if_neg (by omega), sub4 h hc]
theorem dual_in {c p : Int32} {cv : Nat} {fi : Int64} {o b : Nat → Int64} (h : c = nI cv) (hc : cv ≤ 4) (b0 : b 0 = 0) : ∀ k, k < 12 → smU (fun n => oS c o n * b n) (k + 1) + c.toInt64 * p.toInt64 * fi * smU (fun n => o (n + 1)) k = smU (fun n => o n * rowU c p fi b n) (k + 1) + c.toInt64 * o (k + 1) * b k := by
  intro k
  induction k with
  | zero =>
    intro _
    show (0 : Int64) + oS c o 0 * b 0 + c.toInt64 * p.toInt64 * fi * 0 = 0 + o 0 * rowU c p fi b 0 + c.toInt64 * o 1 * b 0
    rw [rowU_0 b0, b0]
    grind
  | succ k ih =>
    intro hk
    have := ih (by omega)
    show smU (fun n => oS c o n * b n) (k + 1) + oS c o (k + 1) * b (k + 1) + c.toInt64 * p.toInt64 * fi * (smU (fun n => o (n + 1)) k + o (k + 1)) = smU (fun n => o n * rowU c p fi b n) (k + 1) + o (k + 1) * rowU c p fi b (k + 1) + c.toInt64 * o (k + 1 + 1) * b (k + 1)
    rw [rowU_v h hc (k + 1) (by omega) (by omega), show k + 1 - 1 = k from rfl]
    unfold oS at this ⊢
    rw [if_neg (show ¬ k + 1 = 0 by omega), if_pos hk]
    grind
theorem QQ_stp {c p : Int32} {cv : Nat} {fi : Int64} {w : (Nat → Int64) × Int64} {b : Nat → Int64} (h : c = nI cv) (hc : cv ≤ 4) (b0 : b 0 = 0) : QQ (stp c p w) fi b = QQ w (fi * 4) (rowU c p fi b) := by
  have k := dual_in (p := p) (fi := fi) (o := w.1) h hc b0 11 (by omega)
  unfold QQ stp
  show smU (fun n => oS c w.1 n * b n) (11 + 1) + oS c w.1 12 * b 12 + fi * (w.2 * 4 + c.toInt64 * (smU (fun n => w.1 (n + 1)) 11 + w.1 12) * p.toInt64) = smU (fun n => w.1 n * rowU c p fi b n) (11 + 1) + w.1 12 * rowU c p fi b 12 + fi * 4 * w.2
  rw [rowU_v h hc 12 (by omega) (by omega), show 12 - 1 = 11 from rfl]
  have e : oS c w.1 12 = (4 - c.toInt64) * w.1 12 := by
    unfold oS
    rw [if_neg (by omega), if_neg (by omega)]
    grind
  rw [e]
  grind
theorem dayB_0 {cs : Nat → Int32} {p : Int32} : ∀ (s : Nat) (fi : Int64) (b : Nat → Int64), b 0 = 0 → dayB cs p s fi b 0 = 0 := by
  intro s
  induction s with
  | zero => intro fi b h; exact h
  | succ s ih => intro fi b h; exact ih _ _ (rowU_0 h)
theorem QQ_fwS {cs : Nat → Int32} {p : Int32} {w : (Nat → Int64) × Int64} : ∀ (s : Nat) (fi : Int64) (b : Nat → Int64), (∀ i, i < s → ∃ v : Nat, cs i = nI v ∧ v ≤ 4) → b 0 = 0 → QQ (fwS cs p s w) fi b = QQ w (fi4 s fi) (dayB cs p s fi b) := by
  intro s
  induction s with
  | zero => intro fi b _ _; rfl
  | succ s ih =>
    intro fi b hc b0
    obtain ⟨v, h1, h2⟩ := hc s (by omega)
    show QQ (stp (cs s) p (fwS cs p s w)) fi b = QQ w (fi4 s (fi * 4)) (dayB cs p s (fi * 4) (rowU (cs s) p fi b))
    rw [QQ_stp h1 h2 b0, ih _ _ (fun i hi => hc i (by omega)) (rowU_0 b0)]
theorem PV_0 {q : Nat → Nat → Int32} {D re ns : Nat} {P : Nat → Nat} : ∀ k, PV q D re ns P k 0 = 0 := by
  intro k
  induction k with
  | zero => show (nI re).toInt64 * (nI 0).toInt64 = 0; rw [show (nI 0).toInt64 = 0 by decide]; grind
  | succ k ih => exact dayB_0 _ _ _ ih
theorem PV_s {q : Nat → Nat → Int32} {D re ns k : Nat} {P : Nat → Nat} : PV q D re ns P (k + 1) = dayB (cb q (D - 1 - k) (P (D - 1 - k))) (q 0 (P (D - 1 - k))) ns (FI (ns * k)) (PV q D re ns P k) := rfl
theorem QQ_fwD {q : Nat → Nat → Int32} {C D re np ns : Nat} {P : Nat → Nat} (hok : Okd q C D re np ns) : ∀ k, k ≤ D → QQ (fwD q ns P C D) 1 (endV re) = QQ (fwD q ns P C (D - k)) (FI (ns * k)) (PV q D re ns P k) := by
  intro k
  induction k with
  | zero => intro _; rfl
  | succ k ih =>
    intro hk
    rw [ih (by omega)]
    have e : D - k = (D - 1 - k) + 1 := by omega
    have e2 : D - (k + 1) = D - 1 - k := by omega
    rw [e, e2]
    show QQ (fwS (cb q (D - 1 - k) (P (D - 1 - k))) (q 0 (P (D - 1 - k))) ns (fwD q ns P C (D - 1 - k))) _ _ = _
    rw [QQ_fwS ns _ _ (fun i hi => cb_bd hok hi) (PV_0 k), fi4_FI, PV_s, Nat.mul_succ]
theorem smU_d {b : Nat → Int64} {C : Nat} : ∀ k, smU (fun n => (if n = C then 1 else 0) * b n) k = if C < k then b C else 0 := by
  intro k
  induction k with
  | zero => rfl
  | succ k ih =>
    show smU (fun n => (if n = C then 1 else 0) * b n) k + (if k = C then 1 else 0) * b k = _
    rw [ih]
    by_cases c : k = C
    · subst c
      rw [if_neg (by omega), if_pos rfl, if_pos (by omega)]; grind
    · rw [if_neg c]
      by_cases c2 : C < k
      · rw [if_pos c2, if_pos (by omega)]; grind
      · rw [if_neg c2, if_neg (by omega)]; grind
/-- the mean that the walk tells is the backward one -/
theorem QQ_mean {q : Nat → Nat → Int32} {C D re np ns : Nat} {P : Nat → Nat} (hok : Okd q C D re np ns) : QQ (fwD q ns P C D) 1 (endV re) = PV q D re ns P D C := by
  rw [QQ_fwD hok D (Nat.le_refl D), Nat.sub_self]
  show smU (fun n => (if n = C then 1 else 0) * PV q D re ns P D n) 13 + FI (ns * D) * 0 = _
  rw [smU_d, if_pos (by have := hok.1; omega)]
  grind
theorem smU_cg {f g : Nat → Int64} : ∀ k, (∀ n, n < k → f n = g n) → smU f k = smU g k := by
  intro k
  induction k with
  | zero => intro _; rfl
  | succ k ih =>
    intro h
    show smU f k + f k = smU g k + g k
    rw [ih (fun n hn => h n (by omega)), h k (by omega)]
theorem oS_cg {c : Int32} {o o' : Nat → Int64} (h : ∀ n, n < 13 → o n = o' n) : ∀ n, n < 13 → oS c o n = oS c o' n := by
  intro n hn
  unfold oS
  rw [h n hn]
  by_cases c2 : n < 12
  · rw [if_pos c2, if_pos c2, h (n + 1) (by omega)]
  · rw [if_neg c2, if_neg c2]
/-- none beyond the coats -/
theorem oS_z {c : Int32} {o : Nat → Int64} {C : Nat} (h : ∀ n, C < n → n < 13 → o n = 0) : ∀ n, C < n → n < 13 → oS c o n = 0 := by
  intro n h1 h2
  unfold oS
  rw [h n h1 h2]
  by_cases c2 : n < 12
  · rw [if_pos c2, h (n + 1) (by omega) (by omega)]; grind
  · rw [if_neg c2]; grind
theorem fwS_z {cs : Nat → Int32} {p : Int32} {w : (Nat → Int64) × Int64} {C : Nat} (h : ∀ n, C < n → n < 13 → w.1 n = 0) : ∀ s n, C < n → n < 13 → (fwS cs p s w).1 n = 0 := by
  intro s
  induction s with
  | zero => exact h
  | succ s ih => exact oS_z ih
theorem fwD_z {q : Nat → Nat → Int32} {ns C : Nat} {P : Nat → Nat} : ∀ d n, C < n → n < 13 → (fwD q ns P C d).1 n = 0 := by
  intro d
  induction d with
  | zero => intro n h1 _; exact if_neg (by omega)
  | succ d ih => exact fwS_z ih ns
theorem smU_z {f : Nat → Int64} {C : Nat} : ∀ k, (∀ n, C < n → n < k → f n = 0) → C < k → smU f k = smU f (C + 1) := by
  intro k
  induction k with
  | zero => intro _ h; omega
  | succ k ih =>
    intro h hk
    by_cases c : C = k
    · subst c; rfl
    · show smU f k + f k = _
      rw [ih (fun n h1 h2 => h n h1 (by omega)) (by omega), h k (by omega) (by omega)]
      grind
/-- bounds of the odds -/
def Bo (F : Nat) (o : Nat → Int64) : Prop := ∀ n, n < 13 → ∃ v : Nat, o n = lN v ∧ v ≤ F
theorem Bo.step {F : Nat} {o : Nat → Int64} {c : Int32} {cv : Nat} (h : Bo F o) (hc : c = nI cv) (h4 : cv ≤ 4) : Bo (F * 8) (oS c o) := by
  intro n hn
  obtain ⟨v, h1, h2⟩ := h n hn
  have e4 : (4 : Int64) - c.toInt64 = lN (4 - cv) := by rw [← sub4 hc h4, hc, four_sub h4]
  have ec : c.toInt64 = lN cv := by rw [hc, nI_l (by omega)]
  have k1 : (4 - cv) * v ≤ 4 * F := Nat.mul_le_mul (by omega) h2
  have k0 : 4 * v ≤ 4 * F := Nat.mul_le_mul_left 4 h2
  unfold oS
  by_cases c2 : n < 12
  · obtain ⟨v', h1', h2'⟩ := h (n + 1) (by omega)
    have k2 : cv * v' ≤ 4 * F := Nat.mul_le_mul h4 h2'
    rw [if_pos c2, h1, h1', ec]
    by_cases c0 : n = 0
    · rw [if_pos c0, show (4 : Int64) = lN 4 from rfl, lN_mul, lN_mul, lN_add]
      exact ⟨_, rfl, by omega⟩
    · rw [if_neg c0, ← ec, e4, ec, lN_mul, lN_mul, lN_add]
      exact ⟨_, rfl, by omega⟩
  · rw [if_neg c2, if_neg (by omega), e4, h1, lN_mul, show (0 : Int64) = lN 0 from rfl, lN_add]
    exact ⟨_, rfl, by omega⟩
theorem fwS_bo {cs : Nat → Int32} {p : Int32} {w : (Nat → Int64) × Int64} {F : Nat} (h : Bo F w.1) : ∀ s, (∀ i, i < s → ∃ v : Nat, cs i = nI v ∧ v ≤ 4) → Bo (F * 8 ^ s) (fwS cs p s w).1 := by
  intro s
  induction s with
  | zero => intro _; simpa [fwS] using h
  | succ s ih =>
    intro hc
    obtain ⟨v, h1, h2⟩ := hc s (by omega)
    have := (ih (fun i hi => hc i (by omega))).step h1 h2
    rw [Nat.pow_succ, ← Nat.mul_assoc]
    exact this
theorem fwD_bo {q : Nat → Nat → Int32} {C D re np ns : Nat} {P : Nat → Nat} (hok : Okd q C D re np ns) : ∀ d, Bo (8 ^ (ns * d)) (fwD q ns P C d).1 := by
  intro d
  induction d with
  | zero =>
    intro n hn
    show ∃ v : Nat, (if n = C then (1 : Int64) else 0) = lN v ∧ v ≤ _
    by_cases c : n = C
    · rw [if_pos c]; exact ⟨1, rfl, by simp⟩
    · rw [if_neg c]; exact ⟨0, rfl, by simp⟩
  | succ d ih =>
    have := fwS_bo (cs := cb q d (P d)) (p := q 0 (P d)) ih ns (fun i hi => cb_bd hok hi)
    rw [Nat.mul_succ, Nat.pow_add]
    exact this
theorem fwD_rng {q : Nat → Nat → Int32} {C D re np ns n : Nat} {P : Nat → Nat} (hok : Okd q C D re np ns) (hn : n < 13) : 0 ≤ ((fwD q ns P C D).1 n).toInt ∧ ((fwD q ns P C D).1 n).toInt < 2 ^ 61 := by
  obtain ⟨v, h1, h2⟩ := fwD_bo (P := P) hok D n hn
  have h3 : 8 ^ (ns * D) ≤ 8 ^ 18 := Nat.pow_le_pow_right (by decide) (nsk hok.2.2.2.2.2.1 hok.2.2.1)
  have h4 : 8 ^ 18 < 2 ^ 61 := by decide
  rw [h1, pk_lT (by omega)]
  omega
/-- the plan's own days decide -/
theorem fwD_cg {q : Nat → Nat → Int32} {ns C : Nat} {P P' : Nat → Nat} : ∀ d, (∀ i, i < d → P i = P' i) → fwD q ns P C d = fwD q ns P' C d := by
  intro d
  induction d with
  | zero => intro _; rfl
  | succ d ih =>
    intro h
    show fwS (cb q d (P d)) (q 0 (P d)) ns (fwD q ns P C d) = fwS (cb q d (P' d)) (q 0 (P' d)) ns (fwD q ns P' C d)
    rw [h d (by omega), ih (fun i hi => h i (by omega))]
theorem TV_bd {q : Nat → Nat → Int32} {C D re np ns : Nat} {P : Nat → Nat → Nat} (hok : Okd q C D re np ns) (hP : ∀ d, d < D → ∀ n, n < 13 → P d n < np) : ∀ k, k ≤ D → Bd (4 ^ (ns * k)) (TV q D re ns P k) := by
  intro k
  induction k with
  | zero => intro _; exact endV_bd hok.2.2.2.1
  | succ k ih =>
    intro hk n hn
    obtain ⟨v, h1, h2, h3⟩ := hok.2.2.2.2.2.2.1 (P (D - 1 - k) n) (hP (D - 1 - k) (by omega) n hn)
    have := dayB_bd (cs := cb q (D - 1 - k) (P (D - 1 - k) n)) h1 h3 ns (4 ^ (ns * k)) _ (fun i hi => cb_bd hok hi) (ih (by omega)) n hn
    rw [← FI_eq, ← Nat.pow_add, ← Nat.mul_succ] at this
    exact this
