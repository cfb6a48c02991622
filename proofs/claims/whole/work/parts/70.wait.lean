/-! those who wait: what is picked, how many come, forward against backward -/
theorem wv_nI {q : Nat → Nat → Int32} {C D re np ns s d : Nat} (hok : Okd q C D re np ns) (hs : s < ns) (hd : d < 7) : ∃ a : Nat, wv q s d = nI a ∧ a ≤ 99 := by
  obtain ⟨o1, o2, o3, o4, o5, o6, o7, o8, o9, o10, o11⟩ := hok
  obtain ⟨w, w1, w2⟩ := o9 s hs
  obtain ⟨f, f1, f2⟩ := o10 s hs
  unfold wv
  rw [w1, f1, pk_mul]
  have hfd : f * d ≤ 30 * 6 := Nat.mul_le_mul f2 (by omega)
  by_cases c : f * d ≤ w
  · rw [pk_sub c]
    by_cases c2 : (0 : Int32) < nI (w - f * d)
    · rw [if_pos c2]; exact ⟨_, rfl, by omega⟩
    · rw [if_neg c2]; exact ⟨0, rfl, by omega⟩
  · rw [if_neg (fun z => by
      have := pk_sneg (a := w) (b := f * d) (by omega) (by omega)
      exact absurd (Int32.lt_trans z this) (Int32.lt_irrefl))]
    exact ⟨0, rfl, by omega⟩
theorem gain_neg {a b x : Nat} (ha : a < b) (hb : b ≤ 99) (hx : x ≤ 1000) : nI a - nI b - nI x ≤ -1 := by
  have e : nI a - nI b - nI x = nI a - nI (b + x) := by rw [← nI_add]; grind
  rw [e, Int32.le_iff_toInt_le, pk_sub_toInt (by omega) (by omega)]
  have : (-1 : Int32).toInt = -1 := by decide
  omega
theorem pkG_sem {q : Nat → Nat → Int32} {C D re np ns s f : Nat} {P : Nat → Nat} (hok : Okd q C D re np ns) (hs : s < ns) (hP : ∀ d, d < D → P d < np) (hw : ¬ q 4 s = -1) : ∀ (k d : Nat) (best most : Int32), f ≤ d → d + k ≤ D → (-1 : Int32) ≤ most → pkG q P s f k d best most = best ∨ ∃ e, d ≤ e ∧ e < d + k ∧ pkG q P s f k d best most = nI e ∧ ¬ wv q s e < q 0 (P e) := by
  obtain ⟨o1, o2, o3, o4, o5, o6, o7, o8, o9, o10, o11⟩ := id hok
  obtain ⟨w, w1, w2⟩ := (o11 s hs).resolve_left hw
  intro k
  induction k with
  | zero => intro d best most _ _ _; exact Or.inl rfl
  | succ k ih =>
    intro d best most hf hd hm
    show (if wv q s d - q 0 (P d) - q 4 s * (nI d - nI f) ≤ most then pkG q P s f k (d + 1) best most else pkG q P s f k (d + 1) (nI d) (wv q s d - q 0 (P d) - q 4 s * (nI d - nI f))) = best ∨ ∃ e, d ≤ e ∧ e < d + (k + 1) ∧ (if wv q s d - q 0 (P d) - q 4 s * (nI d - nI f) ≤ most then pkG q P s f k (d + 1) best most else pkG q P s f k (d + 1) (nI d) (wv q s d - q 0 (P d) - q 4 s * (nI d - nI f))) = nI e ∧ _
    by_cases c : wv q s d - q 0 (P d) - q 4 s * (nI d - nI f) ≤ most
    · rw [if_pos c]
      rcases ih (d + 1) best most (by omega) (by omega) hm with e | ⟨e, e1, e2, e3, e4⟩
      · exact Or.inl e
      · exact Or.inr ⟨e, by omega, by omega, e3, e4⟩
    · rw [if_neg c]
      have c' : most < wv q s d - q 0 (P d) - q 4 s * (nI d - nI f) := Int32.not_le.mp c
      rcases ih (d + 1) (nI d) _ (by omega) (by omega) (Int32.le_of_lt (Int32.lt_of_le_of_lt hm c')) with e | ⟨e, e1, e2, e3, e4⟩
      · refine Or.inr ⟨d, by omega, by omega, e, fun z => ?_⟩
        obtain ⟨a, a1, a2⟩ := wv_nI hok hs (d := d) (by omega)
        obtain ⟨b, b1, b2, b3⟩ := o7 (P d) (hP d (by omega))
        have hx : w * (d - f) ≤ 30 * 6 := Nat.mul_le_mul w2 (by omega)
        rw [a1, b1, nI_ltI (by omega) (by omega)] at z
        refine c (Int32.le_trans ?_ hm)
        rw [a1, b1, w1, pk_sub hf, pk_mul]
        exact gain_neg z b3 (by omega)
      · exact Or.inr ⟨e, by omega, by omega, e3, e4⟩
theorem pkD_sem {q : Nat → Nat → Int32} {C D re np ns s f : Nat} {P : Nat → Nat} (hok : Okd q C D re np ns) (hs : s < ns) (hP : ∀ d, d < D → P d < np) (hw : ¬ q 4 s = -1) (hf : f < D) : pkD q D P s f = -6 ∨ ∃ e, f ≤ e ∧ e < D ∧ pkD q D P s f = nI e ∧ ¬ wv q s e < q 0 (P e) := by
  rcases pkG_sem hok hs hP hw (D - f) f (-6) (-1) (Nat.le_refl f) (by omega) (by decide) with e | ⟨e, e1, e2, e3, e4⟩
  · exact Or.inl e
  · exact Or.inr ⟨e, e1, by omega, e3, e4⟩
theorem nI_ne6 {e : Nat} (h : e < 1000) : ¬ nI e = -6 := fun z => by
  have h1 : ¬ nI e < 0 := nI_pos (by omega)
  rw [z] at h1; exact h1 (by decide)
theorem mtB_bd {q : Nat → Nat → Int32} {C D re np ns s d f : Nat} {P : Nat → Nat} (hok : Okd q C D re np ns) (hs : s < ns) : ∀ c, mtB q D P d f s = some c → ∃ v : Nat, c = nI v ∧ v ≤ 4 := by
  intro c h
  have k := cb_bd hok (d := d) (p := P d) hs
  unfold mtB at h
  by_cases c1 : q 4 s = -1
  · rw [if_pos c1] at h
    by_cases c2 : f = d
    · rw [if_pos c2] at h
      have : cb q d (P d) s = c := by simpa using h
      rw [← this]; exact k
    · rw [if_neg c2] at h; simp at h
  · rw [if_neg c1] at h
    by_cases c2 : pkD q D P s f = nI d
    · rw [if_pos c2] at h
      have : cb q d (P d) s = c := by simpa using h
      rw [← this]; exact k
    · rw [if_neg c2] at h
      by_cases c3 : pkD q D P s f = -6 ∧ f = d
      · rw [if_pos c3] at h
        have : (0 : Int32) = c := by simpa using h
        rw [← this]; exact ⟨0, rfl, by omega⟩
      · rw [if_neg c3] at h; simp at h
/-! counting -/
def nS (f : Nat → Nat) : Nat → Nat
  | 0 => 0
  | n + 1 => nS f n + f n
theorem nS_0 : ∀ n, nS (fun _ => 0) n = 0 := by
  intro n
  induction n with
  | zero => rfl
  | succ n ih => show nS (fun _ => 0) n + 0 = 0; omega
theorem nS_cg {f g : Nat → Nat} : ∀ n, (∀ i, i < n → f i = g i) → nS f n = nS g n := by
  intro n
  induction n with
  | zero => intro _; rfl
  | succ n ih =>
    intro h
    show nS f n + f n = nS g n + g n
    rw [ih (fun i hi => h i (by omega)), h n (by omega)]
theorem nS_add {f g : Nat → Nat} : ∀ n, nS (fun i => f i + g i) n = nS f n + nS g n := by
  intro n
  induction n with
  | zero => rfl
  | succ n ih => show nS (fun i => f i + g i) n + (f n + g n) = (nS f n + f n) + (nS g n + g n); omega
theorem nS_swap {a : Nat → Nat → Nat} {m : Nat} : ∀ n, nS (fun i => nS (fun j => a i j) m) n = nS (fun j => nS (fun i => a i j) n) m := by
  intro n
  induction n with
  | zero => exact (nS_0 m).symm
  | succ n ih =>
    show nS (fun i => nS (fun j => a i j) m) n + nS (fun j => a n j) m = nS (fun j => nS (fun i => a i j) n + a n j) m
    rw [ih, nS_add]
theorem nS_z {f : Nat → Nat} {k : Nat} : ∀ n, k ≤ n → (∀ i, k ≤ i → i < n → f i = 0) → nS f n = nS f k := by
  intro n
  induction n with
  | zero => intro h _; have : k = 0 := by omega
            subst this; rfl
  | succ n ih =>
    intro h hz
    by_cases c : k = n + 1
    · subst c; rfl
    · show nS f n + f n = _
      rw [ih (by omega) (fun i h1 h2 => hz i h1 (by omega)), hz n (by omega) (by omega)]; rfl
theorem nS_one {f : Nat → Nat} {d0 : Nat} : ∀ n, d0 < n → f d0 = 1 → (∀ i, i < n → i ≠ d0 → f i = 0) → nS f n = 1 := by
  intro n h h1 hz
  rw [nS_z (k := d0 + 1) n (by omega) (fun i h1 h2 => hz i h2 (by omega))]
  show nS f d0 + f d0 = 1
  rw [nS_z (k := 0) d0 (by omega) (fun i _ h2 => hz i (by omega) (by omega)), h1]; rfl
theorem nS_k {c : Nat} : ∀ n, nS (fun _ => c) n = n * c := by
  intro n
  induction n with
  | zero => simp [nS]
  | succ n ih => show nS (fun _ => c) n + c = _; rw [ih, Nat.succ_mul]
def isS (o : Option Int32) : Nat := match o with | some _ => 1 | none => 0
def cnS (g : Nat → Option Int32) (s : Nat) : Nat := nS (fun i => isS (g i)) s
def cnF (g : Nat → Nat → Option Int32) (ns f : Nat) : Nat := nS (fun i => cnS (g i) ns) f
def cnD (q : Nat → Nat → Int32) (D ns : Nat) (P : Nat → Nat) (d : Nat) : Nat := nS (fun i => cnF (mtB q D P i) ns (i + 1)) d
theorem cnD_all {q : Nat → Nat → Int32} {C D re np ns : Nat} {P : Nat → Nat} (hok : Okd q C D re np ns) (hP : ∀ d, d < D → P d < np) : cnD q D ns P D = ns * D := by
  have hD := hok.2.2.1
  obtain ⟨a, ha⟩ : ∃ a : Nat → Nat → Nat → Nat, a = fun d f s => if f ≤ d then isS (mtB q D P d f s) else 0 := ⟨_, rfl⟩
  have e1 : cnD q D ns P D = nS (fun d => nS (fun f => nS (fun s => a d f s) ns) D) D := by
    unfold cnD cnF cnS
    refine nS_cg D (fun d hd => ?_)
    rw [nS_z (k := d + 1) D (by omega) (fun f h1 h2 => by
      rw [nS_cg (g := fun _ => 0) ns (fun s _ => by rw [ha]; exact if_neg (by omega)), nS_0])]
    refine nS_cg (d + 1) (fun f hf => nS_cg ns (fun s _ => ?_))
    rw [ha]
    exact (if_pos (by omega)).symm
  rw [e1, nS_swap]
  have e2 : ∀ f, f < D → nS (fun d => nS (fun s => a d f s) ns) D = ns := by
    intro f hf
    rw [nS_swap, nS_cg (g := fun _ => 1) ns (fun s hs => ?_), nS_k, Nat.mul_one]
    have one : ∀ d0, f ≤ d0 → d0 < D → isS (mtB q D P d0 f s) = 1 → (∀ i, i < D → i ≠ d0 → f ≤ i → isS (mtB q D P i f s) = 0) → nS (fun d => a d f s) D = 1 := by
      intro d0 h1 h2 h3 h4
      refine nS_one D h2 (by rw [ha]; exact (if_pos h1).trans h3) (fun i hi hne => ?_)
      rw [ha]
      show (if f ≤ i then isS (mtB q D P i f s) else 0) = 0
      by_cases c : f ≤ i
      · rw [if_pos c]; exact h4 i hi hne c
      · rw [if_neg c]
    by_cases cw : q 4 s = -1
    · refine one f (Nat.le_refl f) hf ?_ (fun i hi hne _ => ?_)
      · unfold mtB; rw [if_pos cw, if_pos rfl]; rfl
      · unfold mtB; rw [if_pos cw, if_neg (fun z => hne z.symm)]; rfl
    · rcases pkD_sem hok hs hP cw hf with e | ⟨e, g1, g2, g3, g4⟩
      · refine one f (Nat.le_refl f) hf ?_ (fun i hi hne _ => ?_)
        · unfold mtB; rw [if_neg cw, e, if_neg (fun z => nI_ne6 (by omega) z.symm), if_pos ⟨rfl, rfl⟩]; rfl
        · unfold mtB; rw [if_neg cw, e, if_neg (fun z => nI_ne6 (by omega) z.symm), if_neg (fun z => hne z.2.symm)]; rfl
      · refine one e g1 g2 ?_ (fun i hi hne _ => ?_)
        · unfold mtB; rw [if_neg cw, g3, if_pos rfl]; rfl
        · unfold mtB; rw [if_neg cw, g3, if_neg (fun z => hne (nI_inj (by omega) (by omega) z).symm), if_neg (fun z => nI_ne6 (by omega) z.1)]; rfl
  rw [nS_cg (g := fun _ => ns) D e2, nS_k, Nat.mul_comm]
/-! forward -/
def fwB (g : Nat → Option Int32) (p : Int32) : Nat → (Nat → Int64) × Int64 → (Nat → Int64) × Int64
  | 0, w => w
  | s + 1, w => match g s with
    | some c => stp c p (fwB g p s w)
    | none => fwB g p s w
def fwF (g : Nat → Nat → Option Int32) (p : Int32) (ns : Nat) : Nat → (Nat → Int64) × Int64 → (Nat → Int64) × Int64
  | 0, w => w
  | f + 1, w => fwB (g f) p ns (fwF g p ns f w)
def fwT (q : Nat → Nat → Int32) (D ns : Nat) (P : Nat → Nat) (C : Nat) : Nat → (Nat → Int64) × Int64
  | 0 => fw0 C
  | d + 1 => fwF (mtB q D P d) (q 0 (P d)) ns (d + 1) (fwT q D ns P C d)
theorem mtS_s {g : Nat → Option Int32} {p : Int32} {s : Nat} {x : Int64 × (Nat → Int64)} : mtS g p (s + 1) x = mtS g p s (match g s with | some c => (x.1 * 4, rowU c p x.1 x.2) | none => x) := rfl
theorem mtS_0 {g : Nat → Option Int32} {p : Int32} : ∀ (s : Nat) (x : Int64 × (Nat → Int64)), x.2 0 = 0 → (mtS g p s x).2 0 = 0 := by
  intro s
  induction s with
  | zero => intro x h; exact h
  | succ s ih =>
    intro x h
    rw [mtS_s]
    cases hg : g s with
    | none => exact ih x h
    | some c => exact ih (x.1 * 4, rowU c p x.1 x.2) (rowU_0 (c := c) (p := p) (fi := x.1) h)
theorem mtF_0 {g : Nat → Nat → Option Int32} {p : Int32} {ns : Nat} : ∀ (f : Nat) (x : Int64 × (Nat → Int64)), x.2 0 = 0 → (mtF g p ns f x).2 0 = 0 := by
  intro f
  induction f with
  | zero => intro x h; exact h
  | succ f ih => intro x h; exact ih _ (mtS_0 ns x h)
theorem QQ_fwB {g : Nat → Option Int32} {p : Int32} {w : (Nat → Int64) × Int64} : ∀ (s : Nat) (x : Int64 × (Nat → Int64)), (∀ i, i < s → ∀ c, g i = some c → ∃ v : Nat, c = nI v ∧ v ≤ 4) → x.2 0 = 0 → QQ (fwB g p s w) x.1 x.2 = QQ w (mtS g p s x).1 (mtS g p s x).2 := by
  intro s
  induction s with
  | zero => intro x _ _; rfl
  | succ s ih =>
    intro x hc b0
    rw [mtS_s]
    unfold fwB
    cases hg : g s with
    | none => exact ih x (fun i hi => hc i (by omega)) b0
    | some c =>
      obtain ⟨v, h1, h2⟩ := hc s (by omega) c hg
      show QQ (stp c p (fwB g p s w)) x.1 x.2 = QQ w (mtS g p s (x.1 * 4, rowU c p x.1 x.2)).1 (mtS g p s (x.1 * 4, rowU c p x.1 x.2)).2
      rw [QQ_stp h1 h2 b0]
      exact ih (x.1 * 4, rowU c p x.1 x.2) (fun i hi => hc i (by omega)) (rowU_0 (c := c) (p := p) (fi := x.1) b0)
theorem QQ_fwF {g : Nat → Nat → Option Int32} {p : Int32} {ns : Nat} {w : (Nat → Int64) × Int64} (hc : ∀ f i, i < ns → ∀ c, g f i = some c → ∃ v : Nat, c = nI v ∧ v ≤ 4) : ∀ (f : Nat) (x : Int64 × (Nat → Int64)), x.2 0 = 0 → QQ (fwF g p ns f w) x.1 x.2 = QQ w (mtF g p ns f x).1 (mtF g p ns f x).2 := by
  intro f
  induction f with
  | zero => intro x _; rfl
  | succ f ih =>
    intro x b0
    show QQ (fwB (g f) p ns (fwF g p ns f w)) x.1 x.2 = QQ w (mtF g p ns f (mtS (g f) p ns x)).1 (mtF g p ns f (mtS (g f) p ns x)).2
    rw [QQ_fwB ns x (hc f) b0]
    exact ih _ (mtS_0 ns x b0)
theorem QQ_fwT {q : Nat → Nat → Int32} {C D re np ns : Nat} {P : Nat → Nat} (hok : Okd q C D re np ns) : ∀ (d : Nat) (x : Int64 × (Nat → Int64)), x.2 0 = 0 → QQ (fwT q D ns P C d) x.1 x.2 = QQ (fw0 C) (mtD q D ns P d x).1 (mtD q D ns P d x).2 := by
  intro d
  induction d with
  | zero => intro x _; rfl
  | succ d ih =>
    intro x b0
    show QQ (fwF (mtB q D P d) (q 0 (P d)) ns (d + 1) (fwT q D ns P C d)) x.1 x.2 = QQ (fw0 C) (mtD q D ns P d (mtF (mtB q D P d) (q 0 (P d)) ns (d + 1) x)).1 _
    rw [QQ_fwF (fun f i hi c h => mtB_bd hok hi c h) (d + 1) x b0]
    exact ih _ (mtF_0 (d + 1) x b0)
theorem endV_0 {re : Nat} : endV re 0 = 0 := by
  show (nI re).toInt64 * (nI 0).toInt64 = 0
  rw [show (nI 0).toInt64 = 0 by decide]; grind
theorem QQ_met {q : Nat → Nat → Int32} {C D re np ns : Nat} {P : Nat → Nat} (hok : Okd q C D re np ns) : QQ (fwT q D ns P C D) 1 (endV re) = MV q D re ns P C := by
  have := QQ_fwT (P := P) hok D (1, endV re) endV_0
  rw [this]
  show smU (fun n => (if n = C then 1 else 0) * (mtD q D ns P D (1, endV re)).2 n) 13 + (mtD q D ns P D (1, endV re)).1 * 0 = _
  rw [smU_d, if_pos (by have := hok.1; omega)]
  unfold MV
  grind
theorem fwB_z {g : Nat → Option Int32} {p : Int32} {w : (Nat → Int64) × Int64} {C : Nat} (h : ∀ n, C < n → n < 13 → w.1 n = 0) : ∀ s n, C < n → n < 13 → (fwB g p s w).1 n = 0 := by
  intro s
  induction s with
  | zero => exact h
  | succ s ih =>
    unfold fwB
    cases hg : g s with
    | none => exact ih
    | some c => exact oS_z ih
theorem fwT_z {q : Nat → Nat → Int32} {D ns C : Nat} {P : Nat → Nat} : ∀ d n, C < n → n < 13 → (fwT q D ns P C d).1 n = 0 := by
  intro d
  induction d with
  | zero => intro n h1 _; exact if_neg (by omega)
  | succ d ih =>
    have : ∀ f n, C < n → n < 13 → (fwF (mtB q D P d) (q 0 (P d)) ns f (fwT q D ns P C d)).1 n = 0 := by
      intro f
      induction f with
      | zero => exact ih
      | succ f ih2 => exact fwB_z ih2 ns
    exact this (d + 1)
/-! the bounds of what those who wait bring -/
theorem mtS_bd {g : Nat → Option Int32} {p : Int32} {pv : Nat} (hp : p = nI pv) (hpv : pv ≤ 99) : ∀ (s c : Nat) (b : Nat → Int64), (∀ i, i < s → ∀ c, g i = some c → ∃ v : Nat, c = nI v ∧ v ≤ 4) → Bd (4 ^ c) b → (mtS g p s (FI c, b)).1 = FI (c + cnS g s) ∧ Bd (4 ^ (c + cnS g s)) (mtS g p s (FI c, b)).2 := by
  intro s
  induction s with
  | zero => intro c b _ h; exact ⟨rfl, h⟩
  | succ s ih =>
    intro c b hc h
    rw [mtS_s]
    have e : cnS g (s + 1) = cnS g s + isS (g s) := rfl
    rw [e]
    cases hg : g s with
    | none =>
      have := ih c b (fun i hi => hc i (by omega)) h
      simpa [isS] using this
    | some cc =>
      obtain ⟨v, h1, h2⟩ := hc s (by omega) cc hg
      have h3 := h.row h2 hpv
      rw [← h1, ← hp, ← FI_eq, ← Nat.pow_succ] at h3
      have := ih (c + 1) _ (fun i hi => hc i (by omega)) h3
      show (mtS g p s (FI c * 4, rowU cc p (FI c) b)).1 = _ ∧ _
      rw [FI_4]
      have e2 : c + (cnS g s + isS (some cc)) = c + 1 + cnS g s := by simp [isS]; omega
      rw [e2]
      exact this
theorem mtF_bd {g : Nat → Nat → Option Int32} {p : Int32} {pv ns : Nat} (hp : p = nI pv) (hpv : pv ≤ 99) (hc : ∀ f i, i < ns → ∀ c, g f i = some c → ∃ v : Nat, c = nI v ∧ v ≤ 4) : ∀ (f c : Nat) (b : Nat → Int64), Bd (4 ^ c) b → (mtF g p ns f (FI c, b)).1 = FI (c + cnF g ns f) ∧ Bd (4 ^ (c + cnF g ns f)) (mtF g p ns f (FI c, b)).2 := by
  intro f
  induction f with
  | zero => intro c b h; exact ⟨rfl, h⟩
  | succ f ih =>
    intro c b h
    obtain ⟨h1, h2⟩ := mtS_bd (g := g f) hp hpv ns c b (hc f) h
    have e : cnF g ns (f + 1) = cnF g ns f + cnS (g f) ns := rfl
    have hx : mtS (g f) p ns (FI c, b) = (FI (c + cnS (g f) ns), (mtS (g f) p ns (FI c, b)).2) := by rw [← h1]
    show (mtF g p ns f (mtS (g f) p ns (FI c, b))).1 = _ ∧ Bd _ (mtF g p ns f (mtS (g f) p ns (FI c, b))).2
    rw [hx, e, show c + (cnF g ns f + cnS (g f) ns) = c + cnS (g f) ns + cnF g ns f by omega]
    exact ih _ _ h2
theorem mtD_bd {q : Nat → Nat → Int32} {C D re np ns : Nat} {P : Nat → Nat} (hok : Okd q C D re np ns) (hP : ∀ d, d < D → P d < np) : ∀ (d c : Nat) (b : Nat → Int64), d ≤ D → Bd (4 ^ c) b → (mtD q D ns P d (FI c, b)).1 = FI (c + cnD q D ns P d) ∧ Bd (4 ^ (c + cnD q D ns P d)) (mtD q D ns P d (FI c, b)).2 := by
  intro d
  induction d with
  | zero => intro c b _ h; exact ⟨rfl, h⟩
  | succ d ih =>
    intro c b hd h
    obtain ⟨pv, p1, p2, p3⟩ := hok.2.2.2.2.2.2.1 (P d) (hP d (by omega))
    obtain ⟨h1, h2⟩ := mtF_bd (g := mtB q D P d) (ns := ns) p1 p3 (fun f i hi c h => mtB_bd hok hi c h) (d + 1) c b h
    have e : cnD q D ns P (d + 1) = cnD q D ns P d + cnF (mtB q D P d) ns (d + 1) := rfl
    have hx : mtF (mtB q D P d) (q 0 (P d)) ns (d + 1) (FI c, b) = (FI (c + cnF (mtB q D P d) ns (d + 1)), (mtF (mtB q D P d) (q 0 (P d)) ns (d + 1) (FI c, b)).2) := by rw [← h1]
    show (mtD q D ns P d (mtF (mtB q D P d) (q 0 (P d)) ns (d + 1) (FI c, b))).1 = _ ∧ Bd _ (mtD q D ns P d (mtF (mtB q D P d) (q 0 (P d)) ns (d + 1) (FI c, b))).2
    rw [hx, e, show c + (cnD q D ns P d + cnF (mtB q D P d) ns (d + 1)) = c + cnF (mtB q D P d) ns (d + 1) + cnD q D ns P d by omega]
    exact ih _ _ (by omega) h2
theorem MV_bd {q : Nat → Nat → Int32} {C D re np ns : Nat} {P : Nat → Nat} (hok : Okd q C D re np ns) (hP : ∀ d, d < D → P d < np) : Bd (4 ^ (ns * D)) (MV q D re ns P) := by
  have := (mtD_bd hok hP D 0 (endV re) (Nat.le_refl D) (endV_bd hok.2.2.2.1)).2
  rw [cnD_all hok hP, Nat.zero_add] at this
  exact this
