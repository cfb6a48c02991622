/-! kept and once found, or kept from before -/
theorem plans_in {m : Nat} : ∀ (f : Nat) (l0 l : List Nat), (∀ j, j < l0.length → l0.getD j 0 ≤ m) → l ∈ plansFrom m f l0 → l.length = l0.length ∧ ∀ j, j < l.length → l.getD j 0 ≤ m := by
  intro f
  induction f with
  | zero => intro l0 l _ h; simp [plansFrom] at h
  | succ f ih =>
    intro l0 l h0 h
    unfold plansFrom at h
    cases hx : nxP m l0 with
    | none =>
      rw [hx] at h
      have : l = l0 := by simpa using h
      subst this
      exact ⟨rfl, h0⟩
    | some l' =>
      rw [hx] at h
      rcases List.mem_cons.mp h with e | e
      · subst e; exact ⟨rfl, h0⟩
      · have h1 := nxP_lt hx h0
        have := ih l' l h1 e
        obtain ⟨d, b1, b2, b3, b4, b5⟩ := nxP_some l0 l' hx
        exact ⟨by rw [this.1, b4], this.2⟩
theorem KP_in {val : List Nat → Int64} {ok : List Nat → Bool} : ∀ ls r, (KP val ok ls r = r) ∨ ∃ l, l ∈ ls ∧ KP val ok ls r = (val l, l) := by
  intro ls
  induction ls with
  | nil => intro r; exact Or.inl rfl
  | cons l ls ih =>
    intro r
    show KP val ok ls (if ok l = true ∧ r.1 < val l then (val l, l) else r) = r ∨ _
    rcases ih (if ok l = true ∧ r.1 < val l then (val l, l) else r) with e | ⟨l', e1, e2⟩
    · by_cases c : ok l = true ∧ r.1 < val l
      · right
        refine ⟨l, by simp, ?_⟩
        show KP val ok ls (if ok l = true ∧ r.1 < val l then (val l, l) else r) = _
        rw [e, if_pos c]
      · left
        rw [e, if_neg c]
    · right
      exact ⟨l', by simp [e1], e2⟩
theorem plans_c {D np : Nat} : plans D np = List.replicate D 0 :: (match nxP (np - 1) (List.replicate D 0) with | some l' => plansFrom (np - 1) 209 l' | none => []) := rfl
theorem rep_0 {D j : Nat} : (List.replicate D 0).getD j 0 = 0 := by
  by_cases h : j < D
  · simp [List.getD, h]
  · simp [List.getD, h]
theorem onc_0 : ∀ D, D < 7 → onc (List.replicate D 0) = true := by decide
theorem neg1_lt {v : Int64} (h : 0 ≤ v.toInt) : (-1 : Int64) < v := by
  rw [Int64.lt_iff_toInt_lt]
  have : (-1 : Int64).toInt = -1 := by decide
  omega
theorem i64_0le {v : Int64} (h : 0 ≤ v.toInt) : (0 : Int64) ≤ v := by
  rw [Int64.le_iff_toInt_le]
  have : (0 : Int64).toInt = 0 := by decide
  omega
/-- the greatest of all: not below 0, within bounds, and a plan of numbers that there are -/
theorem KP_all {D np : Nat} {val : List Nat → Int64} {ok : List Nat → Bool} (hp : 0 < np) (h0 : ok (List.replicate D 0) = true) (hv : ∀ l : List Nat, l.length = D → (∀ j, j < D → l.getD j 0 < np) → 0 ≤ (val l).toInt ∧ (val l).toInt < 2 ^ 61) : ¬ (KP val ok (plans D np) (-1, [])).1 = -1 ∧ (0 ≤ (KP val ok (plans D np) (-1, [])).1.toInt ∧ (KP val ok (plans D np) (-1, [])).1.toInt < 2 ^ 61) ∧ ∀ d, d < D → (KP val ok (plans D np) (-1, [])).2.getD d 0 < np := by
  have hm : ∀ l, l ∈ plans D np → l.length = D ∧ ∀ j, j < D → l.getD j 0 < np := fun l hl => by
    have := plans_in 210 (List.replicate D 0) l (fun j _ => by rw [rep_0]; omega) hl
    have e : l.length = D := by rw [this.1]; simp
    exact ⟨e, fun j hj => by have := this.2 j (by omega); omega⟩
  have first : (0 : Int64) ≤ (KP val ok (plans D np) (-1, [])).1 := by
    rw [plans_c]
    show (0 : Int64) ≤ (KP val ok _ (if ok (List.replicate D 0) = true ∧ (-1 : Int64) < val (List.replicate D 0) then (val (List.replicate D 0), List.replicate D 0) else (-1, []))).1
    have hv0 := (hv (List.replicate D 0) (by simp) (fun j _ => by rw [rep_0]; exact hp)).1
    rw [if_pos ⟨h0, neg1_lt hv0⟩]
    exact KP_ge _ _ (i64_0le hv0)
  have hne : ¬ (KP val ok (plans D np) (-1, [])).1 = -1 := fun z => by rw [z] at first; exact absurd first (by decide)
  refine ⟨hne, ?_⟩
  rcases KP_in (val := val) (ok := ok) (plans D np) (-1, []) with e | ⟨l, e1, e2⟩
  · exact absurd (by rw [e]) hne
  · rw [e2]
    have := hm l e1
    exact ⟨hv l this.1 this.2, this.2⟩
theorem vK_rng {q : Nat → Nat → Int32} {C D re np ns : Nat} (hok : Okd q C D re np ns) (l : List Nat) (_ : l.length = D) (hl : ∀ j, j < D → l.getD j 0 < np) : 0 ≤ (vK q C D re ns l).toInt ∧ (vK q C D re ns l).toInt < 2 ^ 61 := by
  obtain ⟨o1, o2, o3, o4, o5, o6, o7⟩ := id hok
  exact (TV_bd (P := fun d _ => l.getD d 0) hok (fun d hd _ _ => hl d hd) D (Nat.le_refl D)).rng (p18 (nsk o6 o3)) (n := C) (by omega)
theorem keptS_ok {q : Nat → Nat → Int32} {C D re np ns : Nat} (hok : Okd q C D re np ns) (hp : 0 < np) : ¬ (KP (vK q C D re ns) (fun _ => true) (plans D np) (-1, [])).1 = -1 ∧ (0 ≤ (KP (vK q C D re ns) (fun _ => true) (plans D np) (-1, [])).1.toInt ∧ (KP (vK q C D re ns) (fun _ => true) (plans D np) (-1, [])).1.toInt < 2 ^ 61) ∧ ∀ d, d < D → (KP (vK q C D re ns) (fun _ => true) (plans D np) (-1, [])).2.getD d 0 < np := KP_all (D := D) (val := vK q C D re ns) (ok := fun _ => true) hp rfl (vK_rng hok)
theorem onceS_ok {q : Nat → Nat → Int32} {C D re np ns : Nat} (hok : Okd q C D re np ns) (hp : 0 < np) : ¬ (KP (vK q C D re ns) onc (plans D np) (-1, [])).1 = -1 ∧ (0 ≤ (KP (vK q C D re ns) onc (plans D np) (-1, [])).1.toInt ∧ (KP (vK q C D re ns) onc (plans D np) (-1, [])).1.toInt < 2 ^ 61) ∧ ∀ d, d < D → (KP (vK q C D re ns) onc (plans D np) (-1, [])).2.getD d 0 < np := KP_all (D := D) (val := vK q C D re ns) (ok := onc) hp (onc_0 D (by have := hok.2.2.1; omega)) (vK_rng hok)
theorem ed_cmp {e ed : Nat} (h1 : e ≤ ed + 1) (h2 : ed ≤ 512) : (nI e + (-1) = nI ed) ↔ e = ed + 1 := by
  rw [← nI_m1 ed]
  constructor
  · intro z
    have : nI e = nI (ed + 1) := by
      have h2 : nI e + (-1) + 1 = nI (ed + 1) + (-1) + 1 := by rw [z]
      have h3 : nI e + (-1) + 1 = nI e := by grind
      have h4 : nI (ed + 1) + (-1) + 1 = nI (ed + 1) := by grind
      rw [h3, h4] at h2
      exact h2
    exact nI_inj (by omega) (by omega) this
  · intro z; rw [z]
theorem x_findKept {n : Nat} {sx : Sg} {q : Nat → Nat → Int32} {C D re np ns : Nat} (hn : n ≤ 512) (hok : Okd q C D re np ns) (hV : VX sx q C D re np ns) (hE : Edn n sx q C D re np ns) (hp : 0 < np) : ∃ sx', X7_findKept sx = some sx' ∧ Kept sx' q C D re np ns ∧ Edn n sx' q C D re np ns ∧ (∀ o, 1 ≤ o → o ∉ KI → sx'.1 o = sx.1 o) ∧ (∀ o, o ∉ KJ → sx'.2 o = sx.2 o) := by
  obtain ⟨ed, e1, e2, e3, he, hed, ⟨a1, a2, a3⟩, ⟨b1, b2, b3⟩, c1, c2, c3⟩ := id hE
  obtain ⟨o1, o2, o3, o4, o5, o6, o7⟩ := id hok
  have cmp := ed_cmp b2 (show ed ≤ 512 by omega)
  by_cases c : e2 = ed + 1
  · refine ⟨sx, ?_, b3 c, hE, fun o _ _ => rfl, fun o _ => rfl⟩
    unfold X7_findKept
    rw [b1, hed, if_pos (cmp.mpr c)]
  · obtain ⟨s1, f1, f2, f3⟩ := x_clear (st := sx) (b := 61) (D := D)
    obtain ⟨s2, g1, g2, g3⟩ := x_clear (st := s1) (b := 63) (D := D)
    obtain ⟨s3, h1, h2, h3⟩ := x_fbegin (st := s2) (D := D) (np := np) o3 hp
    have F3 : FL KI KJ sx s3 := ((f2.up (by simp) (by simp [KJ])).tr (g2.up (by simp) (by simp [KJ]))).tr (h2.up (by simp [KI]) (by simp))
    have hV3 : VX s3 q C D re np ns := hV.keep (fun o p1 p2 => F3.1 o (by simp [KI]; omega))
    obtain ⟨s4, i1, i2, i3, i4⟩ := x_kloop hok hp 210 (List.replicate D 0) 0 0 FU s3 (-1, []) (-1, []) (plans_ok D (by omega) np (by omega) hp) (by omega) (FU_gt (by omega)) hV3 h3 (by omega) (fun z => by omega) ((f3.keep (g2.1 62 (by simp)) (g2.2 61 (by simp))).keep (h2.1 62 (by simp)) (h2.2 61 (by simp))) (g3.keep (h2.1 64 (by simp)) (h2.2 63 (by simp)))
    have F4 : FL KI KJ sx s4 := F3.tr i2
    have k1 : s4.1 1 = sx.1 1 := F4.1 1 (by decide)
    have K : Kept s4 q C D re np ns := by
      have ok1 := (keptS_ok hok hp).1
      have ok2 := (onceS_ok hok hp).1
      refine ⟨⟨i3.1, ?_⟩, ⟨i4.1, ?_⟩⟩
      · rcases i3.2 with z | z
        · exact absurd z ok1
        · exact z
      · rcases i4.2 with z | z
        · exact absurd z ok2
        · exact z
    refine ⟨sI s4 0 12 (nI ed), ?_, ?_, ?_, ?_, ?_⟩
    · unfold X7_findKept
      rw [b1, hed, if_neg (fun z => c (cmp.mp z)), f1, bnd1_some, g1, bnd1_some, h1, bnd2_some, show (0 : Int32) = nI 0 from rfl, i1]
      unfold X7_findKept_159
      rw [nm_eq, k1, hed]
    · unfold Kept
      rw [sI_2, sI_ne (by decide), sI_ne (by decide)]
      exact K
    · have k0 : ∀ k, k ≠ 12 → (sI s4 0 12 (nI ed)).1 0 k = sx.1 0 k := fun k hk => by
        rw [sI_at, if_neg (fun z => hk z.2), F4.1 0 (by decide)]
      refine ⟨ed, e1, ed + 1, e3, he, by rw [sI_ne (by decide), k1]; exact hed, ⟨by rw [k0 11 (by decide)]; exact a1, a2, fun z => ?_⟩, ⟨by rw [sI_at, if_pos ⟨rfl, rfl⟩, nI_m1], by omega, fun _ => ?_⟩, by rw [k0 13 (by decide)]; exact c1, c2, fun z => ?_⟩
      · intro d hd m hm
        have := a3 z d hd m hm
        rw [sI_2, sI_ne (by omega), F4.2 (10 + d) (by simp [KJ]; omega), F4.1 (18 + d) (by simp [KI]; omega)]
        exact this
      · unfold Kept
        rw [sI_2, sI_ne (by decide), sI_ne (by decide)]
        exact K
      · have := c3 z
        unfold Metc
        rw [sI_2, sI_ne (by decide), F4.2 65 (by decide), F4.1 66 (by decide)]
        exact this
    · intro o p1 p2
      rw [sI_ne (by omega)]
      exact F4.1 o p2
    · intro o p1
      exact F4.2 o p1
