theorem FL.fr {I J : List Nat} {a b c d : Nat} {st st' : Sg} (h : FL I J st st') (hI : ∀ o, o ∈ I → a ≤ o ∧ o < b) (hJ : ∀ o, o ∈ J → c ≤ o ∧ o < d) : Fr a b c d st st' := ⟨fun o q => h.1 o (fun z => q (hI o z)), fun o q => h.2 o (fun z => q (hJ o z))⟩
def BestT (b : Nat) (st : Sg) (q : Nat → Nat → Int32) (D re np ns : Nat) : Prop := (∀ d, d ≤ D → ∀ n, n < 13 → st.2 (b + 2 + d) n = BV q D re np ns (D - d) n) ∧ ∀ d, d < D → ∀ n, n < 13 → st.1 (b + 10 + d) n = nI (BA q D re np ns (D - 1 - d) n)
theorem x_fb18 {st : Sg} {q : Nat → Nat → Int32} {C D re np ns b d : Nat} (hb : 8 ≤ b) (hok : Okd q C D re np ns) (hV : VX st q C D re np ns) (hp : 0 < np) (hd : d < D) (hbd : Bd (4 ^ (ns * (D - 1 - d))) (st.2 (b + 2 + (d + 1)))) (rc : Int32 → Sg → Option Sg) :
    ∃ st', X4_fillBest_18 b rc (nI d) FU 0 st = X4_fillBest_45 b rc (nI d) st' ∧ FL [b + 10 + d] [b + 2 + d, b + 16] st st' ∧ ∀ n, n < 13 → st'.2 (b + 2 + d) n = bsV (fun p => dayB (cb q d p) (q 0 p) ns (FI (ns * (D - 1 - d))) (st.2 (b + 2 + (d + 1)))) n np ∧ st'.1 (b + 10 + d) n = nI (bsA (fun p => dayB (cb q d p) (q 0 p) ns (FI (ns * (D - 1 - d))) (st.2 (b + 2 + (d + 1)))) n np) := by
  obtain ⟨x1, x2, x3, x4, x5, x6⟩ := id hV
  obtain ⟨o1, o2, o3, o4, o5, o6, o7⟩ := id hok
  have hpw : 4 ^ (ns * (D - 1 - d)) * 4 ^ ns < 2 ^ 40 := by
    rw [← Nat.pow_add, ← Nat.mul_succ]
    refine Nat.lt_of_le_of_lt (pow4_le (b := 18) ?_) (by decide)
    have : ns * (D - 1 - d + 1) ≤ 3 * 6 := Nat.mul_le_mul o6 (by omega)
    exact this
  have hrow : ∀ p, p < np → Bd (4 ^ (ns * (D - 1 - d)) * 4 ^ ns) (dayB (cb q d p) (q 0 p) ns (FI (ns * (D - 1 - d))) (st.2 (b + 2 + (d + 1)))) := fun p hpn => by
    obtain ⟨v, h1, h2, h3⟩ := o7.1 p hpn
    rw [FI_eq]
    exact dayB_bd h1 h3 ns _ _ (fun i hi => cb_bd hok hi) hbd
  obtain ⟨t, ⟨h1, h2⟩, he⟩ := loopU (L := fun k v (t : Sg) => X4_fillBest_18 b rc (nI d) k v t) (E := fun t => X4_fillBest_45 b rc (nI d) t) (fun i (t : Sg) => FL [b + 10 + d] [b + 2 + d, b + 16] st t ∧ ∀ n, n < 13 → 0 < i → t.2 (b + 2 + d) n = bsV (fun p => dayB (cb q d p) (q 0 p) ns (FI (ns * (D - 1 - d))) (st.2 (b + 2 + (d + 1)))) n i ∧ t.1 (b + 10 + d) n = nI (bsA (fun p => dayB (cb q d p) (q 0 p) ns (FI (ns * (D - 1 - d))) (st.2 (b + 2 + (d + 1)))) n i)) np
    (fun k i t hi ⟨a1, a2⟩ => by
      have hVt : VX t q C D re np ns := hV.keep (fun o h1 h2 => a1.1 o (by simp; omega))
      obtain ⟨t1, e1, f1, g1⟩ := x_rowFor (st := t) (b := b) (d := d) (p := i) hb hok hVt hd hi
      obtain ⟨t2, e2, f2, g2⟩ := x_takeGreater (st := t1) (b := b) (d := d) (p := i) (by omega) (by omega)
      have nxt : t.2 (b + 2 + (d + 1)) = st.2 (b + 2 + (d + 1)) := a1.2 _ (by simp; omega)
      have row : ∀ n, n < 13 → t1.2 (b + 16) n = dayB (cb q d i) (q 0 i) ns (FI (ns * (D - 1 - d))) (st.2 (b + 2 + (d + 1))) n := fun n hn => by rw [g1 n hn, nxt]
      have k8 : t1.2 (b + 2 + d) = t.2 (b + 2 + d) := f1.2 _ (by simp; omega)
      have k9 : t1.1 (b + 10 + d) = t.1 (b + 10 + d) := f1.1 _ (by simp)
      refine ⟨t2, ⟨(a1.tr (f1.up (by simp) (by simp))).tr (f2.up (by simp) (by simp)), fun n hn _ => ?_⟩, ?_⟩
      · rw [(g2 n hn).1, (g2 n hn).2, row n hn, k8, k9]
        by_cases hz : i = 0
        · subst hz
          have := bsV_1 (rows := fun p => dayB (cb q d p) (q 0 p) ns (FI (ns * (D - 1 - d))) (st.2 (b + 2 + (d + 1)))) hpw hn (hrow 0 hi)
          rw [if_pos (Or.inl rfl), if_pos (Or.inl rfl), this.1, this.2]
          exact ⟨rfl, rfl⟩
        · rw [(a2 n hn (by omega)).1, (a2 n hn (by omega)).2]
          show _ = (if bsV (fun p => dayB (cb q d p) (q 0 p) ns (FI (ns * (D - 1 - d))) (st.2 (b + 2 + (d + 1)))) n i < dayB (cb q d i) (q 0 i) ns (FI (ns * (D - 1 - d))) (st.2 (b + 2 + (d + 1))) n then dayB (cb q d i) (q 0 i) ns (FI (ns * (D - 1 - d))) (st.2 (b + 2 + (d + 1))) n else bsV (fun p => dayB (cb q d p) (q 0 p) ns (FI (ns * (D - 1 - d))) (st.2 (b + 2 + (d + 1)))) n i) ∧ _ = nI (if bsV (fun p => dayB (cb q d p) (q 0 p) ns (FI (ns * (D - 1 - d))) (st.2 (b + 2 + (d + 1)))) n i < dayB (cb q d i) (q 0 i) ns (FI (ns * (D - 1 - d))) (st.2 (b + 2 + (d + 1))) n then i else bsA (fun p => dayB (cb q d p) (q 0 p) ns (FI (ns * (D - 1 - d))) (st.2 (b + 2 + (d + 1)))) n i)
          by_cases c : bsV (fun p => dayB (cb q d p) (q 0 p) ns (FI (ns * (D - 1 - d))) (st.2 (b + 2 + (d + 1)))) n i < dayB (cb q d i) (q 0 i) ns (FI (ns * (D - 1 - d))) (st.2 (b + 2 + (d + 1))) n
          · rw [if_pos (Or.inr c), if_pos c, if_pos (Or.inr c), if_pos c]; exact ⟨rfl, rfl⟩
          · have cn : ¬ (i = 0 ∨ bsV (fun p => dayB (cb q d p) (q 0 p) ns (FI (ns * (D - 1 - d))) (st.2 (b + 2 + (d + 1)))) n i < dayB (cb q d i) (q 0 i) ns (FI (ns * (D - 1 - d))) (st.2 (b + 2 + (d + 1))) n) := by
              rintro (z | z)
              · exact hz z
              · exact c z
            rw [if_neg cn, if_neg c, if_neg cn, if_neg c]; exact ⟨rfl, rfl⟩
      · show X4_fillBest_18b b rc (X4_fillBest_18 b rc (nI d) k) (nI d) (nI i) t = _
        unfold X4_fillBest_18b
        rw [a1.1 1 (by simp; omega), x4, if_neg (nI_ge hi (by omega)), e1, bnd1_some, e2, bnd1_some, nm_eq, nI_1])
    (fun k t ⟨a1, _⟩ => by
      show X4_fillBest_18b b rc (X4_fillBest_18 b rc (nI d) k) (nI d) (nI np) t = _
      unfold X4_fillBest_18b
      rw [a1.1 1 (by simp; omega), x4, if_pos (nI_le (Nat.le_refl np) (by omega))])
    np 0 FU st (Nat.zero_add np) (FU_gt (by omega)) ⟨FL.rf, fun n hn z => by omega⟩
  refine ⟨t, ?_, h1, fun n hn => h2 n hn hp⟩
  rw [show (0 : Int32) = nI 0 from rfl]
  exact he
theorem dayB_ext {cs : Nat → Int32} {p : Int32} {s : Nat} {fi : Int64} {b b' : Nat → Int64} {n : Nat} (hn : n < 13) (h : ∀ n, n < 13 → b n = b' n) : dayB cs p s fi b n = dayB cs p s fi b' n := dayB_cg s fi b b' h n hn
theorem bs_cg {rows rows' : Nat → Nat → Int64} {n : Nat} : ∀ np, (∀ p, p < np → rows p n = rows' p n) → bsV rows n np = bsV rows' n np ∧ bsA rows n np = bsA rows' n np := by
  intro np
  induction np with
  | zero => intro _; exact ⟨rfl, rfl⟩
  | succ np ih =>
    intro h
    obtain ⟨h1, h2⟩ := ih (fun p hp => h p (by omega))
    have h3 := h np (by omega)
    refine ⟨?_, ?_⟩
    · show (if bsV rows n np < rows np n then rows np n else bsV rows n np) = (if bsV rows' n np < rows' np n then rows' np n else bsV rows' n np)
      rw [h1, h3]
    · show (if bsV rows n np < rows np n then np else bsA rows n np) = (if bsV rows' n np < rows' np n then np else bsA rows' n np)
      rw [h1, h2, h3]
theorem x_fillBest {st : Sg} {q : Nat → Nat → Int32} {C D re np ns b : Nat} (hb : 8 ≤ b) (hok : Okd q C D re np ns) (hV : VX st q C D re np ns) (hp : 0 < np) : ∃ st', X4_fillBest b st = some st' ∧ Fr (b + 10) (b + 16) (b + 2) (b + 17) st st' ∧ BestT b st' q D re np ns := by
  obtain ⟨x1, x2, x3, x4, x5, x6⟩ := id hV
  obtain ⟨o1, o2, o3, o4, o5, o6, o7⟩ := id hok
  obtain ⟨s1, e1, f1, g1⟩ := x_fillEnd (st := st) (b := b) hok hV
  have F1 : Fr (b + 10) (b + 16) (b + 2) (b + 17) st s1 := f1.fr (by simp) (by simp; omega)
  obtain ⟨t, ⟨h1, h2, h3, h4⟩, he⟩ := loopD (L := fun k v (t : Sg) => X4_fillBest_12 b k v t) (E := fun t => X4_fillBest_51 b t) (fun i (t : Sg) => i ≤ D ∧ Fr (b + 10) (b + 16) (b + 2) (b + 17) st t ∧ (∀ d, i ≤ d → d ≤ D → ∀ n, n < 13 → t.2 (b + 2 + d) n = BV q D re np ns (D - d) n) ∧ ∀ d, i ≤ d → d < D → ∀ n, n < 13 → t.1 (b + 10 + d) n = nI (BA q D re np ns (D - 1 - d) n))
    (fun k i t ⟨a1, a2, a3, a4⟩ => by
      have hVt : VX t q C D re np ns := hV.keep (fun o h1 h2 => a2.1 o (by omega))
      have hprev : ∀ n, n < 13 → t.2 (b + 2 + (i + 1)) n = BV q D re np ns (D - 1 - i) n := fun n hn => by
        rw [a3 (i + 1) (by omega) (by omega) n hn, show D - (i + 1) = D - 1 - i by omega]
      have hbd : Bd (4 ^ (ns * (D - 1 - i))) (t.2 (b + 2 + (i + 1))) := fun n hn => by
        rw [hprev n hn]
        exact BV_bd hok hp (D - 1 - i) (by omega) n hn
      obtain ⟨t1, c1, c2, c3⟩ := x_fb18 (st := t) (b := b) (d := i) hb hok hVt hp (by omega) hbd (X4_fillBest_12 b k)
      have hday : D - 1 - (D - 1 - i) = i := by omega
      have hsucc : D - i = (D - 1 - i) + 1 := by omega
      have rows : ∀ n, n < 13 → ∀ p, p < np → dayB (cb q i p) (q 0 p) ns (FI (ns * (D - 1 - i))) (t.2 (b + 2 + (i + 1))) n = dayB (cb q i p) (q 0 p) ns (FI (ns * (D - 1 - i))) (BV q D re np ns (D - 1 - i)) n := fun n hn p _ => dayB_ext hn hprev
      have hBV : ∀ n, n < 13 → BV q D re np ns (D - i) n = bsV (fun p => dayB (cb q i p) (q 0 p) ns (FI (ns * (D - 1 - i))) (t.2 (b + 2 + (i + 1)))) n np := fun n hn => by
        rw [hsucc]
        show bsV (fun p => dayB (cb q (D - 1 - (D - 1 - i)) p) (q 0 p) ns (FI (ns * (D - 1 - i))) (BV q D re np ns (D - 1 - i))) n np = _
        rw [hday]
        exact ((bs_cg np (rows n hn)).1).symm
      have hBA : ∀ n, n < 13 → BA q D re np ns (D - 1 - i) n = bsA (fun p => dayB (cb q i p) (q 0 p) ns (FI (ns * (D - 1 - i))) (t.2 (b + 2 + (i + 1)))) n np := fun n hn => by
        unfold BA
        rw [hday]
        exact ((bs_cg np (rows n hn)).2).symm
      refine ⟨t1, ⟨by omega, a2.tr (c2.fr (by simp; omega) (by simp; omega)), fun d h1 h2 n hn => ?_, fun d h1 h2 n hn => ?_⟩, ?_⟩
      · by_cases c : d = i
        · subst c; rw [(c3 n hn).1, hBV n hn]
        · rw [c2.2 _ (by simp; omega)]; exact a3 d (by omega) h2 n hn
      · by_cases c : d = i
        · subst c; rw [(c3 n hn).2, hBA n hn]
        · rw [c2.1 _ (by simp; omega)]; exact a4 d (by omega) h2 n hn
      · show X4_fillBest_12b b (X4_fillBest_12 b k) (nI i) t = _
        unfold X4_fillBest_12b
        rw [if_neg (nI_pos (by omega)), c1]
        unfold X4_fillBest_45
        rw [nm_eq])
    (fun k t _ => by
      show X4_fillBest_12b b (X4_fillBest_12 b k) (-1) t = _
      unfold X4_fillBest_12b
      rw [if_pos (by decide)])
    D FU s1 (FU_gt (by omega)) ⟨Nat.le_refl D, F1, fun d h1 h2 n hn => by
      have : d = D := by omega
      subst this
      rw [g1 n hn, Nat.sub_self]; rfl, fun d h1 h2 => by omega⟩
  refine ⟨t, ?_, h2, ⟨fun d hd n hn => h3 d (by omega) hd n hn, fun d hd n hn => h4 d (by omega) hd n hn⟩⟩
  unfold X4_fillBest
  have e : nI D - 1 = nI D + (-1) := by grind
  have hD1 : s1.1 1 1 = nI D := by rw [f1.1 1 (by simp)]; exact x2
  rw [e1, bnd1_some, nm_eq, hD1, e]
  exact he
theorem BestT_8 {st : Sg} {q : Nat → Nat → Int32} {C D re np ns : Nat} (h : BestT 8 st q D re np ns) : Best st q C D re np ns := fun d hd n hn => ⟨h.1 d hd n (by omega), fun hd2 => h.2 d hd2 n (by omega)⟩
/-- the best found, or kept: the edition's words carried over -/
theorem x_findBest {n : Nat} {sx : Sg} {q : Nat → Nat → Int32} {C D re np ns : Nat} (hn : n ≤ 512) (hok : Okd q C D re np ns) (hV : VX sx q C D re np ns) (hE : Edn n sx q C D re np ns) (hp : 0 < np) : ∃ sx', X7_findBest sx = some sx' ∧ Best sx' q C D re np ns ∧ Edn n sx' q C D re np ns ∧ (∀ o, 1 ≤ o → ¬ (18 ≤ o ∧ o < 24) → sx'.1 o = sx.1 o) ∧ (∀ o, ¬ (10 ≤ o ∧ o < 25) → sx'.2 o = sx.2 o) := by
  obtain ⟨ed, e1, e2, e3, he, hed, ⟨a1, a2, a3⟩, ⟨b1, b2, b3⟩, c1, c2, c3⟩ := id hE
  have cmp : (nI e1 + (-1) = nI ed) ↔ e1 = ed + 1 := by
    rw [← nI_m1 ed]
    constructor
    · intro z
      have : nI e1 = nI (ed + 1) := by
        have h2 : nI e1 + (-1) + 1 = nI (ed + 1) + (-1) + 1 := by rw [z]
        have h3 : nI e1 + (-1) + 1 = nI e1 := by grind
        have h4 : nI (ed + 1) + (-1) + 1 = nI (ed + 1) := by grind
        rw [h3, h4] at h2
        exact h2
      exact nI_inj (by omega) (by omega) this
    · intro z; rw [z]
  by_cases c : e1 = ed + 1
  · refine ⟨sx, ?_, a3 c, hE, fun o _ _ => rfl, fun o _ => rfl⟩
    unfold X7_findBest X7_findBest_36
    rw [a1, hed, if_pos (cmp.mpr c)]
  · obtain ⟨s1, f1, f2, f3⟩ := x_fillBest (b := 8) (by decide) hok hV hp
    have k1 : s1.1 1 = sx.1 1 := f2.1 1 (by omega)
    refine ⟨sI s1 0 11 (nI ed), ?_, ?_, ?_, ?_, ?_⟩
    · unfold X7_findBest X7_findBest_36
      rw [a1, hed, if_neg (fun z => c (cmp.mp z)), f1, bnd1_some, nm_eq, k1, hed]
    · intro d hd m hm
      have := BestT_8 (C := C) f3 d hd m hm
      rw [sI_2, sI_ne (by omega)]
      exact this
    · have k0 : ∀ k, k ≠ 11 → (sI s1 0 11 (nI ed)).1 0 k = sx.1 0 k := fun k hk => by
        rw [sI_at, if_neg (fun z => hk z.2), f2.1 0 (by omega)]
      refine ⟨ed, ed + 1, e2, e3, he, by rw [sI_ne (by decide), k1]; exact hed, ⟨by rw [sI_at, if_pos ⟨rfl, rfl⟩, nI_m1], by omega, fun _ => ?_⟩, ⟨by rw [k0 12 (by decide)]; exact b1, b2, fun z => ?_⟩, by rw [k0 13 (by decide)]; exact c1, c2, fun z => ?_⟩
      · intro d hd m hm
        have := BestT_8 (C := C) f3 d hd m hm
        rw [sI_2, sI_ne (by omega)]
        exact this
      · have := b3 z
        unfold Kept
        rw [sI_2, sI_ne (by decide), sI_ne (by decide), f2.2 61 (by omega), f2.2 63 (by omega), f2.1 62 (by omega), f2.1 64 (by omega)]
        exact this
      · have := c3 z
        unfold Metc
        rw [sI_2, sI_ne (by decide), f2.2 65 (by omega), f2.1 66 (by omega)]
        exact this
    · intro o h1 h2
      rw [sI_ne (by omega)]
      exact f2.1 o (by omega)
    · intro o h1
      exact f2.2 o (by omega)
