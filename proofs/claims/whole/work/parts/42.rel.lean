/-! how the relation is carried over a step -/
theorem sI_ne {st : Sg} {o k o' : Nat} {v : Int32} (h : o' ≠ o) : (sI st o k v).1 o' = st.1 o' := by simp [sI, va_up, h]
theorem sI_eq {st : Sg} {o k : Nat} {v : Int32} : (sI st o k v).1 o = upd (st.1 o) k v := by simp [sI, va_up]
theorem sJ_ne {st : Sg} {o k o' : Nat} {v : Int64} (h : o' ≠ o) : (sJ st o k v).2 o' = st.2 o' := by simp [sJ, va_up, h]
theorem sJ_eq {st : Sg} {o k : Nat} {v : Int64} : (sJ st o k v).2 o = vp_updL (st.2 o) k v := by simp [sJ, va_up]
theorem in_c {α : Type} (x lo' hi' : Int32) (lo hi : Int64) (k : Int32 → Option α) (h1 : lo = lo'.toInt64) (h2 : hi = hi'.toInt64) : bnd1 (X8_in x.toInt64 lo hi) k = if lo' ≤ x ∧ x ≤ hi' then k 1 else k 0 := by
  subst h1; subst h2
  rw [in_b]
  simp only [i64_le]
theorem nI_inj {a b : Nat} (ha : a < 2 ^ 31) (hb : b < 2 ^ 31) (h : nI a = nI b) : a = b := (nI_eq ha hb).mp h
theorem lit_nI (k : Nat) : (OfNat.ofNat k : Int32) = nI k := rfl
theorem of_rng {x lo hi : Int32} {a b : Nat} (hlo : lo = nI a) (hhi : hi = nI b) (hb : b < 2 ^ 31) (hab : a ≤ b) (h1 : lo ≤ x) (h2 : x ≤ hi) : ∃ v : Nat, x = nI v ∧ a ≤ v ∧ v ≤ b := by
  subst hlo; subst hhi
  have h0 : ¬ x < 0 := by
    intro q
    have h3 : nI a ≤ x := h1
    rw [Int32.lt_iff_toInt_lt] at q
    rw [Int32.le_iff_toInt_le, nI_toInt (by omega)] at h3
    have : (0 : Int32).toInt = 0 := by decide
    omega
  obtain ⟨j, hj, rfl⟩ := nI_of h0
  exact ⟨j, rfl, (nI_leI (by omega) hj).mp h1, (nI_leI hj hb).mp h2⟩
/-- a change of the sale's data: another edition -/
theorem rel_chg {n : Nat} {sx sm sx' sm' : Sg} {q' : Nat → Nat → Int32} {C' D' re' np' ns' : Nat} (hn : n < 512) (h : Rel n sx sm) (hok : Okd q' C' D' re' np' ns') (hVX : VX sx' q' C' D' re' np' ns') (hVM : VM sm' q' C' D' re' np' ns') (hP' : Pln sx' sm' np') (h1 : sx'.1 1 10 = sx.1 1 10 + 1) (h2 : sx'.1 0 = sx.1 0) (h3 : ∀ o, 67 ≤ o → sx'.1 o = sx.1 o) (h4 : sm'.1 0 20 = sm.1 0 20 ∧ sm'.1 0 25 = sm.1 0 25 ∧ sm'.1 0 26 = sm.1 0 26) (h5 : ∀ o, 14 ≤ o → sm'.1 o = sm.1 o) : Rel (n + 1) sx' sm' := by
  obtain ⟨hn0, q, C, D, re, np, ns, hok0, hVX0, hVM0, hP0, hT, hR, ed, e1, e2, e3, he, hed, ⟨a1, a2, a3⟩, ⟨b1, b2, b3⟩, c1, c2, c3⟩ := h
  refine ⟨by omega, q', C', D', re', np', ns', hok, hVX, hVM, hP', ?_, ?_, ed + 1, e1, e2, e3, by omega, by rw [h1, hed]; exact nI_1 ed, ⟨by rw [h2]; exact a1, by omega, fun q => by omega⟩, ⟨by rw [h2]; exact b1, by omega, fun q => by omega⟩, by rw [h2]; exact c1, by omega, fun q => by omega⟩
  · obtain ⟨t, k, k1, k2, k3, k4, k5⟩ := hT
    exact ⟨t, k, k1, by rw [h3 67 (by omega)]; exact k2, by rw [h4.1]; exact k3, by rw [h3 68 (by omega)]; exact k4, by rw [h5 14 (by omega)]; exact k5⟩
  · unfold Rul
    rw [h3 69 (by omega), h3 70 (by omega), h3 71 (by omega), h3 72 (by omega), h3 73 (by omega), h4.2.1, h4.2.2, h5 15 (by omega), h5 16 (by omega), h5 17 (by omega), h5 18 (by omega)]
    exact hR
theorem edn_keep {n : Nat} {sx sx' : Sg} {q : Nat → Nat → Int32} {C D re np ns : Nat} (h : Edn n sx q C D re np ns) (h0 : sx'.1 0 = sx.1 0) (h1 : sx'.1 1 10 = sx.1 1 10) (hD : D ≤ 6) (h2 : ∀ o, (8 ≤ o ∧ o < 25) ∨ (61 ≤ o ∧ o < 67) → sx'.1 o = sx.1 o ∧ sx'.2 o = sx.2 o) : Edn (n + 1) sx' q C D re np ns := by
  obtain ⟨ed, e1, e2, e3, he, hed, ⟨a1, a2, a3⟩, ⟨b1, b2, b3⟩, c1, c2, c3⟩ := h
  refine ⟨ed, e1, e2, e3, by omega, by rw [h1]; exact hed, ⟨by rw [h0]; exact a1, a2, fun z => ?_⟩, ⟨by rw [h0]; exact b1, b2, fun z => ?_⟩, by rw [h0]; exact c1, c2, fun z => ?_⟩
  · intro d hd k hk
    have := a3 z d hd k hk
    rw [(h2 (10 + d) (by omega)).2]
    refine ⟨this.1, fun hd2 => ?_⟩
    rw [(h2 (18 + d) (by omega)).1]
    exact this.2 hd2
  · have := b3 z
    unfold Kept
    rw [(h2 61 (by omega)).2, (h2 62 (by omega)).1, (h2 63 (by omega)).2, (h2 64 (by omega)).1]
    exact this
  · have := c3 z
    unfold Metc
    rw [(h2 65 (by omega)).2, (h2 66 (by omega)).1]
    exact this
/-- a step that leaves the sale's data, the text and the rule -/
theorem rel_keep {n : Nat} {sx sm sx' sm' : Sg} {q : Nat → Nat → Int32} {C D re np ns : Nat} (hn : n < 512) (hok : Okd q C D re np ns) (hVX : VX sx q C D re np ns) (hVM : VM sm q C D re np ns) (hP0 : Pln sx sm np) (hT : Txt sx sm) (hR : Rul sx sm) (hE : Edn (n + 1) sx' q C D re np ns) (h3 : ∀ o, (1 ≤ o ∧ o < 8) ∨ 67 ≤ o → sx'.1 o = sx.1 o) (h4 : sm'.1 0 = sm.1 0) (h5 : ∀ o, (1 ≤ o ∧ o < 7) ∨ (14 ≤ o ∧ o < 19) → sm'.1 o = sm.1 o) : Rel (n + 1) sx' sm' := by
  refine ⟨by omega, q, C, D, re, np, ns, hok, ?_, ?_, ?_, ?_, ?_, hE⟩
  · obtain ⟨v1, v2, v3, v4, v5, v6⟩ := hVX
    refine ⟨?_, ?_, ?_, ?_, ?_, fun i hi => ?_⟩
    · rw [h3 1 (by omega)]; exact v1
    · rw [h3 1 (by omega)]; exact v2
    · rw [h3 1 (by omega)]; exact v3
    · rw [h3 1 (by omega)]; exact v4
    · rw [h3 1 (by omega)]; exact v5
    · rw [h3 (2 + i) (by omega)]; exact v6 i hi
  · obtain ⟨v1, v2, v3, v4, v5, v6⟩ := hVM
    refine ⟨by rw [h4]; exact v1, by rw [h4]; exact v2, by rw [h4]; exact v3, by rw [h4]; exact v4, by rw [h4]; exact v5, fun i hi => ?_⟩
    rw [h5 (1 + i) (by omega)]; exact v6 i hi
  · unfold Pln
    rw [h3 7 (by omega), h5 6 (by omega)]
    exact hP0
  · obtain ⟨t, k, k1, k2, k3, k4, k5⟩ := hT
    exact ⟨t, k, k1, by rw [h3 67 (by omega)]; exact k2, by rw [h4]; exact k3, by rw [h3 68 (by omega)]; exact k4, by rw [h5 14 (by omega)]; exact k5⟩
  · unfold Rul
    rw [h3 69 (by omega), h3 70 (by omega), h3 71 (by omega), h3 72 (by omega), h3 73 (by omega), h4, h5 15 (by omega), h5 16 (by omega), h5 17 (by omega), h5 18 (by omega)]
    exact hR
theorem rel_idle {n : Nat} {sx sm : Sg} (hn : n < 512) (h : Rel n sx sm) : Rel (n + 1) sx sm := by
  obtain ⟨hn0, q, C, D, re, np, ns, hok, hVX, hVM, hP0, hT, hR, hE⟩ := h
  exact rel_keep hn hok hVX hVM hP0 hT hR (edn_keep hE rfl rfl hok.2.2.1 (fun _ _ => ⟨rfl, rfl⟩)) (fun _ _ => rfl) rfl (fun _ _ => rfl)
theorem rel_init : Rel 0 st0X st0M := by
  refine ⟨by omega, fun i => st0X.1 (2 + i), 4, 3, 0, 0, 0, ⟨by omega, by omega, by omega, by omega, by omega, by omega, fun i h => absurd h (by omega), fun i h => absurd h (by omega), fun i h => absurd h (by omega), fun i h => absurd h (by omega), fun i h => absurd h (by omega)⟩, ⟨rfl, rfl, rfl, rfl, rfl, fun i _ => rfl⟩, ⟨rfl, rfl, rfl, rfl, rfl, ?_⟩, ⟨rfl, fun d _ => ⟨0, rfl, Or.inl rfl⟩⟩, ⟨fun _ => 0, 0, by omega, rfl, rfl, rfl, rfl⟩, Or.inl ⟨rfl, rfl⟩, 0, 0, 0, 0, by omega, rfl, ⟨by decide, by omega, fun h => absurd h (by omega)⟩, ⟨by decide, by omega, fun h => absurd h (by omega)⟩, by decide, by omega, fun h => absurd h (by omega)⟩
  intro i hi
  match i, hi with
  | 0, _ => rfl
  | 1, _ => rfl
  | 2, _ => rfl
  | 3, _ => rfl
  | 4, _ => rfl
