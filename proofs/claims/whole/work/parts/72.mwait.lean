/-! the reference's meeting -/
theorem m_pickOf {st : Sg} {q : Nat → Nat → Int32} {C D re np ns s f : Nat} {P : Nat → Nat} (hok : Okd q C D re np ns) (hV : VM st q C D re np ns) (hP : ∀ d, d < D → st.1 11 d = nI (P d) ∧ P d < np) (hs : s < ns) (hf : f ≤ D) : X8_pickOf (nI s) (nI f) st = some (pkD q D P s f) := by
  obtain ⟨x1, x2, x3, x4, x5, x6⟩ := id hV
  obtain ⟨o1, o2, o3, o4, o5, o6, o7⟩ := id hok
  have main : ∀ (k d fu : Nat) (best most : Int32), d + k = D → k < fu → X8_pickOf_9 (nI s) (nI f) st fu best most (nI d) = some (pkG q P s f k d best most) := by
    intro k
    induction k with
    | zero =>
      intro d fu best most hd hfu
      obtain ⟨fu, rfl⟩ : ∃ k', fu = k' + 1 := ⟨fu - 1, by omega⟩
      show X8_pickOf_9b (X8_pickOf_9 (nI s) (nI f) st fu) (nI s) (nI f) best most (nI d) st = _
      unfold X8_pickOf_9b X8_pickOf_72
      rw [x2, if_pos (nI_le (by omega) (by omega))]; rfl
    | succ k ih =>
      intro d fu best most hd hfu
      obtain ⟨fu, rfl⟩ : ∃ k', fu = k' + 1 := ⟨fu - 1, by omega⟩
      show X8_pickOf_9b (X8_pickOf_9 (nI s) (nI f) st fu) (nI s) (nI f) best most (nI d) st = _
      unfold X8_pickOf_9b X8_pickOf_66
      have g := hP d (by omega)
      rw [x2, if_neg (nI_ge (by omega) (by omega)), wv_M (q := q) (x6 2 (by decide)) (x6 3 (by decide)) (by omega), cx6 (by omega), clI (by omega), g.1, cx5 (by omega), cx3 (by omega), nm_eq, clI (by omega), clI (by omega), show st.1 1 = q 0 from x6 0 (by decide), show st.1 5 = q 4 from x6 4 (by decide)]
      simp only [nm_eq, nI_1]
      rw [ih (d + 1) fu best most (by omega) (by omega), ih (d + 1) fu (nI d) _ (by omega) (by omega)]
      show _ = some (if wv q s d - q 0 (P d) - q 4 s * (nI d - nI f) ≤ most then pkG q P s f k (d + 1) best most else pkG q P s f k (d + 1) (nI d) (wv q s d - q 0 (P d) - q 4 s * (nI d - nI f)))
      by_cases c : wv q s d - q 0 (P d) - q 4 s * (nI d - nI f) ≤ most
      · rw [if_pos c, if_pos c]
      · rw [if_neg c, if_neg c]
  unfold X8_pickOf
  exact main (D - f) f FU (-6) (-1) (by omega) (FU_gt (by omega))
/-- the reference's row is the class's, but for those of no chance -/
def Scl (t : Sg) (x : Int64 × (Nat → Int64)) (c : Nat) : Prop := ∃ y z : Nat, y + z = c ∧ t.2 0 12 = FI y ∧ x.1 = FI (y + z) ∧ (∀ n, n < 13 → x.2 n = FI z * t.2 7 n) ∧ t.2 7 0 = 0
theorem FI_add (a b : Nat) : FI (a + b) = FI a * FI b := by
  rw [FI_eq, FI_eq, FI_eq, lN_mul, Nat.pow_add]
theorem Scl.pass {t t' : Sg} {x : Int64 × (Nat → Int64)} {c cv : Nat} {p : Int32} (h : Scl t x c) (h1 : t'.2 0 12 = t.2 0 12 * 4) (h2 : ∀ n, n < 13 → t'.2 7 n = rowU (nI cv) p (t.2 0 12) (t.2 7) n) : Scl t' (x.1 * 4, rowU (nI cv) p x.1 x.2) (c + 1) := by
  obtain ⟨y, z, e1, e2, e3, e4, e5⟩ := h
  refine ⟨y + 1, z, by omega, by rw [h1, e2, FI_4], ?_, fun n hn => ?_, by rw [h2 0 (by decide), rowU_0 e5]⟩
  · show x.1 * 4 = _
    rw [e3, FI_4]; congr 1; omega
  · show rowU (nI cv) p x.1 x.2 n = _
    rw [h2 n hn]
    by_cases c0 : n = 0
    · subst c0
      rw [rowU_0 e5, rowU_0 (by rw [e4 0 (by decide), e5]; grind)]
      grind
    · unfold rowU UB
      rw [if_neg (by omega), if_neg (by omega), e4 n hn, e4 (n - 1) (by omega), e3, e2, FI_add]
      grind
theorem Scl.none {t : Sg} {x : Int64 × (Nat → Int64)} {c : Nat} {p : Int32} (h : Scl t x c) : Scl t (x.1 * 4, rowU 0 p x.1 x.2) (c + 1) := by
  obtain ⟨y, z, e1, e2, e3, e4, e5⟩ := h
  refine ⟨y, z + 1, by omega, e2, ?_, fun n hn => ?_, e5⟩
  · show x.1 * 4 = _
    rw [e3, FI_4]; rfl
  · show rowU 0 p x.1 x.2 n = _
    rw [← FI_4]
    by_cases c0 : n = 0
    · subst c0
      rw [rowU_0 (by rw [e4 0 (by decide), e5]; grind), e5]
      grind
    · unfold rowU UB
      rw [if_neg (by omega), e4 n hn, e4 (n - 1) (by omega), show (0 : Int32).toInt64 = 0 by decide, show ((4 : Int32) - 0).toInt64 = 4 by decide]
      grind
theorem mt41 {st : Sg} {q : Nat → Nat → Int32} {C D re np ns f d c0 : Nat} {P : Nat → Nat} {x0 : Int64 × (Nat → Int64)} (hok : Okd q C D re np ns) (hV : VM st q C D re np ns) (hP : ∀ d, d < D → st.1 11 d = nI (P d) ∧ P d < np) (hd : d < D) (hf : f ≤ d) (hS : Scl st x0 c0) (rc11 rc29 : Int32 → Sg → Option Sg) : ∃ st', X8_meet_41 rc11 rc29 (nI d) (q 0 (P d)) (nI f) FU (nI ns + (-1)) st = X8_meet_133 rc11 rc29 (nI d) (q 0 (P d)) (nI f) st' ∧ FL [] [0, 7] st st' ∧ Scl st' (mtS (mtB q D P d f) (q 0 (P d)) ns x0) (c0 + cnS (mtB q D P d f) ns) := by
  obtain ⟨o1, o2, o3, o4, o5, o6, o7, o8, o9, o10, o11⟩ := id hok
  obtain ⟨t, ⟨h1, h2, x, c, h3, h4, h5⟩, he⟩ := loopD (L := fun k v (t : Sg) => X8_meet_41 rc11 rc29 (nI d) (q 0 (P d)) (nI f) k v t) (E := fun t => X8_meet_133 rc11 rc29 (nI d) (q 0 (P d)) (nI f) t) (fun i (t : Sg) => i ≤ ns ∧ FL [] [0, 7] st t ∧ ∃ x c, Scl t x c ∧ mtS (mtB q D P d f) (q 0 (P d)) i x = mtS (mtB q D P d f) (q 0 (P d)) ns x0 ∧ c + cnS (mtB q D P d f) i = c0 + cnS (mtB q D P d f) ns)
    (fun k s t ⟨a1, a2, x, c, a3, a4, a5⟩ => by
      have hs : s < ns := by omega
      have hVt : VM t q C D re np ns := hV.keep (fun o _ => a2.1 o (by simp))
      have hPt : ∀ d, d < D → t.1 11 d = nI (P d) ∧ P d < np := fun d hd => by rw [a2.1 11 (by simp)]; exact hP d hd
      obtain ⟨m1, m2, m3, m4, m5, m6⟩ := id hVt
      rw [mtS_s] at a4
      have a5' : c + (cnS (mtB q D P d f) s + isS (mtB q D P d f s)) = c0 + cnS (mtB q D P d f) ns := a5
      obtain ⟨cv, hcv, hcv4⟩ := o8 s hs
      -- the three ways on
      have pass : mtB q D P d f s = some (q 1 s) → ∃ t', (s ≤ ns ∧ FL [] [0, 7] st t' ∧ ∃ x c, Scl t' x c ∧ mtS (mtB q D P d f) (q 0 (P d)) s x = mtS (mtB q D P d f) (q 0 (P d)) ns x0 ∧ c + cnS (mtB q D P d f) s = c0 + cnS (mtB q D P d f) ns) ∧ X8_meet_108 rc11 rc29 (X8_meet_41 rc11 rc29 (nI d) (q 0 (P d)) (nI f) k) 1 (nI d) (q 0 (P d)) (nI f) (nI s) t = X8_meet_41 rc11 rc29 (nI d) (q 0 (P d)) (nI f) k (nI s + (-1)) t' := by
        intro hm
        rw [hm] at a4 a5'
        have e5 := a3.choose_spec.choose_spec.2.2.2.2
        obtain ⟨t', b1, b2, b3, b4⟩ := m_buyer (st := t) (p := q 0 (P d)) hcv4 e5
        refine ⟨t', ⟨by omega, a2.tr b2, (x.1 * 4, rowU (nI cv) (q 0 (P d)) x.1 x.2), c + 1, a3.pass b3 b4, ?_, ?_⟩, ?_⟩
        · rw [← hcv]; exact a4
        · simp only [isS] at a5'; omega
        · unfold X8_meet_108 X8_meet_127
          rw [if_neg (by decide), cx3 (by omega), clI (by omega), show t.1 2 = q 1 from m6 1 (by decide), hcv, b1, bnd1_some, nm_eq]
      have zero : mtB q D P d f s = some 0 → ∃ t', (s ≤ ns ∧ FL [] [0, 7] st t' ∧ ∃ x c, Scl t' x c ∧ mtS (mtB q D P d f) (q 0 (P d)) s x = mtS (mtB q D P d f) (q 0 (P d)) ns x0 ∧ c + cnS (mtB q D P d f) s = c0 + cnS (mtB q D P d f) ns) ∧ X8_meet_108 rc11 rc29 (X8_meet_41 rc11 rc29 (nI d) (q 0 (P d)) (nI f) k) 0 (nI d) (q 0 (P d)) (nI f) (nI s) t = X8_meet_41 rc11 rc29 (nI d) (q 0 (P d)) (nI f) k (nI s + (-1)) t' := by
        intro hm
        rw [hm] at a4 a5'
        refine ⟨t, ⟨by omega, a2, (x.1 * 4, rowU 0 (q 0 (P d)) x.1 x.2), c + 1, a3.none, a4, ?_⟩, ?_⟩
        · simp only [isS] at a5'; omega
        · unfold X8_meet_108 X8_meet_127
          rw [if_pos rfl, nm_eq]
      have skip : mtB q D P d f s = none → ∃ t', (s ≤ ns ∧ FL [] [0, 7] st t' ∧ ∃ x c, Scl t' x c ∧ mtS (mtB q D P d f) (q 0 (P d)) s x = mtS (mtB q D P d f) (q 0 (P d)) ns x0 ∧ c + cnS (mtB q D P d f) s = c0 + cnS (mtB q D P d f) ns) ∧ X8_meet_108 rc11 rc29 (X8_meet_41 rc11 rc29 (nI d) (q 0 (P d)) (nI f) k) 0 (nI d) (q 0 (P d)) (nI f) (nI s) t = X8_meet_41 rc11 rc29 (nI d) (q 0 (P d)) (nI f) k (nI s + (-1)) t' := by
        intro hm
        rw [hm] at a4 a5'
        refine ⟨t, ⟨by omega, a2, x, c, a3, a4, ?_⟩, ?_⟩
        · simp only [isS] at a5'; omega
        · unfold X8_meet_108 X8_meet_127
          rw [if_pos rfl, nm_eq]
      show ∃ t', _ ∧ X8_meet_41b rc11 rc29 (X8_meet_41 rc11 rc29 (nI d) (q 0 (P d)) (nI f) k) (nI d) (q 0 (P d)) (nI f) (nI s) t = X8_meet_41 rc11 rc29 (nI d) (q 0 (P d)) (nI f) k (nI s + (-1)) t'
      unfold X8_meet_41b X8_meet_61 X8_meet_107
      rw [if_neg (nI_pos (by omega)), cx3 (by omega), clI (by omega), show t.1 5 = q 4 from m6 4 (by decide)]
      by_cases cw : q 4 s = -1
      · rw [if_pos (show q 4 s < 0 by rw [cw]; decide), if_pos rfl]
        by_cases cf : f = d
        · rw [if_pos (by rw [cf]), wv_M (q := q) (m6 2 (by decide)) (m6 3 (by decide)) (by omega)]
          have hm : mtB q D P d f s = some (cb q d (P d) s) := by unfold mtB; rw [if_pos cw, if_pos cf]
          unfold cb at hm
          by_cases cp : wv q s d < q 0 (P d)
          · rw [if_pos cp] at hm ⊢
            exact zero hm
          · rw [if_neg cp] at hm ⊢
            exact pass hm
        · rw [if_neg (fun z => cf (nI_inj (by omega) (by omega) z))]
          exact skip (by unfold mtB; rw [if_pos cw, if_neg cf])
      · obtain ⟨w, w1, w2⟩ := (o11 s hs).resolve_left cw
        rw [if_neg (by rw [w1]; exact nI_pos (by omega)), if_neg (by decide), m_pickOf hok hVt hPt hs (by omega), bnd1_some]
        by_cases cp : pkD q D P s f = nI d
        · rw [if_pos cp]
          refine pass ?_
          unfold mtB
          rw [if_neg cw, if_pos cp]
          have hge : ¬ wv q s d < q 0 (P d) := by
            rcases pkD_sem hok hs (fun d hd => (hP d hd).2) cw (show f < D by omega) with e | ⟨e, g1, g2, g3, g4⟩
            · rw [e] at cp; exact absurd cp.symm (nI_ne6 (by omega))
            · rw [g3] at cp
              have := nI_inj (by omega) (by omega) cp
              subst this; exact g4
          unfold cb
          rw [if_neg hge]
        · rw [if_neg cp]
          by_cases c6 : pkD q D P s f = -6 ∧ f = d
          · exact zero (by unfold mtB; rw [if_neg cw, if_neg cp, if_pos c6])
          · exact skip (by unfold mtB; rw [if_neg cw, if_neg cp, if_neg c6]))
    (fun k t _ => by
      show X8_meet_41b rc11 rc29 (X8_meet_41 rc11 rc29 (nI d) (q 0 (P d)) (nI f) k) (nI d) (q 0 (P d)) (nI f) (-1) t = _
      unfold X8_meet_41b
      rw [if_pos (by decide)])
    ns FU st (FU_gt (by omega)) ⟨Nat.le_refl ns, FL.rf, x0, c0, hS, rfl, rfl⟩
  refine ⟨t, he, h2, ?_⟩
  have e4 : x = mtS (mtB q D P d f) (q 0 (P d)) ns x0 := h4
  have e5 : c = c0 + cnS (mtB q D P d f) ns := h5
  rw [← e4, ← e5]
  exact h3
theorem mt29 {st : Sg} {q : Nat → Nat → Int32} {C D re np ns d c0 : Nat} {P : Nat → Nat} {x0 : Int64 × (Nat → Int64)} (hok : Okd q C D re np ns) (hV : VM st q C D re np ns) (hP : ∀ d, d < D → st.1 11 d = nI (P d) ∧ P d < np) (hd : d < D) (hS : Scl st x0 c0) (rc11 : Int32 → Sg → Option Sg) : ∃ st', X8_meet_29 rc11 (nI d) (q 0 (P d)) FU (nI (d + 1) + (-1)) st = X8_meet_139 rc11 (nI d) st' ∧ FL [] [0, 7] st st' ∧ Scl st' (mtF (mtB q D P d) (q 0 (P d)) ns (d + 1) x0) (c0 + cnF (mtB q D P d) ns (d + 1)) := by
  obtain ⟨o1, o2, o3, o4, o5, o6, o7⟩ := id hok
  obtain ⟨t, ⟨h1, h2, x, c, h3, h4, h5⟩, he⟩ := loopD (L := fun k v (t : Sg) => X8_meet_29 rc11 (nI d) (q 0 (P d)) k v t) (E := fun t => X8_meet_139 rc11 (nI d) t) (fun i (t : Sg) => i ≤ d + 1 ∧ FL [] [0, 7] st t ∧ ∃ x c, Scl t x c ∧ mtF (mtB q D P d) (q 0 (P d)) ns i x = mtF (mtB q D P d) (q 0 (P d)) ns (d + 1) x0 ∧ c + cnF (mtB q D P d) ns i = c0 + cnF (mtB q D P d) ns (d + 1))
    (fun k f t ⟨a1, a2, x, c, a3, a4, a5⟩ => by
      have hVt : VM t q C D re np ns := hV.keep (fun o _ => a2.1 o (by simp))
      have hPt : ∀ d, d < D → t.1 11 d = nI (P d) ∧ P d < np := fun d hd => by rw [a2.1 11 (by simp)]; exact hP d hd
      obtain ⟨t', b1, b2, b3⟩ := mt41 (f := f) hok hVt hPt hd (by omega) a3 rc11 (X8_meet_29 rc11 (nI d) (q 0 (P d)) k)
      have a5' : c + (cnF (mtB q D P d) ns f + cnS (mtB q D P d f) ns) = c0 + cnF (mtB q D P d) ns (d + 1) := a5
      refine ⟨t', ⟨by omega, a2.tr b2, _, _, b3, a4, by omega⟩, ?_⟩
      show X8_meet_29b rc11 (X8_meet_29 rc11 (nI d) (q 0 (P d)) k) (nI d) (q 0 (P d)) (nI f) t = _
      unfold X8_meet_29b
      have ee : nI ns - 1 = nI ns + (-1) := by grind
      rw [if_neg (nI_pos (by omega)), nm_eq, hVt.2.2.2.2.1, ee, b1]
      unfold X8_meet_133
      rw [nm_eq])
    (fun k t _ => by
      show X8_meet_29b rc11 (X8_meet_29 rc11 (nI d) (q 0 (P d)) k) (nI d) (q 0 (P d)) (-1) t = _
      unfold X8_meet_29b
      rw [if_pos (by decide)])
    (d + 1) FU st (FU_gt (by omega)) ⟨Nat.le_refl _, FL.rf, x0, c0, hS, rfl, rfl⟩
  refine ⟨t, he, h2, ?_⟩
  have e4 : x = mtF (mtB q D P d) (q 0 (P d)) ns (d + 1) x0 := h4
  have e5 : c = c0 + cnF (mtB q D P d) ns (d + 1) := h5
  rw [← e4, ← e5]
  exact h3
theorem FI_lt {a b : Nat} (hb : b ≤ 18) (ha : a ≤ 18) : ¬ FI a < FI b ↔ b ≤ a := by
  have h1 := p18 ha
  have h2 := p18 hb
  rw [FI_eq, FI_eq, pk_lLT (by omega) (by omega)]
  constructor
  · intro h
    exact Nat.le_of_not_lt fun z => h (Nat.pow_lt_pow_right (by decide) z)
  · intro h z
    have := pow4_le h
    omega
/-- those of no chance, till the scale is that of all days -/
theorem mt145 {q : Nat → Nat → Int32} {C D re np ns : Nat} (hok : Okd q C D re np ns) : ∀ (z y k : Nat) (st : Sg), y + z = ns * D → z < k → VM st q C D re np ns → st.2 0 12 = FI y → st.2 7 0 = 0 → ∃ st', X8_meet_145 k st = some st' ∧ FL [] [0, 7] st st' ∧ ∀ n, n < 13 → st'.2 7 n = FI z * st.2 7 n := by
  obtain ⟨o1, o2, o3, o4, o5, o6, o7⟩ := id hok
  have hnd := nsk o6 o3
  intro z
  induction z with
  | zero =>
    intro y k st hy hk hV hf h0
    obtain ⟨k, rfl⟩ : ∃ k', k = k' + 1 := ⟨k - 1, by omega⟩
    refine ⟨st, ?_, FL.rf, fun n _ => ?_⟩
    · show X8_meet_145b (X8_meet_145 k) st = _
      unfold X8_meet_145b X8_meet_174
      simp only [lg_ge0]
      rw [hV.2.2.2.2.1, hV.2.1, pk_mul, pw_M (by omega), bnd1_some, hf, if_pos ((FI_lt hnd (by omega)).mpr (by omega))]
    · show _ = (1 : Int64) * _
      grind
  | succ z ih =>
    intro y k st hy hk hV hf h0
    obtain ⟨k, rfl⟩ : ∃ k', k = k' + 1 := ⟨k - 1, by omega⟩
    obtain ⟨s1, a1, a2, a3, a4⟩ := m_buyer (st := st) (cv := 0) (p := nI 0) (by omega) h0
    obtain ⟨st', b1, b2, b3⟩ := ih (y + 1) k s1 (by omega) (by omega) (hV.keep (fun o _ => a2.1 o (by simp))) (by rw [a3, hf, FI_4]) (by rw [a4 0 (by decide), rowU_0 h0])
    refine ⟨st', ?_, a2.tr b2, fun n hn => ?_⟩
    · show X8_meet_145b (X8_meet_145 k) st = _
      unfold X8_meet_145b
      simp only [lg_ge0]
      rw [hV.2.2.2.2.1, hV.2.1, pk_mul, pw_M (by omega), bnd1_some, hf, if_neg (fun w => by have := (FI_lt hnd (by omega)).mp w; omega), show (0 : Int32) = nI 0 from rfl, a1, bnd1_some, b1]
    · rw [b3 n hn, a4 n hn, ← FI_4]
      by_cases c0 : n = 0
      · subst c0
        rw [rowU_0 h0, h0]; grind
      · unfold rowU UB
        rw [if_neg (by omega), show (nI 0).toInt64 = 0 by decide, show ((4 : Int32) - nI 0).toInt64 = 4 by decide]
        grind
theorem m_meet {st : Sg} {q : Nat → Nat → Int32} {C D re np ns : Nat} {P : Nat → Nat} (hok : Okd q C D re np ns) (hV : VM st q C D re np ns) (hP : ∀ d, d < D → st.1 11 d = nI (P d) ∧ P d < np) : ∃ st', X8_meet st = some st' ∧ FL [] [0, 7] st st' ∧ ∀ n, n < 13 → st'.2 7 n = MV q D re ns P n := by
  obtain ⟨o1, o2, o3, o4, o5, o6, o7⟩ := id hok
  obtain ⟨s1, e1, f1, g1, g2⟩ := m_beginEnd hV.2.2.1
  have hS : Scl s1 (1, endV re) 0 := ⟨0, 0, rfl, g1, rfl, fun n hn => by rw [g2 n hn]; show _ = (1 : Int64) * _; grind, by rw [g2 0 (by decide)]; exact endV_0⟩
  obtain ⟨t, ⟨h1, h2, x, c, h3, h4, h5⟩, he⟩ := loopD (L := fun k v (t : Sg) => X8_meet_11 k v t) (E := fun t => X8_meet_145 FU t) (fun i (t : Sg) => i ≤ D ∧ FL [] [0, 7] st t ∧ ∃ x c, Scl t x c ∧ mtD q D ns P i x = mtD q D ns P D (1, endV re) ∧ c + cnD q D ns P i = cnD q D ns P D)
    (fun k d t ⟨a1, a2, x, c, a3, a4, a5⟩ => by
      have hVt : VM t q C D re np ns := hV.keep (fun o _ => a2.1 o (by simp))
      have hPt : ∀ d, d < D → t.1 11 d = nI (P d) ∧ P d < np := fun d hd => by rw [a2.1 11 (by simp)]; exact hP d hd
      obtain ⟨t', b1, b2, b3⟩ := mt29 (d := d) hok hVt hPt (by omega) a3 (X8_meet_11 k)
      have a5' : c + (cnD q D ns P d + cnF (mtB q D P d) ns (d + 1)) = cnD q D ns P D := a5
      refine ⟨t', ⟨by omega, a2.tr b2, _, _, b3, a4, by omega⟩, ?_⟩
      show X8_meet_11b (X8_meet_11 k) (nI d) t = _
      unfold X8_meet_11b
      have g := hPt d (by omega)
      rw [nI_m1] at b1
      rw [if_neg (nI_pos (by omega)), cx6 (by omega), clI (by omega), g.1, cx5 (by omega), nm_eq, clI (by omega), show t.1 1 = q 0 from hVt.2.2.2.2.2 0 (by decide), b1]
      unfold X8_meet_139
      rw [nm_eq])
    (fun k t _ => by
      show X8_meet_11b (X8_meet_11 k) (-1) t = _
      unfold X8_meet_11b
      rw [if_pos (by decide)])
    D FU s1 (FU_gt (by omega)) ⟨Nat.le_refl D, f1, _, _, hS, rfl, by omega⟩
  have e4 : x = mtD q D ns P D (1, endV re) := h4
  have e5 : c = cnD q D ns P D := h5
  rw [cnD_all hok (fun d hd => (hP d hd).2)] at e5
  obtain ⟨y, z, i1, i2, i3, i4, i5⟩ := h3
  have hnd := nsk o6 o3
  obtain ⟨st', j1, j2, j3⟩ := mt145 hok z y FU t (by omega) (FU_gt (by omega)) (hV.keep (fun o _ => h2.1 o (by simp))) i2 i5
  refine ⟨st', ?_, h2.tr j2, fun n hn => ?_⟩
  · unfold X8_meet
    have ee : nI D - 1 = nI D + (-1) := by grind
    rw [e1, bnd1_some, nm_eq, f1.1 0 (by simp), hV.2.1, ee]
    exact he.trans j1
  · rw [j3 n hn, ← i4 n hn, e4]; rfl
theorem m_stepW {q : Nat → Nat → Int32} {C D re np ns : Nat} {x1 : Int32} (hok : Okd q C D re np ns) (hx : x1 = 2) (st : Sg) (l : List Nat) (hV : VM st q C D re np ns) (hL : Lp st 11 l D np) : ∃ st', (∀ rc x2, X8_findKept_48 rc x1 x2 st = X8_findKept_65 rc x1 x2 st') ∧ FL [] [0, 7] st st' ∧ st'.2 7 C = MV q D re ns (fun d => l.getD d 0) C := by
  obtain ⟨o1, o2, o3, o4, o5, o6, o7⟩ := id hok
  obtain ⟨s1, a1, a2, a3⟩ := m_meet (P := fun d => l.getD d 0) hok hV hL.2
  refine ⟨s1, fun rc x2 => ?_, a2, a3 C (by omega)⟩
  unfold X8_findKept_48
  rw [if_pos hx, a1, bnd1_some]
