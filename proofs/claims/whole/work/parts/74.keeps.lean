/-! keeps -/
theorem nI_neI {a b : Nat} (ha : a < 2 ^ 31) (hb : b < 2 ^ 31) (h : a ≠ b) : ¬ nI a = nI b := fun z => h (nI_inj ha hb z)
theorem pm_of {w b : Nat} {sx sx' : Sg} (hw : w < 3) (h : X7_promised (nI w) sx = some (b, sx')) : X7_promiseMean (nI w) sx = some (sx'.2 b 1, sx') := by
  unfold X7_promised at h
  unfold X7_promiseMean X7_promiseMean_110
  rw [if_neg (show ¬ nI w = (4 : Int32) from nI_neI (a := w) (b := 4) (by omega) (by decide) (by omega))]
  by_cases c : nI w = (2 : Int32)
  · rw [if_pos c] at h
    rw [if_pos c]
    cases e : X7_findMet sx with
    | none => rw [e] at h; cases h
    | some s =>
      rw [e, bnd1_some] at h
      rw [bnd1_some]
      cases h
      rfl
  · rw [if_neg c] at h
    rw [if_neg c]
    cases e : X7_findKept sx with
    | none => rw [e] at h; cases h
    | some s =>
      rw [e, bnd1_some] at h
      rw [bnd1_some, if_neg (show ¬ nI w = (3 : Int32) from nI_neI (a := w) (b := 3) (by omega) (by decide) (by omega))]
      by_cases c1 : nI w = (1 : Int32)
      · rw [if_pos c1] at h
        rw [if_pos c1]
        cases h
        rfl
      · rw [if_neg c1] at h
        rw [if_neg c1]
        cases h
        rfl
/-- both sides find what is told -/
theorem both_keeps {n w : Nat} {sx sm : Sg} {q : Nat → Nat → Int32} {C D re np ns : Nat} (hn : n < 512) (hok : Okd q C D re np ns) (hVX : VX sx q C D re np ns) (hVM : VM sm q C D re np ns) (hPl : Pln sx sm np) (hE : Edn n sx q C D re np ns) (hp : 0 < np) (hw : w < 5) (x2 : Int32) : ∃ (sx' sm' : Sg) (u : Int64), X7_promiseMean (nI w) sx = some (u, sx') ∧ (if (3 : Int32) ≤ nI w then
          if nI w = (3 : Int32) then
            bnd1 (X8_findBest sm) fun st17 =>
            cix (st17.1 0 0) 91 <|
            nm (st17.2 8 (st17.1 0 0).toNatClampNeg) fun v19 =>
            bnd2 (X8_findKept 0 st17) fun v22 st21 =>
            nm (v19 - v22) fun v23 =>
            X8_keeps_100 x2 v23 st21
          else
            bnd1 (X8_layPlan sm) fun st11 =>
            bnd1 (X8_meet st11) fun st13 =>
            cix (st13.1 0 0) 13 <|
            nm (st13.2 7 (st13.1 0 0).toNatClampNeg) fun v15 =>
            X8_keeps_100 x2 v15 st13
        else
          bnd2 (X8_findKept (nI w) sm) fun v26 st25 =>
          X8_keeps_100 x2 v26 st25) = X8_keeps_100 x2 u sm' ∧ (-(2 ^ 62 : Int) < u.toInt ∧ u.toInt < 2 ^ 62) ∧ Edn n sx' q C D re np ns ∧ XF sx sx' ∧ FL [9, 11, 13] [0, 7, 8, 10] sm sm' := by
  obtain ⟨o1, o2, o3, o4, o5, o6, o7⟩ := id hok
  by_cases h3 : w < 3
  · obtain ⟨sx', sm', b, r, hb, k1, k2, k3, k4, k5, k6, k7, k8, k9⟩ := both_kept hn hok hVX hVM hE hp h3
    refine ⟨sx', sm', r.1, ?_, ?_, by omega, k7, k8, k9.up (by simp) (by simp)⟩
    · rw [pm_of h3 k1, k3]
    · rw [if_neg (show ¬ (3 : Int32) ≤ nI w from nI_ge (b := 3) h3 (by decide)), k2, bnd2_some]
  · have hw' : w = 3 ∨ w = 4 := by omega
    rcases hw' with rfl | rfl
    · obtain ⟨s1, c1, c2, c3, c4, c5⟩ := x_findKept (by omega) hok hVX hE hp
      have hV1 : VX s1 q C D re np ns := hVX.keep (fun o h1 h2 => c4 o h1 (by simp [KI]; omega))
      obtain ⟨sx', a1, a2, a3, a4, a5⟩ := x_findBest (by omega) hok hV1 c3 hp
      obtain ⟨s2, b1, b2, b3⟩ := m_findBest hok hVM hp
      have hM2 : VM s2 q C D re np ns := hVM.keep (fun o ho => b2.1 o (by simp; omega))
      obtain ⟨sm', d1, d2, d3⟩ := m_findKept (x1 := 0) (val := vK q C D re ns) (ok := fun _ => true) hok hp hM2 (m_stepK hok (by decide)) (fun z => absurd z (by decide)) (fun _ => rfl)
      have hV2 : VX sx' q C D re np ns := hV1.keep (fun o h1 h2 => a4 o h1 (by omega))
      refine ⟨sx', sm', BV q D re np ns D C - (KP (vK q C D re ns) (fun _ => true) (plans D np) (-1, [])).1, ?_, ?_, sub_rng ((BV_bd hok hp D (Nat.le_refl D)).rng (p18 (nsk o6 o3)) (by omega)) (keptS_ok hok hp).2.1, a3, fun o ho => ?_, (b2.up (by simp) (by simp)).tr (d2.up (by simp) (by simp))⟩
      · unfold X7_promiseMean
        rw [if_neg (by decide), if_neg (by decide), c1, bnd1_some, if_pos (by decide), a1, bnd1_some, show (0 : Int32) = nI 0 from rfl, cx7 (by omega), hV2.1, cx13 (by omega), clI (by omega), clI (by omega)]
        have e1 : sx'.2 (10 + 0) C = BV q D re np ns D C := (a2 0 (by omega) C (by omega)).1
        have e2 : sx'.2 61 1 = (KP (vK q C D re ns) (fun _ => true) (plans D np) (-1, [])).1 := by
          rw [a5 61 (by omega)]
          exact c2.1.1
        rw [e1, e2]
      · have e1 : s2.2 8 C = BV q D re np ns D C := by
          have := b3.1 0 (by omega) C (by omega)
          simpa using this
        rw [if_pos (by decide), if_pos (by decide), b1, bnd1_some, hM2.1, cx91 (by omega), nm_eq, clI (by omega), e1, d1, bnd2_some, nm_eq]
      · rw [a4 o (by omega) (by omega), c4 o (by omega) (by simp [KI]; omega)]
    · obtain ⟨P, hP⟩ := pln_P hPl hp o5
      obtain ⟨sx', a1, a2, a3⟩ := x_met (qp := 7) (P := P) (by decide) hok hVX (fun d hd => ⟨(hP d (by omega)).1, (hP d (by omega)).2.2⟩)
      obtain ⟨s1, b1, b2, b3⟩ := m_layPlan (st := sm)
      have hM1 : VM s1 q C D re np ns := hVM.keep (fun o ho => b2.1 o (by simp; omega))
      obtain ⟨s2, c1, c2, c3⟩ := m_meet (P := P) hok hM1 (fun d hd => ⟨by rw [b3 d (by omega)]; exact (hP d (by omega)).2.1, (hP d (by omega)).2.2⟩)
      have hM2 : VM s2 q C D re np ns := hM1.keep (fun o ho => c2.1 o (by simp))
      have hb := (MV_bd (P := P) hok (fun d hd => (hP d (by omega)).2.2)).rng (p18 (nsk o6 o3)) (n := C) (by omega)
      refine ⟨sx', s2, MV q D re ns P C, ?_, ?_, by omega, edn_keep0 hE (a2.1 0 (by decide)) (by rw [a2.1 1 (by decide)]) o3 (fun o ho => ⟨a2.1 o (by simp [PI]; omega), a2.2 o (by simp [WJ]; omega)⟩), fun o ho => a2.1 o (by simp [PI]; omega), (b2.up (by simp) (by simp)).tr (c2.up (by simp) (by simp))⟩
      · unfold X7_promiseMean
        rw [if_pos (by decide), a1, bnd1_some, a3, bnd1_some]
      · rw [if_pos (by decide), if_neg (by decide), b1, bnd1_some, c1, bnd1_some, hM2.1, cx13 (by omega), nm_eq, clI (by omega), c3 C (by omega)]
theorem s_keeps (n : Nat) (sx sm : Sg) (a0 a1 : Int32) (hn : n < 512) (h : Rel n sx sm) : ∃ (r : Int64) (sx9 : Sg) (sm9 : Sg), X7_keeps a0 a1 sx = some (r, sx9) ∧ X8_keeps a0 a1 sm = some (r, sm9) ∧ Rel (n + 1) sx9 sm9 := by
  obtain ⟨hn0, q, C, D, re, np, ns, hok, hVX, hVM, hPl, hT, hR, hE⟩ := id h
  obtain ⟨o1, o2, o3, o4, o5, o6, o7⟩ := id hok
  obtain ⟨x1, x2, x3, x4, x5, x6⟩ := id hVX
  obtain ⟨m1, m2, m3, m4, m5, m6⟩ := id hVM
  by_cases cw : (0 : Int32) ≤ a0 ∧ a0 ≤ 4
  · obtain ⟨w, rfl, -, w2⟩ := of_rng (a := 0) (b := 4) rfl rfl (by decide) (by decide) cw.1 cw.2
    by_cases cp : a1 = 0 ∨ a1 = 1
    · by_cases hz : np = 0
      · refine ⟨-1000000000000000003, sx, sm, ?_, ?_, rel_idle hn h⟩
        · unfold X7_keeps X7_keeps_22
          rw [wi_b, if_pos cw, if_neg (by decide), part_X, if_pos cp, if_neg (by decide), ref_b x4 o5, if_neg (by decide), if_pos hz, if_neg (by decide), lost3]
        · unfold X8_keeps
          rw [in_c _ 0 4 _ _ _ (by decide) (by decide), if_pos cw, if_neg (by decide), part_M, if_pos cp, if_neg (by decide), m4, if_pos (by rw [hz]; rfl)]
      · obtain ⟨sx', sm', u, k1, k2, k3, k4, k5, k6⟩ := both_keeps hn hok hVX hVM hPl hE (by omega) (show w < 5 by omega) a1
        have hV1 : VX sx' q C D re np ns := k5.vx hVX
        have hM1 : VM sm' q C D re np ns := hVM.keep (fun o ho => k6.1 o (by simp; omega))
        obtain ⟨r, r1, r2⟩ := frac4 (u := u) (k := ns * D) a1 (nsk o6 o3) k3
        have hnd := nsk o6 o3
        refine ⟨r, sx', sm', ?_, ?_, rel_keep hn hok hVX hVM hPl hT hR (edn_up k4 o3) k5 (k6.1 0 (by decide)) (fun o ho => k6.1 o (by simp; omega))⟩
        · unfold X7_keeps X7_keeps_22
          rw [wi_b, if_pos cw, if_neg (by decide), part_X, if_pos cp, if_neg (by decide), ref_b x4 o5, if_neg (by decide), if_neg hz, if_pos rfl, k1, bnd2_some, hV1.2.1, sc_X hV1.2.2.2.2.1 (by omega), bnd1_some, r1, bnd1_some]
        · unfold X8_keeps
          rw [in_c _ 0 4 _ _ _ (by decide) (by decide), if_pos cw, if_neg (by decide), part_M, if_pos cp, if_neg (by decide), m4, if_neg (nI_ne0 (by omega) (by omega)), k2]
          unfold X8_keeps_100
          rw [hM1.2.2.2.2.1, hM1.2.1, pk_mul, pw_M (by omega), bnd1_some, r2, bnd1_some]
    · refine ⟨-1000000000000000002, sx, sm, ?_, ?_, rel_idle hn h⟩
      · unfold X7_keeps X7_keeps_21 X7_keeps_22
        rw [wi_b, if_pos cw, if_neg (by decide), part_X, if_neg cp, if_pos rfl, ref_b x4 o5, if_pos rfl, if_neg (by decide), lost2]
      · unfold X8_keeps X8_keeps_19
        rw [in_c _ 0 4 _ _ _ (by decide) (by decide), if_pos cw, if_neg (by decide), part_M, if_neg cp, if_pos rfl]
  · refine ⟨-1000000000000000002, sx, sm, ?_, ?_, rel_idle hn h⟩
    · unfold X7_keeps X7_keeps_21 X7_keeps_22
      rw [wi_b, if_neg cw, if_pos rfl, ref_b x4 o5, if_pos rfl, if_neg (by decide), lost2]
    · unfold X8_keeps X8_keeps_19
      rw [in_c _ 0 4 _ _ _ (by decide) (by decide), if_neg cw, if_pos rfl]
