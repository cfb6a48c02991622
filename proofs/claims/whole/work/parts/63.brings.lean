/-! brings, left -/
theorem fr_wk {n : Nat} {sx sx' : Sg} {q : Nat → Nat → Int32} {C D re np ns : Nat} (hE : Edn n sx q C D re np ns) (hD : D ≤ 6) (h : Fr 0 0 44 52 sx sx') : Edn n sx' q C D re np ns := edn_keep0 hE (h.1 0 (by omega)) (by rw [h.1 1 (by omega)]) hD (fun o ho => ⟨h.1 o (by omega), h.2 o (by omega)⟩)
theorem s_brings (n : Nat) (sx sm : Sg) (a0 : Int32) (hn : n < 512) (h : Rel n sx sm) : ∃ (r : Int64) (sx9 : Sg) (sm9 : Sg), X7_brings a0 sx = some (r, sx9) ∧ X8_brings a0 sm = some (r, sm9) ∧ Rel (n + 1) sx9 sm9 := by
  obtain ⟨hn0, q, C, D, re, np, ns, hok, hVX, hVM, hPl, hT, hR, hE⟩ := id h
  obtain ⟨o1, o2, o3, o4, o5, o6, o7⟩ := id hok
  obtain ⟨x1, x2, x3, x4, x5, x6⟩ := id hVX
  obtain ⟨m1, m2, m3, m4, m5, m6⟩ := id hVM
  by_cases cp : a0 = 0 ∨ a0 = 1
  · by_cases hz : np = 0
    · refine ⟨-1000000000000000003, sx, sm, ?_, ?_, rel_idle hn h⟩
      · unfold X7_brings
        rw [part_X, if_pos cp, ref_b x4 o5, if_neg (by decide), if_pos hz, if_neg (by decide), lost3]
      · unfold X8_brings
        rw [part_M, if_pos cp, if_neg (by decide), m4, if_pos (by rw [hz]; rfl)]
    · obtain ⟨P, hP⟩ := pln_P hPl (by omega) o5
      obtain ⟨sx', a1, a2, a3⟩ := x_goByPlan (f := 0) (qp := 7) (P := P) hok hVX (fun d hd => ⟨(hP d (by omega)).1, (hP d (by omega)).2.2⟩) (by omega) (fun z => by omega)
      have hV1 : VX sx' q C D re np ns := hVX.keep (fun o _ _ => a2.1 o (by omega))
      have hm := x_mean hok hV1 (a3 D (Nat.le_refl D)) (fwD_z D)
      rw [QQ_mean hok] at hm
      obtain ⟨s1, b1, b2, b3⟩ := m_layPlan (st := sm)
      have hM1 : VM s1 q C D re np ns := hVM.keep (fun o ho => b2.1 o (by simp; omega))
      obtain ⟨s2, c1, c2, c3, c4⟩ := m_bringFrom (e := 0) (P := P) hok hM1 (fun d hd => ⟨by rw [b3 d (by omega)]; exact (hP d (by omega)).2.1, (hP d (by omega)).2.2⟩) (by omega)
      have hM2 : VM s2 q C D re np ns := hM1.keep (fun o ho => c2.1 o (by simp))
      have hb := (TV_bd (P := fun d _ => P d) hok (fun d hd _ _ => (hP d (by omega)).2.2) D (Nat.le_refl D)).rng (p18 (nsk o6 o3)) (n := C) (by omega)
      obtain ⟨r, r1, r2⟩ := frac4 (u := PV q D re ns P D C) (k := ns * D) a0 (nsk o6 o3) (by unfold PV; omega)
      rw [Nat.sub_zero] at c3
      have c4' := c4 C (by omega)
      rw [Nat.sub_zero] at c4'
      refine ⟨r, sx', s2, ?_, ?_, rel_keep hn hok hVX hVM hPl hT hR (edn_up (fr_wk hE o3 a2) o3) (fun o ho => a2.1 o (by omega)) (by rw [c2.1 0 (by simp), b2.1 0 (by simp)]) (fun o ho => by rw [c2.1 o (by simp), b2.1 o (by simp; omega)])⟩
      · unfold X7_brings
        rw [part_X, if_pos cp, ref_b x4 o5, if_neg (by decide), if_neg hz, if_pos rfl, show (0 : Int32) = nI 0 from rfl, a1, bnd1_some, hm, bnd1_some, hV1.2.1, sc_X hV1.2.2.2.2.1 (by have := nsk o6 o3; omega), bnd1_some, r1, bnd1_some]
      · unfold X8_brings
        rw [part_M, if_pos cp, if_neg (by decide), m4, if_neg (nI_ne0 (by omega) (by omega)), b1, bnd1_some, show (0 : Int32) = nI 0 from rfl, c1, bnd1_some, hM2.1, cx13 (by omega), clI (by omega), c4', c3, r2, bnd1_some]
  · refine ⟨-1000000000000000002, sx, sm, ?_, ?_, rel_idle hn h⟩
    · unfold X7_brings
      rw [part_X, if_neg cp, ref_b x4 o5, if_pos rfl, if_neg (by decide), lost2]
    · unfold X8_brings
      rw [part_M, if_neg cp, if_pos rfl]
theorem s_left (n : Nat) (sx sm : Sg) (a0 a1 : Int32) (hn : n < 512) (h : Rel n sx sm) : ∃ (r : Int64) (sx9 : Sg) (sm9 : Sg), X7_left a0 a1 sx = some (r, sx9) ∧ X8_left a0 a1 sm = some (r, sm9) ∧ Rel (n + 1) sx9 sm9 := by
  obtain ⟨hn0, q, C, D, re, np, ns, hok, hVX, hVM, hPl, hT, hR, hE⟩ := id h
  obtain ⟨o1, o2, o3, o4, o5, o6, o7⟩ := id hok
  obtain ⟨x1, x2, x3, x4, x5, x6⟩ := id hVX
  obtain ⟨m1, m2, m3, m4, m5, m6⟩ := id hVM
  by_cases cn : (0 : Int32) ≤ a0 ∧ a0 ≤ nI C
  · obtain ⟨v, hv, rfl⟩ := (le_rng (by omega)).mp cn
    by_cases cp : a1 = 0 ∨ a1 = 1
    · by_cases hz : np = 0
      · refine ⟨-1000000000000000003, sx, sm, ?_, ?_, rel_idle hn h⟩
        · unfold X7_left X7_left_28
          rw [x1, wi_b, if_pos cn, if_neg (by decide), part_X, if_pos cp, if_neg (by decide), ref_b x4 o5, if_neg (by decide), if_pos hz, if_neg (by decide), lost3]
        · unfold X8_left
          rw [m1, in_c _ 0 (nI C) _ _ _ (by decide) rfl, if_pos cn, if_neg (by decide), part_M, if_pos cp, if_neg (by decide), m4, if_pos (by rw [hz]; rfl)]
      · obtain ⟨P, hP⟩ := pln_P hPl (by omega) o5
        obtain ⟨sx', a1', a2, a3⟩ := x_goByPlan (f := 0) (qp := 7) (P := P) hok hVX (fun d hd => ⟨(hP d (by omega)).1, (hP d (by omega)).2.2⟩) (by omega) (fun z => by omega)
        have hV1 : VX sx' q C D re np ns := hVX.keep (fun o _ _ => a2.1 o (by omega))
        obtain ⟨s1, b1, b2, b3⟩ := m_layPlan (st := sm)
        have hM1 : VM s1 q C D re np ns := hVM.keep (fun o ho => b2.1 o (by simp; omega))
        obtain ⟨s2, c1, c2, c3, c4⟩ := m_findOdds (e := D) (P := P) hok hM1 (fun d hd => ⟨by rw [b3 d (by omega)]; exact (hP d (by omega)).2.1, (hP d (by omega)).2.2⟩) (by omega)
        have hb := fwD_rng (P := P) (n := v) hok (by omega)
        obtain ⟨r, r1, r2⟩ := frac4 (u := (fwD q ns P C D).1 v) (k := ns * D) a1 (nsk o6 o3) (by omega)
        refine ⟨r, sx', s2, ?_, ?_, rel_keep hn hok hVX hVM hPl hT hR (edn_up (fr_wk hE o3 a2) o3) (fun o ho => a2.1 o (by omega)) (by rw [c2.1 0 (by simp), b2.1 0 (by simp)]) (fun o ho => by rw [c2.1 o (by simp), b2.1 o (by simp; omega)])⟩
        · unfold X7_left X7_left_28
          rw [x1, wi_b, if_pos cn, if_neg (by decide), part_X, if_pos cp, if_neg (by decide), ref_b x4 o5, if_neg (by decide), if_neg hz, if_pos rfl, show (0 : Int32) = nI 0 from rfl, a1', bnd1_some, hV1.2.1, cx7 (by omega), cx13 (by omega), sc_X hV1.2.2.2.2.1 (by have := nsk o6 o3; omega), bnd1_some, clI (by omega), clI (by omega), (a3 D (Nat.le_refl D)).1 v (by omega), r1, bnd1_some]
        · unfold X8_left
          rw [m1, in_c _ 0 (nI C) _ _ _ (by decide) rfl, if_pos cn, if_neg (by decide), part_M, if_pos cp, if_neg (by decide), m4, if_neg (nI_ne0 (by omega) (by omega)), b1, bnd1_some, hM1.2.1, c1, bnd1_some, cx13 (by omega), clI (by omega), c4 v (by omega), c3, r2, bnd1_some]
    · refine ⟨-1000000000000000002, sx, sm, ?_, ?_, rel_idle hn h⟩
      · unfold X7_left X7_left_27 X7_left_28
        rw [x1, wi_b, if_pos cn, if_neg (by decide), part_X, if_neg cp, if_pos rfl, ref_b x4 o5, if_pos rfl, if_neg (by decide), lost2]
      · unfold X8_left X8_left_21
        rw [m1, in_c _ 0 (nI C) _ _ _ (by decide) rfl, if_pos cn, if_neg (by decide), part_M, if_neg cp, if_pos rfl]
  · refine ⟨-1000000000000000002, sx, sm, ?_, ?_, rel_idle hn h⟩
    · unfold X7_left X7_left_27 X7_left_28
      rw [x1, wi_b, if_neg cn, if_pos rfl, ref_b x4 o5, if_pos rfl, if_neg (by decide), lost2]
    · unfold X8_left X8_left_21
      rw [m1, in_c _ 0 (nI C) _ _ _ (by decide) rfl, if_neg cn, if_pos rfl]
