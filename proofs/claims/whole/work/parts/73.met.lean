/-! met found; kept, keeps, picks -/
def vM (q : Nat → Nat → Int32) (C D re ns : Nat) (l : List Nat) : Int64 := MV q D re ns (fun d => l.getD d 0) C
def NI : List Nat := [53, 54, 55, 56, 57, 58, 60, 66]
def NJ : List Nat := [44, 45, 46, 47, 48, 49, 50, 51, 65]
theorem x_mloop {q : Nat → Nat → Int32} {C D re np ns : Nat} (hok : Okd q C D re np ns) (hp : 0 < np) : ∀ (f : Nat) (l : List Nat) (ch i k : Nat) (st : Sg) (r1 : Int64 × List Nat), plansEnd (np - 1) f l = true → i + f ≤ 210 → f < k → VX st q C D re np ns → Lp st 60 l D np → ch < D → Gr st 65 D r1 → ∃ st', X7_findMet_32 k (nI ch) (nI i) st = X7_findMet_116 st' ∧ FL NI NJ st st' ∧ Gr st' 65 D (KP (vM q C D re ns) (fun _ => true) (plansFrom (np - 1) f l) r1) := by
  obtain ⟨o1, o2, o3, o4, o5, o6, o7⟩ := id hok
  intro f
  induction f with
  | zero => intro l ch i k st r1 h; exact absurd h (by simp [plansEnd])
  | succ f ih =>
    intro l ch i k st r1 hE hi hk hV hL hch hG1
    obtain ⟨k, rfl⟩ : ∃ k', k = k' + 1 := ⟨k - 1, by omega⟩
    obtain ⟨s1, a1, A2, hm⟩ := x_met (qp := 60) (P := fun d => l.getD d 0) (by decide) hok hV hL.2
    have hV1 : VX s1 q C D re np ns := hV.keep (fun o p1 p2 => A2.1 o (by simp [PI]; omega))
    have hL1 : Lp s1 60 l D np := hL.keep (A2.1 60 (by decide))
    obtain ⟨s2, b1, b2, b3⟩ := x_offer (b := 65) (v := vM q C D re ns l) (by decide) (hG1.keep (A2.1 66 (by decide)) (A2.2 65 (by decide))) hL1 o3
    have hL2 : Lp s2 60 l D np := hL1.keep (b2.1 60 (by simp))
    have hV2 : VX s2 q C D re np ns := hV1.keep (fun o h1 h2 => b2.1 o (by simp; omega))
    have F2 : FL NI NJ st s2 := (A2.up (by simp [PI, NI]) (by simp [WJ, NJ])).tr (b2.up (by simp [NI]) (by simp [NJ]))
    have un : X7_findMet_32 (k + 1) (nI ch) (nI i) st = bnd2 (X0_advance (nI D) (nI np) s2) fun v11 st10 => X7_findMet_32 k v11 (nI (i + 1)) st10 := by
      show X7_findMet_32b (X7_findMet_32 k) (nI ch) (nI i) st = _
      unfold X7_findMet_32b
      rw [if_neg (show ¬ (210 : Int32) ≤ nI i from nI_ge (b := 210) (by omega) (by decide)), if_neg (nI_ne6 (by omega)), a1, bnd1_some, hm, bnd1_some]
      show bnd1 (X1_offer 65 (vM q C D re ns l) s1) _ = _
      rw [b1, bnd1_some, hV2.2.1, hV2.2.2.2.1]
      simp only [nm_eq, nI_1]
    rw [un]
    rw [pE_s] at hE
    rw [KP_s]
    have er1 : (if (fun _ => true : List Nat → Bool) l = true ∧ r1.1 < vM q C D re ns l then (vM q C D re ns l, l) else r1) = (if r1.1 < vM q C D re ns l then (vM q C D re ns l, l) else r1) := by simp
    rw [er1]
    cases hx : nxP (np - 1) l with
    | none =>
      rw [x_adv_none hL2 o3 hp o5 hx, bnd2_some]
      refine ⟨s2, ?_, F2, b3⟩
      obtain ⟨k, rfl⟩ : ∃ k', k = k' + 1 := ⟨k - 1, by omega⟩
      show X7_findMet_32b (X7_findMet_32 k) (-6) (nI (i + 1)) s2 = _
      unfold X7_findMet_32b
      rw [if_pos (show (-6 : Int32) = -6 from rfl)]
      split <;> rfl
    | some l' =>
      rw [hx] at hE
      obtain ⟨s4, d, c1, c2, c3, c4, c5⟩ := x_adv_some hL2 o3 hp o5 hx
      rw [c1, bnd2_some]
      obtain ⟨st', e1, e2, e3⟩ := ih l' d (i + 1) k s4 _ hE (by omega) (by omega) (hV2.keep (fun o h1 h2 => c2.1 o (by simp; omega))) c3 c4 (b3.keep (c2.1 66 (by simp)) (c2.2 65 (by simp)))
      exact ⟨st', e1, F2.tr ((c2.up (by simp [NI]) (by simp)).tr e2), e3⟩
theorem vM_rng {q : Nat → Nat → Int32} {C D re np ns : Nat} (hok : Okd q C D re np ns) (l : List Nat) (_ : l.length = D) (hl : ∀ j, j < D → l.getD j 0 < np) : 0 ≤ (vM q C D re ns l).toInt ∧ (vM q C D re ns l).toInt < 2 ^ 61 := by
  obtain ⟨o1, o2, o3, o4, o5, o6, o7⟩ := id hok
  exact (MV_bd (P := fun d => l.getD d 0) hok hl).rng (p18 (nsk o6 o3)) (n := C) (by omega)
theorem metS_ok {q : Nat → Nat → Int32} {C D re np ns : Nat} (hok : Okd q C D re np ns) (hp : 0 < np) : ¬ (KP (vM q C D re ns) (fun _ => true) (plans D np) (-1, [])).1 = -1 ∧ (0 ≤ (KP (vM q C D re ns) (fun _ => true) (plans D np) (-1, [])).1.toInt ∧ (KP (vM q C D re ns) (fun _ => true) (plans D np) (-1, [])).1.toInt < 2 ^ 61) ∧ ∀ d, d < D → (KP (vM q C D re ns) (fun _ => true) (plans D np) (-1, [])).2.getD d 0 < np := KP_all (D := D) (val := vM q C D re ns) (ok := fun _ => true) hp rfl (vM_rng hok)
theorem x_findMet {n : Nat} {sx : Sg} {q : Nat → Nat → Int32} {C D re np ns : Nat} (hn : n ≤ 512) (hok : Okd q C D re np ns) (hV : VX sx q C D re np ns) (hE : Edn n sx q C D re np ns) (hp : 0 < np) : ∃ sx', X7_findMet sx = some sx' ∧ Metc sx' q C D re np ns ∧ Edn n sx' q C D re np ns ∧ (∀ o, 1 ≤ o → o ∉ NI → sx'.1 o = sx.1 o) ∧ (∀ o, o ∉ NJ → sx'.2 o = sx.2 o) := by
  obtain ⟨ed, e1, e2, e3, he, hed, ⟨a1, a2, a3⟩, ⟨b1, b2, b3⟩, c1, c2, c3⟩ := id hE
  obtain ⟨o1, o2, o3, o4, o5, o6, o7⟩ := id hok
  have cmp := ed_cmp c2 (show ed ≤ 512 by omega)
  by_cases c : e3 = ed + 1
  · refine ⟨sx, ?_, c3 c, hE, fun o _ _ => rfl, fun o _ => rfl⟩
    unfold X7_findMet
    rw [c1, hed, if_pos (cmp.mpr c)]
  · obtain ⟨s1, f1, f2, f3⟩ := x_clear (st := sx) (b := 65) (D := D)
    obtain ⟨s3, h1, h2, h3⟩ := x_fbegin (st := s1) (D := D) (np := np) o3 hp
    have F3 : FL NI NJ sx s3 := (f2.up (by simp) (by simp [NJ])).tr (h2.up (by simp [NI]) (by simp))
    have hV3 : VX s3 q C D re np ns := hV.keep (fun o p1 p2 => F3.1 o (by simp [NI]; omega))
    obtain ⟨s4, i1, i2, i3⟩ := x_mloop hok hp 210 (List.replicate D 0) 0 0 FU s3 (-1, []) (plans_ok D (by omega) np (by omega) hp) (by omega) (FU_gt (by omega)) hV3 h3 (by omega) (f3.keep (h2.1 66 (by simp)) (h2.2 65 (by simp)))
    have F4 : FL NI NJ sx s4 := F3.tr i2
    have k1 : s4.1 1 = sx.1 1 := F4.1 1 (by decide)
    have K : Metc s4 q C D re np ns := by
      have ok1 := (metS_ok hok hp).1
      refine ⟨i3.1, ?_⟩
      rcases i3.2 with z | z
      · exact absurd z ok1
      · exact z
    refine ⟨sI s4 0 13 (nI ed), ?_, ?_, ?_, ?_, ?_⟩
    · unfold X7_findMet
      rw [c1, hed, if_neg (fun z => c (cmp.mp z)), f1, bnd1_some, h1, bnd2_some, show (0 : Int32) = nI 0 from rfl, i1]
      unfold X7_findMet_116
      rw [nm_eq, k1, hed]
    · unfold Metc
      rw [sI_2, sI_ne (by decide)]
      exact K
    · have k0 : ∀ k, k ≠ 13 → (sI s4 0 13 (nI ed)).1 0 k = sx.1 0 k := fun k hk => by
        rw [sI_at, if_neg (fun z => hk z.2), F4.1 0 (by decide)]
      refine ⟨ed, e1, e2, ed + 1, he, by rw [sI_ne (by decide), k1]; exact hed, ⟨by rw [k0 11 (by decide)]; exact a1, a2, fun z => ?_⟩, ⟨by rw [k0 12 (by decide)]; exact b1, b2, fun z => ?_⟩, by rw [sI_at, if_pos ⟨rfl, rfl⟩, nI_m1], by omega, fun _ => ?_⟩
      · intro d hd m hm
        have := a3 z d hd m hm
        rw [sI_2, sI_ne (by omega), F4.2 (10 + d) (by simp [NJ]; omega), F4.1 (18 + d) (by simp [NI]; omega)]
        exact this
      · have := b3 z
        unfold Kept
        rw [sI_2, sI_ne (by decide), sI_ne (by decide), F4.2 61 (by decide), F4.2 63 (by decide), F4.1 62 (by decide), F4.1 64 (by decide)]
        exact this
      · unfold Metc
        rw [sI_2, sI_ne (by decide)]
        exact K
    · intro o p1 p2
      rw [sI_ne (by omega)]
      exact F4.1 o p2
    · intro o p1
      exact F4.2 o p1
/-- both sides find the promise -/
theorem both_kept {n w : Nat} {sx sm : Sg} {q : Nat → Nat → Int32} {C D re np ns : Nat} (hn : n < 512) (hok : Okd q C D re np ns) (hVX : VX sx q C D re np ns) (hVM : VM sm q C D re np ns) (hE : Edn n sx q C D re np ns) (hp : 0 < np) (hw : w < 3) : ∃ (sx' sm' : Sg) (b : Nat) (r : Int64 × List Nat), (b = 61 ∨ b = 63 ∨ b = 65) ∧ X7_promised (nI w) sx = some (b, sx') ∧ X8_findKept (nI w) sm = some (r.1, sm') ∧ sx'.2 b 1 = r.1 ∧ (∀ d, d < D → sx'.1 (b + 1) d = nI (r.2.getD d 0)) ∧ (∀ d, d < D → sm'.1 13 d = nI (r.2.getD d 0)) ∧ (0 ≤ r.1.toInt ∧ r.1.toInt < 2 ^ 61) ∧ Edn n sx' q C D re np ns ∧ XF sx sx' ∧ FL [11, 13] [0, 7] sm sm' := by
  obtain ⟨o1, o2, o3, o4, o5, o6, o7⟩ := id hok
  have hw' : w = 0 ∨ w = 1 ∨ w = 2 := by omega
  rcases hw' with rfl | rfl | rfl
  · obtain ⟨sx', a1, a2, a3, a4, a5⟩ := x_findKept (by omega) hok hVX hE hp
    obtain ⟨sm', b1, b2, b3⟩ := m_findKept (x1 := nI 0) (val := vK q C D re ns) (ok := fun _ => true) hok hp hVM (m_stepK hok (by decide)) (fun z => absurd z (by decide)) (fun _ => rfl)
    refine ⟨sx', sm', 61, KP (vK q C D re ns) (fun _ => true) (plans D np) (-1, []), Or.inl rfl, ?_, b1, a2.1.1, a2.1.2, ?_, (keptS_ok hok hp).2.1, a3, fun o ho => a4 o (by omega) (by simp [KI]; omega), b2⟩
    · unfold X7_promised
      rw [if_neg (by decide), a1, bnd1_some, if_neg (by decide)]
    · rcases b3 with z | z
      · exact absurd z (keptS_ok hok hp).1
      · exact z
  · obtain ⟨sx', a1, a2, a3, a4, a5⟩ := x_findKept (by omega) hok hVX hE hp
    obtain ⟨sm', b1, b2, b3⟩ := m_findKept (x1 := nI 1) (val := vK q C D re ns) (ok := onc) hok hp hVM (m_stepK hok (by decide)) (fun _ => rfl) (fun z => absurd (by decide) z)
    refine ⟨sx', sm', 63, KP (vK q C D re ns) onc (plans D np) (-1, []), Or.inr (Or.inl rfl), ?_, b1, a2.2.1, a2.2.2, ?_, (onceS_ok hok hp).2.1, a3, fun o ho => a4 o (by omega) (by simp [KI]; omega), b2⟩
    · unfold X7_promised
      rw [if_neg (by decide), a1, bnd1_some, if_pos (by decide)]
    · rcases b3 with z | z
      · exact absurd z (onceS_ok hok hp).1
      · exact z
  · obtain ⟨sx', a1, a2, a3, a4, a5⟩ := x_findMet (by omega) hok hVX hE hp
    obtain ⟨sm', b1, b2, b3⟩ := m_findKept (x1 := nI 2) (val := vM q C D re ns) (ok := fun _ => true) hok hp hVM (m_stepW hok (by decide)) (fun z => absurd z (by decide)) (fun _ => rfl)
    refine ⟨sx', sm', 65, KP (vM q C D re ns) (fun _ => true) (plans D np) (-1, []), Or.inr (Or.inr rfl), ?_, b1, a2.1, a2.2, ?_, (metS_ok hok hp).2.1, a3, fun o ho => a4 o (by omega) (by simp [NI]; omega), b2⟩
    · unfold X7_promised
      rw [if_pos (by decide), a1, bnd1_some]
    · rcases b3 with z | z
      · exact absurd z (metS_ok hok hp).1
      · exact z
theorem s_kept (n : Nat) (sx sm : Sg) (a0 a1 : Int32) (hn : n < 512) (h : Rel n sx sm) : ∃ (r : Int32) (sx9 : Sg) (sm9 : Sg), X7_kept a0 a1 sx = some (r, sx9) ∧ X8_kept a0 a1 sm = some (r, sm9) ∧ Rel (n + 1) sx9 sm9 := by
  obtain ⟨hn0, q, C, D, re, np, ns, hok, hVX, hVM, hPl, hT, hR, hE⟩ := id h
  obtain ⟨o1, o2, o3, o4, o5, o6, o7⟩ := id hok
  obtain ⟨x1, x2, x3, x4, x5, x6⟩ := id hVX
  obtain ⟨m1, m2, m3, m4, m5, m6⟩ := id hVM
  by_cases cw : (0 : Int32) ≤ a0 ∧ a0 ≤ 2
  · obtain ⟨w, rfl, -, w2⟩ := of_rng (a := 0) (b := 2) rfl rfl (by decide) (by decide) cw.1 cw.2
    by_cases hd : ∃ d, d < D ∧ a1 = nI d
    · obtain ⟨d, hd, rfl⟩ := hd
      by_cases hz : np = 0
      · refine ⟨-3, sx, sm, ?_, ?_, rel_idle hn h⟩
        · unfold X7_kept X7_kept_23
          rw [wi_b, if_pos cw, if_neg (by decide), day_y x2 o3 hd, if_neg (by decide), ref_b x4 o5, if_neg (by decide), if_pos hz, if_neg (by decide)]
        · unfold X8_kept
          rw [in_c _ 0 2 _ _ _ (by decide) (by decide), if_pos cw, if_neg (by decide), m2, in_y hd (by omega), if_neg (by decide), m4, if_pos (by rw [hz]; rfl)]
      · obtain ⟨sx', sm', b, r, hb, k1, k2, k3, k4, k5, k6, k7, k8, k9⟩ := both_kept hn hok hVX hVM hE (by omega) (show w < 3 by omega)
        refine ⟨nI (r.2.getD d 0), sx', sm', ?_, ?_, rel_keep hn hok hVX hVM hPl hT hR (edn_up k7 o3) k8 (k9.1 0 (by decide)) (fun o ho => k9.1 o (by simp; omega))⟩
        · unfold X7_kept X7_kept_23
          rw [wi_b, if_pos cw, if_neg (by decide), day_y x2 o3 hd, if_neg (by decide), ref_b x4 o5, if_neg (by decide), if_neg hz, if_pos rfl, k1, bnd2_some]
          have g := k4 d hd
          rcases hb with rfl | rfl | rfl
          · rw [if_pos rfl, cx6 (by omega), clI (by omega), g]
          · rw [if_neg (by decide), if_pos rfl, cx6 (by omega), clI (by omega), g]
          · rw [if_neg (by decide), if_neg (by decide), if_pos rfl, cx6 (by omega), clI (by omega), g]
        · unfold X8_kept
          rw [in_c _ 0 2 _ _ _ (by decide) (by decide), if_pos cw, if_neg (by decide), m2, in_y hd (by omega), if_neg (by decide), m4, if_neg (nI_ne0 (by omega) (by omega)), k2, bnd2_some, cx6 (by omega), clI (by omega), k5 d hd]
    · refine ⟨-2, sx, sm, ?_, ?_, rel_idle hn h⟩
      · unfold X7_kept X7_kept_22 X7_kept_23
        rw [wi_b, if_pos cw, if_neg (by decide), day_n x2 o3 hd, if_pos rfl, ref_b x4 o5, if_pos rfl, if_neg (by decide)]
      · unfold X8_kept X8_kept_28
        rw [in_c _ 0 2 _ _ _ (by decide) (by decide), if_pos cw, if_neg (by decide), m2, in_n hd (by omega), if_pos rfl]
  · refine ⟨-2, sx, sm, ?_, ?_, rel_idle hn h⟩
    · unfold X7_kept X7_kept_22 X7_kept_23
      rw [wi_b, if_neg cw, if_pos rfl, ref_b x4 o5, if_pos rfl, if_neg (by decide)]
    · unfold X8_kept X8_kept_28
      rw [in_c _ 0 2 _ _ _ (by decide) (by decide), if_neg cw, if_pos rfl]
theorem sub_rng {a b : Int64} (ha : 0 ≤ a.toInt ∧ a.toInt < 2 ^ 61) (hb : 0 ≤ b.toInt ∧ b.toInt < 2 ^ 61) : -(2 ^ 62 : Int) < (a - b).toInt ∧ (a - b).toInt < 2 ^ 62 := by
  rw [Int64.toInt_sub, Int.bmod_eq_of_le (by omega) (by omega)]
  omega
theorem s_picks (n : Nat) (sx sm : Sg) (a0 a1 : Int32) (hn : n < 512) (h : Rel n sx sm) : ∃ (r : Int32) (sm9 : Sg), X7_picks a0 a1 sx = some r ∧ X8_picks a0 a1 sm = some (r, sm9) ∧ Rel (n + 1) sx sm9 := by
  obtain ⟨hn0, q, C, D, re, np, ns, hok, hVX, hVM, hPl, hT, hR, hE⟩ := id h
  obtain ⟨o1, o2, o3, o4, o5, o6, o7, o8, o9, o10, o11⟩ := id hok
  obtain ⟨x1, x2, x3, x4, x5, x6⟩ := id hVX
  obtain ⟨m1, m2, m3, m4, m5, m6⟩ := id hVM
  by_cases hs : ∃ i, i < ns ∧ a0 = nI i
  · obtain ⟨s, hs, rfl⟩ := hs
    by_cases hd : ∃ d, d < D ∧ a1 = nI d
    · obtain ⟨d, hd, rfl⟩ := hd
      by_cases hz : np = 0
      · refine ⟨-3, sm, ?_, ?_, rel_idle hn h⟩
        · unfold X7_picks
          rw [isS_y x5 hs (by omega), if_neg (by decide), day_y x2 o3 hd, ref_b x4 o5, if_neg (by decide), if_pos hz, if_neg (by decide)]
        · unfold X8_picks
          rw [mS_y m5 hs (by omega), if_neg (by decide), m2, in_y hd (by omega), if_neg (by decide), m4, if_pos (by rw [hz]; rfl)]
      · by_cases cw : q 4 s = -1
        · refine ⟨-5, sm, ?_, ?_, rel_idle hn h⟩
          · unfold X7_picks X7_picks_58
            rw [isS_y x5 hs (by omega), if_neg (by decide), day_y x2 o3 hd, ref_b x4 o5, if_neg (by decide), if_neg hz, if_pos rfl, isW_b (by omega), show sx.1 6 = q 4 from x6 4 (by decide), if_pos cw, if_pos rfl]
          · unfold X8_picks
            rw [mS_y m5 hs (by omega), if_neg (by decide), m2, in_y hd (by omega), if_neg (by decide), m4, if_neg (nI_ne0 (by omega) (by omega)), cx3 (by omega), clI (by omega), show sm.1 5 = q 4 from m6 4 (by decide), cw, if_neg (by decide)]
        · obtain ⟨wv', w1, w2⟩ := (o11 s hs).resolve_left cw
          obtain ⟨P, hP⟩ := pln_P hPl (by omega) o5
          obtain ⟨s1, b1, b2, b3⟩ := m_layPlan (st := sm)
          have hM1 : VM s1 q C D re np ns := hVM.keep (fun o ho => b2.1 o (by simp; omega))
          refine ⟨pkD q D P s d, s1, ?_, ?_, rel_keep hn hok hVX hVM hPl hT hR (edn_up hE o3) (fun _ _ => rfl) (b2.1 0 (by simp)) (fun o ho => b2.1 o (by simp; omega))⟩
          · unfold X7_picks X7_picks_58
            rw [isS_y x5 hs (by omega), if_neg (by decide), day_y x2 o3 hd, ref_b x4 o5, if_neg (by decide), if_neg hz, if_pos rfl, isW_b (by omega), show sx.1 6 = q 4 from x6 4 (by decide), if_neg cw, if_neg (by decide), x_dayPicked (P := P) hok hVX (fun d hd => ⟨(hP d (by omega)).1, (hP d (by omega)).2.2⟩) hs (by omega), bnd1_some]
          · unfold X8_picks
            rw [mS_y m5 hs (by omega), if_neg (by decide), m2, in_y hd (by omega), if_neg (by decide), m4, if_neg (nI_ne0 (by omega) (by omega)), cx3 (by omega), clI (by omega), show sm.1 5 = q 4 from m6 4 (by decide), w1, if_pos (nI_pos' (by omega)), b1, bnd1_some, m_pickOf (P := P) hok hM1 (fun d hd => ⟨by rw [b3 d (by omega)]; exact (hP d (by omega)).2.1, (hP d (by omega)).2.2⟩) hs (by omega), bnd1_some]
    · refine ⟨-2, sm, ?_, ?_, rel_idle hn h⟩
      · unfold X7_picks
        rw [isS_y x5 hs (by omega), if_neg (by decide), day_n x2 o3 hd, ref_b x4 o5, if_pos rfl, if_neg (by decide)]
      · unfold X8_picks
        rw [mS_y m5 hs (by omega), if_neg (by decide), m2, in_n hd (by omega), if_pos rfl]
  · refine ⟨-1, sm, ?_, ?_, rel_idle hn h⟩
    · unfold X7_picks
      rw [isS_n x5 hs (by omega), if_pos rfl]
    · unfold X8_picks
      rw [mS_n m5 hs (by omega), if_pos rfl]
