/-! rather -/
theorem s_rather (n : Nat) (sx sm : Sg) (hn : n < 512) (h : Rel n sx sm) : ∃ (r : Int32) (sx9 : Sg) (sm9 : Sg), X7_rather sx = some (r, sx9) ∧ X8_rather sm = some (r, sm9) ∧ Rel (n + 1) sx9 sm9 := by
  obtain ⟨hn0, q, C, D, re, np, ns, hok, hVX, hVM, hPl, hT, hR, hE⟩ := id h
  obtain ⟨o1, o2, o3, o4, o5, o6, o7⟩ := id hok
  obtain ⟨x1, x2, x3, x4, x5, x6⟩ := id hVX
  obtain ⟨m1, m2, m3, m4, m5, m6⟩ := id hVM
  by_cases hz : np = 0
  · refine ⟨-3, sx, sm, ?_, ?_, rel_idle hn h⟩
    · unfold X7_rather
      rw [ref_b x4 o5, if_neg (by decide), if_pos hz, if_neg (by decide)]
    · unfold X8_rather
      rw [m4, if_pos (by rw [hz]; rfl)]
  · have hp : 0 < np := by omega
    obtain ⟨s1, a1, a2, a3, a4, a5⟩ := x_findBest (by omega) hok hVX hE hp
    have hV1 : VX s1 q C D re np ns := hVX.keep (fun o h1 h2 => a4 o h1 (by omega))
    obtain ⟨s2, b1, b2, b3, b4, b5⟩ := x_findKept (by omega) hok hV1 a3 hp
    have hV2 : VX s2 q C D re np ns := hV1.keep (fun o h1 h2 => b4 o h1 (by simp [KI]; omega))
    obtain ⟨kl, hkl⟩ : ∃ z, z = (KP (vK q C D re ns) (fun _ => true) (plans D np) (-1, [])).2 := ⟨_, rfl⟩
    have hlt : ∀ d, d < D → kl.getD d 0 < np := by rw [hkl]; exact (keptS_ok hok hp).2.2
    have h62 : ∀ d, d < D → s2.1 62 d = nI (kl.getD d 0) := by rw [hkl]; exact b2.1.2
    obtain ⟨s3, c1, c2, c3⟩ := x_askByPlan (st := s2)
    have hV3 : VX s3 q C D re np ns := hV2.keep (fun o h1 h2 => c2.1 o (by simp [AI]; omega))
    obtain ⟨s4, d1, d2, d3⟩ := x_fillAsked (P := fun d _ => kl.getD d 0) hok hV3 (fun d hd m hm => ⟨by rw [c3 d (by omega) m hm]; exact h62 d hd, hlt d hd⟩)
    have hV4 : VX s4 q C D re np ns := hV3.keep (fun o h1 h2 => d2.1 o (by omega))
    obtain ⟨s5, e1, e2, e3⟩ := x_goByPlan (f := 0) (qp := 62) (P := fun d => kl.getD d 0) hok hV4 (fun d hd => ⟨by rw [d2.1 62 (by omega), c2.1 62 (by decide)]; exact h62 d hd, hlt d hd⟩) (by omega) (fun z => by omega)
    have hV5 : VX s5 q C D re np ns := hV4.keep (fun o h1 h2 => e2.1 o (by omega))
    have rB : ∀ d, d ≤ D → ∀ m, m < 13 → s5.2 (10 + d) m = BV q D re np ns (D - d) m := fun d hd m hm => by
      rw [e2.2 (10 + d) (by omega), d2.2 (10 + d) (by omega), c2.2 (10 + d) (by simp), b5 (10 + d) (by simp [KJ]; omega)]
      exact (a2 d hd m (by omega)).1
    have rT : ∀ d, d ≤ D → ∀ m, m < 13 → s5.2 (27 + d) m = PV q D re ns (fun d => kl.getD d 0) (D - d) m := fun d hd m hm => by
      rw [e2.2 (27 + d) (by omega)]
      exact d3 d hd m hm
    have rO : ∀ d, d ≤ D → ∀ m, m < 13 → s5.2 (44 + d) m = (fwD q ns (fun d => kl.getD d 0) C d).1 m := fun d hd m hm => (e3 d hd).1 m hm
    -- the reference
    obtain ⟨t1, f1, f2, f3⟩ := m_findBest hok hVM hp
    have hM1 : VM t1 q C D re np ns := hVM.keep (fun o ho => f2.1 o (by simp; omega))
    obtain ⟨t2, g1, g2, g3⟩ := m_findKept (x1 := 0) (val := vK q C D re ns) (ok := fun _ => true) hok hp hM1 (m_stepK hok (by decide)) (fun z => absurd z (by decide)) (fun _ => rfl)
    have hM2 : VM t2 q C D re np ns := hM1.keep (fun o ho => g2.1 o (by simp; omega))
    have h13 : ∀ d, d < D → t2.1 13 d = nI (kl.getD d 0) := by
      rw [hkl]
      rcases g3 with z | z
      · exact absurd z (keptS_ok hok hp).1
      · exact z
    obtain ⟨t3, ⟨i1, i2⟩, ie⟩ := loopU (L := fun k v (t : Sg) => X8_rather_22 k v t) (E := fun t => X8_rather_48 t) (fun i (t : Sg) => FL [11] [] t2 t ∧ ∀ d, d < i → t.1 11 d = nI (kl.getD d 0)) D
      (fun k i t hi ⟨p1, p2⟩ => by
        refine ⟨sI t 11 i (nI (kl.getD i 0)), ⟨p1.tr (sI_fl (by decide)), fun d hd => ?_⟩, ?_⟩
        · rw [sI_at]
          by_cases c : d = i
          · subst c; rw [if_pos ⟨rfl, rfl⟩]
          · rw [if_neg (by omega)]; exact p2 d (by omega)
        · show X8_rather_22b (X8_rather_22 k) (nI i) t = _
          unfold X8_rather_22b
          rw [p1.1 0 (by decide), hM2.2.1, if_neg (nI_ge hi (by omega)), cx6 (by omega), cx6 (by omega), nm_eq, nm_eq, clI (by omega), p1.1 13 (by decide), h13 i hi, nI_1])
      (fun k t ⟨p1, _⟩ => by
        show X8_rather_22b (X8_rather_22 k) (nI D) t = _
        unfold X8_rather_22b
        rw [p1.1 0 (by decide), hM2.2.1, if_pos (nI_le (Nat.le_refl D) (by omega))])
      D 0 FU t2 (Nat.zero_add D) (FU_gt (by omega)) ⟨FL.rf, fun d hd => by omega⟩
    have F3 : FL [9, 11, 13] [0, 7, 8, 10] sm t3 := ((f2.up (by simp) (by simp)).tr (g2.up (by simp) (by simp))).tr (i1.up (by simp) (by simp))
    have hM3 : VM t3 q C D re np ns := hVM.keep (fun o ho => F3.1 o (by simp; omega))
    have h8 : ∀ d, d ≤ D → ∀ m, m < 13 → t3.2 8 (13 * d + m) = BV q D re np ns (D - d) m := fun d hd m hm => by
      rw [i1.2 8 (by simp), g2.2 8 (by simp)]
      exact f3.1 d hd m hm
    have key : ∀ (j d kX kM : Nat) (t : Sg), d + j = D → j < kX → j < kM → FL [] [0, 7, 12] t3 t → ∃ r t', X7_rather_66 kX (nI d) s5 = some (r, s5) ∧ X8_rather_50 kM (nI d) t = some (r, t') ∧ FL [] [0, 7, 12] t3 t' := by
      intro j
      induction j with
      | zero =>
        intro d kX kM t hj hkX hkM hF
        obtain ⟨kX, rfl⟩ : ∃ k', kX = k' + 1 := ⟨kX - 1, by omega⟩
        obtain ⟨kM, rfl⟩ : ∃ k', kM = k' + 1 := ⟨kM - 1, by omega⟩
        refine ⟨-6, t, ?_, ?_, hF⟩
        · show X7_rather_66b (X7_rather_66 kX) (nI d) s5 = _
          unfold X7_rather_66b X7_rather_151
          rw [hV5.2.1, if_pos (nI_le (by omega) (by omega))]
        · show X8_rather_50b (X8_rather_50 kM) (nI d) t = _
          unfold X8_rather_50b X8_rather_129
          rw [hF.1 0 (by simp), hM3.2.1, if_pos (nI_le (by omega) (by omega))]
      | succ j ih =>
        intro d kX kM t hj hkX hkM hF
        obtain ⟨kX, rfl⟩ : ∃ k', kX = k' + 1 := ⟨kX - 1, by omega⟩
        obtain ⟨kM, rfl⟩ : ∃ k', kM = k' + 1 := ⟨kM - 1, by omega⟩
        have hMt : VM t q C D re np ns := hM3.keep (fun o ho => hF.1 o (by simp))
        have hPt : ∀ d, d < D → t.1 11 d = nI (kl.getD d 0) ∧ kl.getD d 0 < np := fun d hd => ⟨by rw [hF.1 11 (by simp)]; exact i2 d hd, hlt d hd⟩
        obtain ⟨u1, p1, p2, p3, p4⟩ := m_findOdds (e := d) (P := fun d => kl.getD d 0) hok hMt hPt (by omega)
        have hMu : VM u1 q C D re np ns := hMt.keep (fun o ho => p2.1 o (by simp))
        obtain ⟨u2, q1, q2, q3, q4⟩ := m_bringFrom (e := d) (P := fun d => kl.getD d 0) hok hMu (fun d hd => by rw [p2.1 11 (by simp)]; exact hPt d hd) (by omega)
        have hMu2 : VM u2 q C D re np ns := hMu.keep (fun o ho => q2.1 o (by simp))
        have F5 : FL [] [0, 7, 12] t3 u2 := (hF.tr (p2.up (by simp) (by simp))).tr (q2.up (by simp) (by simp))
        have v12 : ∀ m, m < 13 → u2.2 12 m = (fwD q ns (fun d => kl.getD d 0) C d).1 m := fun m hm => by rw [q2.2 12 (by simp)]; exact p4 m hm
        have v8 : ∀ m, m < 13 → u2.2 8 (13 * d + m) = BV q D re np ns (D - d) m := fun m hm => by rw [F5.2 8 (by simp)]; exact h8 d (by omega) m hm
        obtain ⟨r0, t0, n1, n2, n3⟩ := ih (d + 1) kX kM u2 (by omega) (by omega) (by omega) F5
        have inner : ∀ (i m fX fM : Nat), m + i = C + 1 → i < fX → i < fM → ∃ r t', X7_rather_79 (X7_rather_66 kX) (nI d) fX (nI m) s5 = some (r, s5) ∧ X8_rather_70 (X8_rather_50 kM) (nI d) fM (nI m) u2 = some (r, t') ∧ FL [] [0, 7, 12] t3 t' := by
          intro i
          induction i with
          | zero =>
            intro m fX fM hm hfX hfM
            obtain ⟨fX, rfl⟩ : ∃ k', fX = k' + 1 := ⟨fX - 1, by omega⟩
            obtain ⟨fM, rfl⟩ : ∃ k', fM = k' + 1 := ⟨fM - 1, by omega⟩
            refine ⟨r0, t0, ?_, ?_, n3⟩
            · show X7_rather_79b (X7_rather_66 kX) (X7_rather_79 (X7_rather_66 kX) (nI d) fX) (nI d) (nI m) s5 = _
              unfold X7_rather_79b X7_rather_145
              rw [hV5.1, if_pos (nI_lt (by omega) (by omega)), nm_eq, nI_1]; exact n1
            · show X8_rather_70b (X8_rather_50 kM) (X8_rather_70 (X8_rather_50 kM) (nI d) fM) (nI d) (nI m) u2 = _
              unfold X8_rather_70b X8_rather_123
              rw [hMu2.1, if_pos (nI_lt (by omega) (by omega)), nm_eq, nI_1]; exact n2
          | succ i ih2 =>
            intro m fX fM hm hfX hfM
            obtain ⟨fX, rfl⟩ : ∃ k', fX = k' + 1 := ⟨fX - 1, by omega⟩
            obtain ⟨fM, rfl⟩ : ∃ k', fM = k' + 1 := ⟨fM - 1, by omega⟩
            have hm13 : m < 13 := by omega
            obtain ⟨O, hO⟩ : ∃ z, z = (fwD q ns (fun d => kl.getD d 0) C d).1 m := ⟨_, rfl⟩
            obtain ⟨B, hB⟩ : ∃ z, z = BV q D re np ns (D - d) m := ⟨_, rfl⟩
            obtain ⟨T, hT'⟩ : ∃ z, z = PV q D re ns (fun d => kl.getD d 0) (D - d) m := ⟨_, rfl⟩
            have eX : X7_rather_79 (X7_rather_66 kX) (nI d) (fX + 1) (nI m) s5 = if ¬ 0 < O then X7_rather_79 (X7_rather_66 kX) (nI d) fX (nI (m + 1)) s5 else if ¬ T < B then X7_rather_79 (X7_rather_66 kX) (nI d) fX (nI (m + 1)) s5 else some ((100 * nI d) + nI m, s5) := by
              show X7_rather_79b (X7_rather_66 kX) (X7_rather_79 (X7_rather_66 kX) (nI d) fX) (nI d) (nI m) s5 = _
              unfold X7_rather_79b X7_rather_139 X7_rather_132
              simp only [lg_le0, nm_eq, nI_1]
              rw [hV5.1, if_neg (nI_nlt (by omega) (by omega)), cx7 (by omega), cx13 hm13, cx7 (by omega), cx13 hm13, cx7 (by omega), cx13 hm13, clI (by omega), clI (by omega), rO d (by omega) m hm13, rB d (by omega) m hm13, rT d (by omega) m hm13, ← hO, ← hB, ← hT']
            have eM : X8_rather_70 (X8_rather_50 kM) (nI d) (fM + 1) (nI m) u2 = if ¬ 0 < O then X8_rather_70 (X8_rather_50 kM) (nI d) fM (nI (m + 1)) u2 else if ¬ T < B then X8_rather_70 (X8_rather_50 kM) (nI d) fM (nI (m + 1)) u2 else some ((100 * nI d) + nI m, u2) := by
              show X8_rather_70b (X8_rather_50 kM) (X8_rather_70 (X8_rather_50 kM) (nI d) fM) (nI d) (nI m) u2 = _
              unfold X8_rather_70b X8_rather_117 X8_rather_110
              simp only [lg_le0, nm_eq, nI_1]
              rw [hMu2.1, if_neg (nI_nlt (by omega) (by omega)), cx13 hm13, ix13, cx91 (by omega), cx13 hm13, clI (by omega), clI (by omega), v12 m hm13, v8 m hm13, q4 m hm13, ← hO, ← hB, ← hT']
            rw [eX, eM]
            by_cases k1 : 0 < O
            · have nk1 : ¬ ¬ 0 < O := fun z => z k1
              rw [if_neg nk1, if_neg nk1]
              by_cases k2 : T < B
              · have nk2 : ¬ ¬ T < B := fun z => z k2
                rw [if_neg nk2, if_neg nk2]
                exact ⟨_, u2, rfl, rfl, F5⟩
              · rw [if_pos k2, if_pos k2]
                exact ih2 (m + 1) fX fM (by omega) (by omega) (by omega)
            · rw [if_pos k1, if_pos k1]
              exact ih2 (m + 1) fX fM (by omega) (by omega) (by omega)
        obtain ⟨r, t', w1, w2, w3⟩ := inner (C + 1) 0 FU FU (by omega) (FU_gt (by omega)) (FU_gt (by omega))
        refine ⟨r, t', ?_, ?_, w3⟩
        · show X7_rather_66b (X7_rather_66 kX) (nI d) s5 = _
          unfold X7_rather_66b
          rw [hV5.2.1, if_neg (nI_ge (by omega) (by omega)), show (0 : Int32) = nI 0 from rfl]; exact w1
        · show X8_rather_50b (X8_rather_50 kM) (nI d) t = _
          unfold X8_rather_50b
          rw [hMt.2.1, if_neg (nI_ge (by omega) (by omega)), p1, bnd1_some, q1, bnd1_some, show (0 : Int32) = nI 0 from rfl]; exact w2
    obtain ⟨r, t', r1, r2, r3⟩ := key D 0 FU FU t3 (by omega) (FU_gt (by omega)) (FU_gt (by omega)) FL.rf
    refine ⟨r, s5, t', ?_, ?_, rel_keep hn hok hVX hVM hPl hT hR (edn_up (edn_keep0 b3 ?_ ?_ o3 (fun o ho => ?_)) o3) (fun o ho => ?_) (by rw [r3.1 0 (by simp), F3.1 0 (by simp)]) (fun o ho => by rw [r3.1 o (by simp), F3.1 o (by simp; omega)])⟩
    · unfold X7_rather
      rw [ref_b x4 o5, if_neg (by decide), if_neg hz, if_pos rfl, a1, bnd1_some, b1, bnd1_some, c1, bnd1_some, d1, bnd1_some, show (0 : Int32) = nI 0 from rfl, e1, bnd1_some]
      exact r1
    · unfold X8_rather
      rw [m4, if_neg (nI_ne0 (by omega) (by omega)), f1, bnd1_some, g1, bnd2_some, show (0 : Int32) = nI 0 from rfl]
      refine ie.trans ?_
      show X8_rather_48 t3 = _
      unfold X8_rather_48
      rw [show (0 : Int32) = nI 0 from rfl]
      exact r2
    · rw [e2.1 0 (by omega), d2.1 0 (by omega), c2.1 0 (by decide)]
    · rw [e2.1 1 (by omega), d2.1 1 (by omega), c2.1 1 (by decide)]
    · refine ⟨?_, ?_⟩
      · rw [e2.1 o (by omega), d2.1 o (by omega), c2.1 o (by simp [AI]; omega)]
      · rw [e2.2 o (by omega), d2.2 o (by omega), c2.2 o (by simp)]
    · rw [e2.1 o (by omega), d2.1 o (by omega), c2.1 o (by simp [AI]; omega), b4 o (by omega) (by simp [KI]; omega), a4 o (by omega) (by omega)]
