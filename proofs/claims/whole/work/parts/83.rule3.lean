/-! rule -/
theorem flt_le {t : Nat → Int32} {k p : Nat} : ∀ (j i a : Nat), i + j = k → flt t k j i a = some p → p ≤ k := by
  intro j
  induction j with
  | zero =>
    intro i a hi h
    unfold flt at h
    by_cases c : a = 7
    · rw [if_pos c] at h; simp at h
    · rw [if_neg c] at h; simp at h; omega
  | succ j ih =>
    intro i a hi h
    unfold flt at h
    by_cases c : fol a (t i) = 8
    · rw [if_pos c] at h; simp at h; omega
    · rw [if_neg c] at h
      exact ih (i + 1) _ (by omega) h
theorem s_rule (n : Nat) (sx sm : Sg) (hn : n < 512) (h : Rel n sx sm) : ∃ (r : Int32) (sx9 : Sg) (sm9 : Sg), X7_rule sx = some (r, sx9) ∧ X8_rule sm = some (r, sm9) ∧ Rel (n + 1) sx9 sm9 := by
  obtain ⟨hn0, q, C, D, re, np, ns, hok, hVX, hVM, hPl, ⟨t, k, k1, k2, k3, k4, k5⟩, hR, hE⟩ := id h
  have eX := x_faultP k1 k2 k4
  have eM := m_faultP k1 k3 k5
  rcases hf : flt t k k 0 0 with _ | p
  · rw [hf] at eX eM
    obtain ⟨sx1, hsx1⟩ : ∃ z, z = sI (sI sx 69 0 1) 69 1 0 := ⟨_, rfl⟩
    obtain ⟨sm1, hsm1⟩ : ∃ z, z = sI sm 0 25 0 := ⟨_, rfl⟩
    have fx1 : FL RI [] sx sx1 := by rw [hsx1]; exact (sI_fl (by decide)).tr (sI_fl (by decide))
    have fm1 : FL RM [] sm sm1 := by rw [hsm1]; exact sI_fl (by decide)
    have gm1 : ∀ j, j ≠ 25 → sm1.1 0 j = sm.1 0 j := fun j hj => by rw [hsm1, sIn hj]
    obtain ⟨tx, tm, nc, lp, w1, w2, w3, w4, w5, w6, w7, w8, w9, w10, w11, w12⟩ := r_loop (t := t) k1 k 0 0 0 0 FU FU sx1 sm1 (by omega) (FU_gt (by omega)) (FU_gt (by omega)) (by omega) hf (by rw [fx1.1 67 (by decide)]; exact k2) (by rw [fx1.1 68 (by decide)]; exact k4) (by rw [gm1 20 (by decide)]; exact k3) (by rw [fm1.1 14 (by decide)]; exact k5) (by rw [hsx1, sIs]; rfl) (by rw [hsm1, sIs]; rfl) (by decide) (fun k hk => by omega) ⟨fun _ => rfl, fun h => by omega, fun h => by omega, fun h => by omega, fun h => by omega, fun h => by omega, fun h => by omega⟩
    have w1' : X2_read_14 FU 0 0 sx1 = some tx := w1
    have w2' : X8_rule_19 FU 0 0 sm1 = X8_rule_149 (nI lp) tm := w2
    have FX : FL RI [] sx tx := fx1.tr w9
    have FM : FL RM [] sm tm := fm1.tr w11
    have GM : ∀ j, j ≠ 25 → tm.1 0 j = sm.1 0 j := fun j hj => (w12 j hj).trans (gm1 j hj)
    have g : ∀ j, j ≠ 25 → j ≠ 26 → j ≠ 20 → (sI (sI tm 0 26 (nI lp)) 0 20 0).1 0 j = sm.1 0 j := fun j a b c => by rw [sIn c, sIn b, GM j a]
    have gX : ∀ o, o ≠ 67 → (sI tx 67 1 0).1 o = tx.1 o := fun o ho => sI_ne ho
    have gM : ∀ o, o ≠ 0 → (sI (sI tm 0 26 (nI lp)) 0 20 0).1 o = tm.1 o := fun o ho => by rw [sI_ne ho, sI_ne ho]
    refine ⟨nI nc, sI tx 67 1 0, sI (sI tm 0 26 (nI lp)) 0 20 0, ?_, ?_, ?_⟩
    · unfold X7_rule X2_read
      rw [eX, bnd1_some, if_pos (show fI none = (-6 : Int32) from rfl), nm_eq, nm_eq, ← hsx1, w1', bnd1_some, nm_eq, gX 69 (by decide), w5]
    · unfold X8_rule
      rw [eM, bnd1_some, if_pos (show fI none < (0 : Int32) by decide), nm_eq, ← hsm1, w2']
      unfold X8_rule_149
      rw [nm_eq, nm_eq, sIn (by decide), sIn (by decide), w6]
    · refine ⟨by omega, q, C, D, re, np, ns, hok, hVX.keep (fun o h1 h2 => ?_), ?_, ?_, ?_, ?_, ?_⟩
      · rw [gX o (by omega), FX.1 o (by simp [RI]; omega)]
      · obtain ⟨m1, m2, m3, m4, m5, m6⟩ := hVM
        exact ⟨by rw [g 0 (by decide) (by decide) (by decide)]; exact m1, by rw [g 1 (by decide) (by decide) (by decide)]; exact m2, by rw [g 2 (by decide) (by decide) (by decide)]; exact m3, by rw [g 4 (by decide) (by decide) (by decide)]; exact m4, by rw [g 9 (by decide) (by decide) (by decide)]; exact m5, fun i hi => by rw [gM (1 + i) (by omega), FM.1 (1 + i) (by simp [RM]; omega)]; exact m6 i hi⟩
      · unfold Pln
        rw [gM 6 (by decide), gX 7 (by decide), FM.1 6 (by decide), FX.1 7 (by decide)]
        exact hPl
      · exact ⟨t, 0, by omega, sIs, sIs, by rw [gX 68 (by decide), FX.1 68 (by decide)]; exact k4, by rw [gM 14 (by decide), FM.1 14 (by decide)]; exact k5⟩
      · refine Or.inr ⟨by rw [gX 69 (by decide), w10, hsx1, sIn (by decide), sIs], nc, lp, w4, w3, by rw [gX 69 (by decide)]; exact w5, by rw [sIn (by decide), sIn (by decide)]; exact w6, by rw [gX 69 (by decide)]; exact w7, by rw [sIn (by decide), sIs], fun j hj => ?_⟩
        rw [gM 15 (by decide), gM 16 (by decide), gM 17 (by decide), gM 18 (by decide), gX 70 (by decide), gX 71 (by decide), gX 72 (by decide), gX 73 (by decide)]
        exact w8 j hj
      · refine edn_keep hE ?_ ?_ hok.2.2.1 (fun o ho => ⟨?_, ?_⟩)
        · rw [gX 0 (by decide), FX.1 0 (by decide)]
        · rw [gX 1 (by decide), FX.1 1 (by decide)]
        · rw [gX o (by omega), FX.1 o (by simp [RI]; omega)]
        · rw [sI_2, FX.2 o (by simp)]
  · rw [hf] at eX eM
    have hp := flt_le k 0 0 (by omega) hf
    have h0 : ¬ nI p < 0 := nI_pos (by omega)
    refine ⟨-5, sx, sm, ?_, ?_, rel_idle hn h⟩
    · unfold X7_rule
      rw [eX, bnd1_some, if_neg (show ¬ fI (some p) = (-6 : Int32) from fun z => h0 (by rw [show nI p = (-6 : Int32) from z]; decide))]
    · unfold X8_rule
      rw [eM, bnd1_some, if_neg (show ¬ fI (some p) < (0 : Int32) from h0)]
