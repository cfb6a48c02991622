theorem prc_v {c : Int32} (h : prc c) : ∃ v : Nat, c - 48 = nI v ∧ v ≤ 4 := by
  obtain ⟨u, rfl, u1, u2⟩ := of_rng (a := 48) (b := 52) rfl rfl (by decide) (by decide) h.1 h.2
  exact ⟨u - 48, by rw [show (48 : Int32) = nI 48 from rfl, pk_sub u1], by omega⟩
theorem prc_dig {c : Int32} (h : prc c) : dig c := ⟨h.1, Int32.le_trans h.2 (by decide)⟩
theorem num0 (c : Int32) : (10 * (0 : Int32)) + c - 48 = c - 48 := by grind
theorem r_loop {t : Nat → Int32} {k : Nat} (hk : k ≤ 40) : ∀ (j i a nc : Nat) (num : Int32) (fX fM : Nat) (tx tm : Sg), i + j = k → j < fX → j < fM → a ≤ 7 → flt t k j i a = none → tx.1 67 1 = nI k → tx.1 68 = t → tm.1 0 20 = nI k → tm.1 14 = t → tx.1 69 1 = nI nc → tm.1 0 25 = nI nc → 6 * nc + off a ≤ i → CE nc tx tm → RS a nc num tx tm →
    ∃ (tx' tm' : Sg) (nc' lp : Nat), X2_read_14 fX (nI a) (nI i) tx = some tx' ∧ X8_rule_19 fM num (nI i) tm = X8_rule_149 (nI lp) tm' ∧ lp ≤ 4 ∧ nc' ≤ 6 ∧ tx'.1 69 1 = nI nc' ∧ tm'.1 0 25 = nI nc' ∧ tx'.1 69 6 = nI lp ∧ CE nc' tx' tm' ∧ FL RI [] tx tx' ∧ tx'.1 69 0 = tx.1 69 0 ∧ FL RM [] tm tm' ∧ ∀ j, j ≠ 25 → tm'.1 0 j = tm.1 0 j := by
  intro j
  induction j with
  | zero =>
    intro i a nc num fX fM tx tm hij hfX hfM ha hfl h67 h68 h20 h14 h69 h25 hoff hCE hRS
    obtain ⟨fX, rfl⟩ : ∃ k', fX = k' + 1 := ⟨fX - 1, by omega⟩
    obtain ⟨fM, rfl⟩ : ∃ k', fM = k' + 1 := ⟨fM - 1, by omega⟩
    have h7 : a = 7 := by
      unfold flt at hfl
      by_cases c : a = 7
      · exact c
      · rw [if_neg c] at hfl; simp at hfl
    obtain ⟨v, v1, v2, v3⟩ := hRS.2.2.2.2.2.2 h7
    refine ⟨tx, tm, nc, v, ?_, ?_, v3, by omega, h69, h25, v2, hCE, FL.rf, rfl, FL.rf, fun _ _ => rfl⟩
    · show X2_read_14b (X2_read_14 fX) (nI a) (nI i) tx = _
      unfold X2_read_14b X2_read_102
      rw [h67, if_pos (nI_le (by omega) (by omega))]
    · show X8_rule_19b (X8_rule_19 fM) num (nI i) tm = _
      unfold X8_rule_19b
      rw [h20, if_pos (nI_le (by omega) (by omega)), v1]
  | succ j ih =>
    intro i a nc num fX fM tx tm hij hfX hfM ha hfl h67 h68 h20 h14 h69 h25 hoff hCE hRS
    obtain ⟨fX, rfl⟩ : ∃ k', fX = k' + 1 := ⟨fX - 1, by omega⟩
    obtain ⟨fM, rfl⟩ : ∃ k', fM = k' + 1 := ⟨fM - 1, by omega⟩
    unfold flt at hfl
    by_cases c8 : fol a (t i) = 8
    · rw [if_pos c8] at hfl; simp at hfl
    rw [if_neg c8] at hfl
    have hle := fol_le (a := a) (c := t i)
    have hr := flt_rem j (i + 1) (fol a (t i)) (by omega) hfl
    obtain ⟨c, hc⟩ : ∃ z, z = t i := ⟨_, rfl⟩
    rw [← hc] at hfl hr c8 hle
    have hxc : tx.1 68 i = c := by rw [h68, hc]
    have hmc : tm.1 14 i = c := by rw [h14, hc]
    have hi : i < k := by omega
    have go : ∀ (nc1 : Nat) (num1 : Int32) (tx1 tm1 : Sg), X2_read_14 (fX + 1) (nI a) (nI i) tx = X2_read_14 fX (nI (fol a c)) (nI (i + 1)) tx1 → X8_rule_19 (fM + 1) num (nI i) tm = X8_rule_19 fM num1 (nI (i + 1)) tm1 → FL RI [] tx tx1 → tx1.1 69 0 = tx.1 69 0 → FL RM [] tm tm1 → (∀ j, j ≠ 25 → tm1.1 0 j = tm.1 0 j) → tx1.1 69 1 = nI nc1 → tm1.1 0 25 = nI nc1 → 6 * nc1 + off (fol a c) ≤ i + 1 → CE nc1 tx1 tm1 → RS (fol a c) nc1 num1 tx1 tm1 →
        ∃ (tx' tm' : Sg) (nc' lp : Nat), X2_read_14 (fX + 1) (nI a) (nI i) tx = some tx' ∧ X8_rule_19 (fM + 1) num (nI i) tm = X8_rule_149 (nI lp) tm' ∧ lp ≤ 4 ∧ nc' ≤ 6 ∧ tx'.1 69 1 = nI nc' ∧ tm'.1 0 25 = nI nc' ∧ tx'.1 69 6 = nI lp ∧ CE nc' tx' tm' ∧ FL RI [] tx tx' ∧ tx'.1 69 0 = tx.1 69 0 ∧ FL RM [] tm tm' ∧ ∀ j, j ≠ 25 → tm'.1 0 j = tm.1 0 j := by
      intro nc1 num1 tx1 tm1 e1 e2 f1 f2 f3 f4 g1 g2 g3 g4 g5
      obtain ⟨tx', tm', nc', lp, w1, w2, w3, w4, w5, w6, w7, w8, w9, w10, w11, w12⟩ := ih (i + 1) (fol a c) nc1 num1 fX fM tx1 tm1 (by omega) (by omega) (by omega) (by omega) hfl (by rw [f1.1 67 (by decide)]; exact h67) (by rw [f1.1 68 (by decide)]; exact h68) (by rw [f4 20 (by decide)]; exact h20) (by rw [f3.1 14 (by decide)]; exact h14) g1 g2 g3 g4 g5
      exact ⟨tx', tm', nc', lp, e1.trans w1, e2.trans w2, w3, w4, w5, w6, w7, w8, f1.tr w9, w10.trans f2, f3.tr w11, fun j hj => (w12 j hj).trans (f4 j hj)⟩
    obtain ⟨r1, r2, r3, r4, r5, r6, r7⟩ := hRS
    rcases fol_ok ha c8 with ⟨rfl, p, e⟩ | ⟨rfl, np, p, e⟩ | ⟨rfl, p, e⟩ | ⟨rfl, p, e⟩ | ⟨rfl, p, e⟩ | ⟨rfl, np, p, e⟩ | ⟨rfl, p, e⟩ | ⟨rfl, p, e⟩ | ⟨rfl, p, e⟩
    · -- a fact
      rw [e] at hr
      have hr6 : 6 ≤ j := hr
      have hof : 6 * nc + 0 ≤ i := hoff
      have h6 : nc < 6 := by omega
      have st := xr_step (k := fX) (a := 0) (c := c) (by omega) hi hk (Or.inl h6) h67 h69 hxc
      have ex : xrd 0 nc c tx = sI tx 70 nc c := if_pos p
      rw [ex] at st
      have hn0 : num = 0 := r1 (by omega)
      refine go nc 0 (sI tx 70 nc c) (sI tm 15 nc c) st (by rw [mr_fact hi hk (by omega) h20 h25 hmc p, hn0]) (sI_fl (by decide)) (by rw [sI_ne (by decide)]) (sI_fl (by decide)) (fun j _ => by rw [sI_ne (by decide)]) (by rw [sI_ne (by decide)]; exact h69) (by rw [sI_ne (by decide)]; exact h25) (by rw [e]; show 6 * nc + 1 ≤ i + 1; omega) (hCE.keep (fun o _ _ k hk => by rw [sI_at, if_neg (by omega)]) (fun o _ _ k hk => by rw [sI_at, if_neg (by omega)])) ?_
      rw [e]
      exact ⟨fun _ => rfl, fun _ _ => by rw [sIs, sIs], fun h => by omega, fun h => by omega, fun h => by omega, fun h => by omega, fun h => by omega⟩
    · -- the last number
      have st := xr_step (k := fX) (a := 0) (c := c) (by omega) hi hk (Or.inr ⟨rfl, np⟩) h67 h69 hxc
      have ex : xrd 0 nc c tx = sI tx 69 6 (c - 48) := if_neg np
      rw [ex] at st
      have hn0 : num = 0 := r1 (by omega)
      have hof : 6 * nc + 0 ≤ i := hoff
      obtain ⟨v, v1, v2⟩ := prc_v p
      refine go nc (nI v) (sI tx 69 6 (c - 48)) tm st (by rw [mr_dig (nc := nc) hi hk h20 hmc (prc_dig p), hn0, num0, v1]) (sI_fl (by decide)) (by rw [sI_at, if_neg (by decide)]) FL.rf (fun _ _ => rfl) (by rw [sI_at, if_neg (by decide)]; exact h69) h25 (by rw [e]; show 6 * nc + 1 ≤ i + 1; omega) (hCE.keep (fun o _ _ k hk => by rw [sI_ne (by omega)]) (fun o _ _ k hk => rfl)) ?_
      rw [e]
      exact ⟨fun h => by omega, fun _ h => by omega, fun _ h => by omega, fun h => by omega, fun h => by omega, fun h => by omega, fun _ => ⟨v, rfl, by rw [sIs, v1], v2⟩⟩
    · -- a compare
      rw [e] at hr
      have hr6 : 5 ≤ j := hr
      have hof : 6 * nc + 1 ≤ i := hoff
      have h6 : nc < 6 := by omega
      have st := xr_step (k := fX) (a := 1) (c := c) (by omega) hi hk (Or.inl h6) h67 h69 hxc
      have ex : xrd 1 nc c tx = sI tx 71 nc c := rfl
      rw [ex] at st
      have hn0 : num = 0 := r1 (by omega)
      refine go nc 0 (sI tx 71 nc c) (sI tm 16 nc c) st (by rw [mr_how hi hk (by omega) h20 h25 hmc p, hn0]) (sI_fl (by decide)) (by rw [sI_ne (by decide)]) (sI_fl (by decide)) (fun j _ => by rw [sI_ne (by decide)]) (by rw [sI_ne (by decide)]; exact h69) (by rw [sI_ne (by decide)]; exact h25) (by rw [e]; show 6 * nc + 2 ≤ i + 1; omega) (hCE.keep (fun o _ _ k hk => by rw [sI_at, if_neg (by omega)]) (fun o _ _ k hk => by rw [sI_at, if_neg (by omega)])) ?_
      rw [e]
      exact ⟨fun _ => rfl, fun _ _ => by rw [sI_ne (by decide), sI_ne (by decide)]; exact r2 (by omega) (by omega), fun _ _ => by rw [sIs, sIs], fun h => by omega, fun h => by omega, fun h => by omega, fun h => by omega⟩
    · -- a first digit
      rw [e] at hr
      have hr6 : 4 ≤ j := hr
      have hof : 6 * nc + 2 ≤ i := hoff
      have h6 : nc < 6 := by omega
      have st := xr_step (k := fX) (a := 2) (c := c) (by omega) hi hk (Or.inl h6) h67 h69 hxc
      have ex : xrd 2 nc c tx = sI tx 72 nc (c - 48) := rfl
      rw [ex] at st
      have hn0 : num = 0 := r1 (by omega)
      refine go nc (c - 48) (sI tx 72 nc (c - 48)) tm st (by rw [mr_dig (nc := nc) hi hk h20 hmc p, hn0, num0]) (sI_fl (by decide)) (by rw [sI_ne (by decide)]) FL.rf (fun _ _ => rfl) (by rw [sI_ne (by decide)]; exact h69) h25 (by rw [e]; show 6 * nc + 3 ≤ i + 1; omega) (hCE.keep (fun o _ _ k hk => by rw [sI_at, if_neg (by omega)]) (fun o _ _ k hk => rfl)) ?_
      rw [e]
      exact ⟨fun h => by omega, fun _ _ => by rw [sI_ne (by decide)]; exact r2 (by omega) (by omega), fun _ _ => by rw [sI_ne (by decide)]; exact r3 (by omega) (by omega), fun _ => by rw [sIs], fun h => by omega, fun h => by omega, fun h => by omega⟩
    · -- a second digit
      rw [e] at hr
      have hr6 : 4 ≤ j := hr
      have hof : 6 * nc + 3 ≤ i := hoff
      have h6 : nc < 6 := by omega
      have st := xr_step (k := fX) (a := 3) (c := c) (by omega) hi hk (Or.inl h6) h67 h69 hxc
      have ex : xrd 3 nc c tx = sI tx 72 nc (((tx.1 72 nc) * 10) + c - 48) := if_pos p
      rw [ex] at st
      have hn0 : num = tx.1 72 nc := r4 (by omega)
      have en : (10 * num) + c - 48 = ((tx.1 72 nc) * 10) + c - 48 := by rw [hn0]; grind
      refine go nc (((tx.1 72 nc) * 10) + c - 48) (sI tx 72 nc (((tx.1 72 nc) * 10) + c - 48)) tm st (by rw [mr_dig (nc := nc) hi hk h20 hmc p, en]) (sI_fl (by decide)) (by rw [sI_ne (by decide)]) FL.rf (fun _ _ => rfl) (by rw [sI_ne (by decide)]; exact h69) h25 (by rw [e]; show 6 * nc + 4 ≤ i + 1; omega) (hCE.keep (fun o _ _ k hk => by rw [sI_at, if_neg (by omega)]) (fun o _ _ k hk => rfl)) ?_
      rw [e]
      exact ⟨fun h => by omega, fun _ _ => by rw [sI_ne (by decide)]; exact r2 (by omega) (by omega), fun _ _ => by rw [sI_ne (by decide)]; exact r3 (by omega) (by omega), fun _ => by rw [sIs], fun h => by omega, fun h => by omega, fun h => by omega⟩
    · -- a colon behind one digit
      rw [e] at hr
      have hr6 : 3 ≤ j := hr
      have hof : 6 * nc + 3 ≤ i := hoff
      have h6 : nc < 6 := by omega
      have st := xr_step (k := fX) (a := 3) (c := c) (by omega) hi hk (Or.inl h6) h67 h69 hxc
      have ex : xrd 3 nc c tx = tx := if_neg np
      rw [ex] at st
      have hn0 : num = tx.1 72 nc := r4 (by omega)
      rw [p] at hmc
      refine go nc 0 tx (sI tm 17 nc num) st (mr_col hi hk (by omega) h20 h25 hmc) FL.rf rfl (sI_fl (by decide)) (fun j _ => by rw [sI_ne (by decide)]) h69 (by rw [sI_ne (by decide)]; exact h25) (by rw [e]; show 6 * nc + 4 ≤ i + 1; omega) (hCE.keep (fun o _ _ k hk => rfl) (fun o _ _ k hk => by rw [sI_at, if_neg (by omega)])) ?_
      rw [e]
      exact ⟨fun _ => rfl, fun _ _ => by rw [sI_ne (by decide)]; exact r2 (by omega) (by omega), fun _ _ => by rw [sI_ne (by decide)]; exact r3 (by omega) (by omega), fun h => by omega, fun _ => by rw [sIs]; exact hn0, fun h => by omega, fun h => by omega⟩
    · -- a colon behind two
      rw [e] at hr
      have hr6 : 3 ≤ j := hr
      have hof : 6 * nc + 4 ≤ i := hoff
      have h6 : nc < 6 := by omega
      have st := xr_step (k := fX) (a := 4) (c := c) (by omega) hi hk (Or.inl h6) h67 h69 hxc
      have ex : xrd 4 nc c tx = tx := rfl
      rw [ex] at st
      have hn0 : num = tx.1 72 nc := r4 (by omega)
      rw [p] at hmc
      refine go nc 0 tx (sI tm 17 nc num) st (mr_col hi hk (by omega) h20 h25 hmc) FL.rf rfl (sI_fl (by decide)) (fun j _ => by rw [sI_ne (by decide)]) h69 (by rw [sI_ne (by decide)]; exact h25) (by rw [e]; show 6 * nc + 4 ≤ i + 1; omega) (hCE.keep (fun o _ _ k hk => rfl) (fun o _ _ k hk => by rw [sI_at, if_neg (by omega)])) ?_
      rw [e]
      exact ⟨fun _ => rfl, fun _ _ => by rw [sI_ne (by decide)]; exact r2 (by omega) (by omega), fun _ _ => by rw [sI_ne (by decide)]; exact r3 (by omega) (by omega), fun h => by omega, fun _ => by rw [sIs]; exact hn0, fun h => by omega, fun h => by omega⟩
    · -- a number
      rw [e] at hr
      have hr6 : 2 ≤ j := hr
      have hof : 6 * nc + 4 ≤ i := hoff
      have h6 : nc < 6 := by omega
      have st := xr_step (k := fX) (a := 5) (c := c) (by omega) hi hk (Or.inl h6) h67 h69 hxc
      have ex : xrd 5 nc c tx = sI tx 73 nc (c - 48) := rfl
      rw [ex] at st
      have hn0 : num = 0 := r1 (by omega)
      obtain ⟨v, v1, v2⟩ := prc_v p
      refine go nc (nI v) (sI tx 73 nc (c - 48)) tm st (by rw [mr_dig (nc := nc) hi hk h20 hmc (prc_dig p), hn0, num0, v1]) (sI_fl (by decide)) (by rw [sI_ne (by decide)]) FL.rf (fun _ _ => rfl) (by rw [sI_ne (by decide)]; exact h69) h25 (by rw [e]; show 6 * nc + 5 ≤ i + 1; omega) (hCE.keep (fun o _ _ k hk => by rw [sI_at, if_neg (by omega)]) (fun o _ _ k hk => rfl)) ?_
      rw [e]
      exact ⟨fun h => by omega, fun _ _ => by rw [sI_ne (by decide)]; exact r2 (by omega) (by omega), fun _ _ => by rw [sI_ne (by decide)]; exact r3 (by omega) (by omega), fun h => by omega, fun _ => by rw [sI_ne (by decide)]; exact r5 (by omega), fun _ => ⟨v, rfl, by rw [sIs, v1], v2⟩, fun h => by omega⟩
    · -- a semicolon
      have hof : 6 * nc + 5 ≤ i := hoff
      have h6 : nc < 6 := by omega
      have st := xr_step (k := fX) (a := 6) (c := c) (by omega) hi hk (Or.inl h6) h67 h69 hxc
      have ex : xrd 6 nc c tx = sI tx 69 1 (nI (nc + 1)) := rfl
      rw [ex] at st
      rw [p] at hmc
      obtain ⟨v, v1, v2, v3⟩ := r6 (by omega)
      refine go (nc + 1) 0 (sI tx 69 1 (nI (nc + 1))) (sI (sI tm 18 nc num) 0 25 (nI (nc + 1))) st (mr_sem hi hk (by omega) h20 h25 hmc) (sI_fl (by decide)) (by rw [sI_at, if_neg (by decide)]) ((sI_fl (by decide)).tr (sI_fl (by decide))) (fun j hj => by rw [sI_at, if_neg (fun z => hj z.2), sI_ne (by decide)]) sIs sIs (by rw [e]; show 6 * (nc + 1) + 0 ≤ i + 1; omega) ?_ ?_
      · intro m hm
        have gX : ∀ o, o ≠ 69 → (sI tx 69 1 (nI (nc + 1))).1 o = tx.1 o := fun o ho => sI_ne ho
        have gM : ∀ o, o ≠ 0 → (sI (sI tm 18 nc num) 0 25 (nI (nc + 1))).1 o = (sI tm 18 nc num).1 o := fun o ho => sI_ne ho
        have gN : ∀ o, o ≠ 0 → o ≠ 18 → (sI (sI tm 18 nc num) 0 25 (nI (nc + 1))).1 o = tm.1 o := fun o ho h18 => by rw [sI_ne ho, sI_ne h18]
        rw [gN 15 (by decide) (by decide), gN 16 (by decide) (by decide), gN 17 (by decide) (by decide), gM 18 (by decide), gX 70 (by decide), gX 71 (by decide), gX 72 (by decide), gX 73 (by decide)]
        by_cases ce : m = nc
        · subst ce
          refine ⟨r2 (by omega) (by omega), r3 (by omega) (by omega), r5 (by omega), by rw [sIs, v1, v2], v, v2, v3⟩
        · rw [sIn ce]
          exact hCE m (by omega)
      · rw [e]
        exact ⟨fun _ => rfl, fun h => by omega, fun h => by omega, fun h => by omega, fun h => by omega, fun h => by omega, fun h => by omega⟩
