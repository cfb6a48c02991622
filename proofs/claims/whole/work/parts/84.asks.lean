/-! what the boy asks -/
def soB (w to v : Int32) : Bool := if w = 60 then decide (¬ to ≤ v) else if w = 62 then decide (¬ v ≤ to) else decide (v = to)
def askG (F W N V : Nat → Int32) (d n : Int32) : Nat → Int32 → Int32
  | 0, a => a
  | k + 1, a => askG F W N V d n k (if soB (W k) (N k) (if F k = 108 then n else d) = true then V k else a)
theorem askG_y {F W N V : Nat → Int32} {d n a : Int32} {i : Nat} (c : F i = 108) : askG F W N V d n (i + 1) a = askG F W N V d n i (if soB (W i) (N i) n = true then V i else a) := by
  show askG F W N V d n i (if soB (W i) (N i) (if F i = 108 then n else d) = true then V i else a) = _
  rw [if_pos c]
theorem askG_n {F W N V : Nat → Int32} {d n a : Int32} {i : Nat} (c : ¬ F i = 108) : askG F W N V d n (i + 1) a = askG F W N V d n i (if soB (W i) (N i) d = true then V i else a) := by
  show askG F W N V d n i (if soB (W i) (N i) (if F i = 108 then n else d) = true then V i else a) = _
  rw [if_neg c]
theorem askG_bd {F W N V : Nat → Int32} {d n : Int32} : ∀ (i : Nat) (a : Int32), (∀ j, j < i → ∃ v : Nat, V j = nI v ∧ v ≤ 4) → (∃ v : Nat, a = nI v ∧ v ≤ 4) → ∃ v : Nat, askG F W N V d n i a = nI v ∧ v ≤ 4 := by
  intro i
  induction i with
  | zero => intro a _ h; exact h
  | succ i ih =>
    intro a hV h
    refine ih _ (fun j hj => hV j (by omega)) ?_
    by_cases c : soB (W i) (N i) (if F i = 108 then n else d) = true
    · rw [if_pos c]; exact hV i (by omega)
    · rw [if_neg c]; exact h
theorem x_isSo {st : Sg} {i : Nat} {v : Int32} (hi : i < 6) : X2_isSo (nI i) v st = some (if soB (st.1 71 i) (st.1 72 i) v = true then 1 else 0) := by
  have cx : ∀ {α : Type} {k : Option α}, cix (nI i) 6 k = k := fun {α} {k} => cix_nI hi (by decide)
  have cl : (nI i).toNatClampNeg = i := clI (by omega)
  unfold X2_isSo X2_isSo_47 X2_isSo_63 X2_isSo_79 soB
  simp only [cx, cl, cb01_0, cb01_1]
  by_cases c1 : st.1 71 i = 60
  · by_cases c2 : st.1 72 i ≤ v <;> simp [c1, c2]
  · by_cases c2 : st.1 71 i = 62
    · by_cases c3 : v ≤ st.1 72 i <;> simp [c2, c3]
    · by_cases c3 : v = st.1 72 i <;> simp [c1, c2, c3]
theorem x_num {st : Sg} {F W N V : Nat → Int32} {d n pc : Int32} : ∀ (i k : Nat) (a : Int32), i ≤ 6 → i < k → (∀ j, j < i → st.1 70 j = F j ∧ st.1 71 j = W j ∧ st.1 72 j = N j ∧ st.1 73 j = V j) → X2_numberFor_14 d n pc st k a (nI i + (-1)) = some (if (pc - 1) < askG F W N V d n i a then pc - 1 else askG F W N V d n i a) := by
  intro i
  induction i with
  | zero =>
    intro k a hi hk h
    obtain ⟨k, rfl⟩ : ∃ k', k = k' + 1 := ⟨k - 1, by omega⟩
    rw [nI_0m1]
    show X2_numberFor_14b (X2_numberFor_14 d n pc st k) d n pc a (-1) st = _
    unfold X2_numberFor_14b X2_numberFor_60
    rw [if_pos (by decide)]
    rfl
  | succ i ih =>
    intro k a hi hk h
    obtain ⟨k, rfl⟩ : ∃ k', k = k' + 1 := ⟨k - 1, by omega⟩
    rw [nI_m1]
    obtain ⟨h1, h2, h3, h4⟩ := h i (by omega)
    have st39 : ∀ v : Int32, X2_numberFor_39 (X2_numberFor_14 d n pc st k) (nI i) v d n pc a (nI i) st = X2_numberFor_14 d n pc st k (if soB (W i) (N i) v = true then V i else a) (nI i + (-1)) := by
      intro v
      unfold X2_numberFor_39 X2_numberFor_54
      rw [x_isSo (by omega), bnd1_some, h2, h3]
      by_cases c : soB (W i) (N i) v = true
      · rw [if_pos c, if_pos c, if_neg (by decide), cx6 (by omega), nm_eq, nm_eq, clI (by omega), h4]
      · rw [if_neg c, if_neg c, if_pos rfl, nm_eq]
    show X2_numberFor_14b (X2_numberFor_14 d n pc st k) d n pc a (nI i) st = _
    unfold X2_numberFor_14b
    rw [if_neg (nI_pos (by omega)), cx6 (by omega), clI (by omega), h1]
    by_cases c : F i = 108
    · rw [if_pos c, st39, ih k _ (by omega) (by omega) (fun j hj => h j (by omega)), askG_y c]
    · rw [if_neg c, st39, ih k _ (by omega) (by omega) (fun j hj => h j (by omega)), askG_n c]
theorem m_num {st : Sg} {F W N V : Nat → Int32} {d n pc : Int32} (hpc : st.1 0 4 = pc) : ∀ (i k : Nat) (a : Int32), i ≤ 6 → i < k → (∀ j, j < i → st.1 15 j = F j ∧ st.1 16 j = W j ∧ st.1 17 j = N j ∧ st.1 18 j = V j) → X8_askedAt_13 d n st k a (nI i + (-1)) = some (if pc ≤ askG F W N V d n i a then pc - 1 else askG F W N V d n i a) := by
  intro i
  induction i with
  | zero =>
    intro k a hi hk h
    obtain ⟨k, rfl⟩ : ∃ k', k = k' + 1 := ⟨k - 1, by omega⟩
    rw [nI_0m1]
    show X8_askedAt_13b (X8_askedAt_13 d n st k) d n a (-1) st = _
    unfold X8_askedAt_13b X8_askedAt_137 X8_askedAt_155
    rw [if_pos (by decide), hpc]
    show _ = some (if pc ≤ a then pc - 1 else a)
    by_cases c : pc ≤ a
    · rw [if_pos c, if_pos c]
    · rw [if_neg c, if_neg c]
  | succ i ih =>
    intro k a hi hk h
    obtain ⟨k, rfl⟩ : ∃ k', k = k' + 1 := ⟨k - 1, by omega⟩
    rw [nI_m1]
    obtain ⟨h1, h2, h3, h4⟩ := h i (by omega)
    have cx : ∀ {α : Type} {k : Option α}, cix (nI i) 8 k = k := fun {α} {k} => cix_nI (by omega) (by decide)
    have cl : (nI i).toNatClampNeg = i := clI (by omega)
    have s0 : X8_askedAt_112 (X8_askedAt_13 d n st k) 0 d n a (nI i) st = X8_askedAt_13 d n st k a (nI i + (-1)) := by
      unfold X8_askedAt_112 X8_askedAt_130
      rw [if_pos rfl, nm_eq]
    have s1 : X8_askedAt_112 (X8_askedAt_13 d n st k) 1 d n a (nI i) st = X8_askedAt_13 d n st k (V i) (nI i + (-1)) := by
      unfold X8_askedAt_112 X8_askedAt_130
      rw [if_neg (by decide), cx, nm_eq, cl, h4]
    have s35 : ∀ v : Int32, X8_askedAt_35 (X8_askedAt_13 d n st k) v d n a (nI i) st = X8_askedAt_13 d n st k (if soB (W i) (N i) v = true then V i else a) (nI i + (-1)) := by
      intro v
      unfold X8_askedAt_35 soB
      simp only [cx, cl, nm_eq, h2, h3, s0, s1]
      by_cases c1 : W i = 60
      · by_cases c2 : N i ≤ v <;> simp [c1, c2]
      · by_cases c2 : W i = 62
        · by_cases c3 : v ≤ N i <;> simp [c2, c3]
        · by_cases c3 : v = N i <;> simp [c1, c2, c3]
    show X8_askedAt_13b (X8_askedAt_13 d n st k) d n a (nI i) st = _
    unfold X8_askedAt_13b
    rw [if_neg (nI_pos (by omega)), cx, cl, h1]
    by_cases c : F i = 108
    · rw [if_pos c, s35, ih k _ (by omega) (by omega) (fun j hj => h j (by omega)), askG_y c]
    · rw [if_neg c, s35, ih k _ (by omega) (by omega) (fun j hj => h j (by omega)), askG_n c]
/-- the number asked -/
def askP (F W N V : Nat → Int32) (nc lp np d n : Nat) : Nat := min (askG F W N V (nI d) (nI n) nc (nI lp)).toNatClampNeg (np - 1)
theorem askP_lt {F W N V : Nat → Int32} {nc lp np d n : Nat} (hp : 0 < np) : askP F W N V nc lp np d n < np := by
  unfold askP
  omega
/-- the rule as a side holds it -/
def RuX (st : Sg) (F W N V : Nat → Int32) (nc lp : Nat) : Prop := nc ≤ 6 ∧ lp ≤ 4 ∧ (∀ k, k < nc → ∃ v : Nat, V k = nI v ∧ v ≤ 4) ∧ st.1 69 1 = nI nc ∧ st.1 69 6 = nI lp ∧ ∀ j, j < nc → st.1 70 j = F j ∧ st.1 71 j = W j ∧ st.1 72 j = N j ∧ st.1 73 j = V j
def RuM (st : Sg) (F W N V : Nat → Int32) (nc lp : Nat) : Prop := nc ≤ 6 ∧ lp ≤ 4 ∧ (∀ k, k < nc → ∃ v : Nat, V k = nI v ∧ v ≤ 4) ∧ st.1 0 25 = nI nc ∧ st.1 0 26 = nI lp ∧ ∀ j, j < nc → st.1 15 j = F j ∧ st.1 16 j = W j ∧ st.1 17 j = N j ∧ st.1 18 j = V j
theorem RuX.keep {st st' : Sg} {F W N V : Nat → Int32} {nc lp : Nat} (h : RuX st F W N V nc lp) (hk : ∀ o, 69 ≤ o → o ≤ 73 → st'.1 o = st.1 o) : RuX st' F W N V nc lp := by
  obtain ⟨a1, a2, a3, a4, a5, a6⟩ := h
  refine ⟨a1, a2, a3, ?_, ?_, fun j hj => ?_⟩
  · rw [hk 69 (by omega) (by omega)]; exact a4
  · rw [hk 69 (by omega) (by omega)]; exact a5
  · rw [hk 70 (by omega) (by omega), hk 71 (by omega) (by omega), hk 72 (by omega) (by omega), hk 73 (by omega) (by omega)]; exact a6 j hj
theorem RuM.keep {st st' : Sg} {F W N V : Nat → Int32} {nc lp : Nat} (h : RuM st F W N V nc lp) (h0 : st'.1 0 = st.1 0) (hk : ∀ o, 15 ≤ o → o ≤ 18 → st'.1 o = st.1 o) : RuM st' F W N V nc lp := by
  obtain ⟨a1, a2, a3, a4, a5, a6⟩ := h
  refine ⟨a1, a2, a3, ?_, ?_, fun j hj => ?_⟩
  · rw [h0]; exact a4
  · rw [h0]; exact a5
  · rw [hk 15 (by omega) (by omega), hk 16 (by omega) (by omega), hk 17 (by omega) (by omega), hk 18 (by omega) (by omega)]; exact a6 j hj
theorem sub1 (a : Nat) : nI a - 1 = nI a + (-1) := by grind
theorem x_number {st : Sg} {F W N V : Nat → Int32} {nc lp np d n : Nat} (h : RuX st F W N V nc lp) (hp : 0 < np) (hnp : np ≤ 5) : X2_numberFor (nI d) (nI n) (nI np) st = some (nI (askP F W N V nc lp np d n)) := by
  obtain ⟨a1, a2, a3, a4, a5, a6⟩ := h
  obtain ⟨v, v1, v2⟩ := askG_bd (F := F) (W := W) (N := N) (d := nI d) (n := nI n) nc (nI lp) a3 ⟨lp, rfl, a2⟩
  have e : nI np - 1 = nI (np - 1) := pk_sub (a := np) (b := 1) hp
  unfold X2_numberFor askP
  rw [nm_eq, nm_eq, a4, a5, sub1, x_num nc FU _ a1 (FU_gt (by omega)) a6, v1, clI (by omega), e]
  by_cases c : np - 1 < v
  · rw [if_pos (nI_lt c (by omega)), Nat.min_eq_right (by omega)]
  · rw [if_neg (nI_nlt (by omega) (by omega)), Nat.min_eq_left (by omega)]
theorem m_asked {st : Sg} {F W N V : Nat → Int32} {nc lp np d n : Nat} (h : RuM st F W N V nc lp) (hpc : st.1 0 4 = nI np) (hp : 0 < np) (hnp : np ≤ 5) : X8_askedAt (nI d) (nI n) st = some (nI (askP F W N V nc lp np d n)) := by
  obtain ⟨a1, a2, a3, a4, a5, a6⟩ := h
  obtain ⟨v, v1, v2⟩ := askG_bd (F := F) (W := W) (N := N) (d := nI d) (n := nI n) nc (nI lp) a3 ⟨lp, rfl, a2⟩
  have e : nI np - 1 = nI (np - 1) := pk_sub (a := np) (b := 1) hp
  unfold X8_askedAt askP
  rw [nm_eq, nm_eq, a4, a5, sub1, m_num hpc nc FU _ a1 (FU_gt (by omega)) a6, v1, clI (by omega), e]
  by_cases c : np ≤ v
  · rw [if_pos (nI_le c (by omega)), Nat.min_eq_right (by omega)]
  · rw [if_neg (nI_ge (by omega) (by omega)), Nat.min_eq_left (by omega)]
/-- either there is no rule on either side, or the same -/
theorem rul_c {sx sm : Sg} (h : Rul sx sm) : (sx.1 69 0 = 0 ∧ sm.1 0 26 < 0) ∨ (¬ sx.1 69 0 = 0 ∧ ¬ sm.1 0 26 < 0 ∧ ∃ (F W N V : Nat → Int32) (nc lp : Nat), RuX sx F W N V nc lp ∧ RuM sm F W N V nc lp) := by
  rcases h with ⟨a, b⟩ | ⟨a, nc, lp, b1, b2, b3, b4, b5, b6, b7⟩
  · exact Or.inl ⟨a, by rw [b]; decide⟩
  · refine Or.inr ⟨by rw [a]; decide, by rw [b6]; exact nI_pos (by omega), sx.1 70, sx.1 71, sx.1 72, sx.1 73, nc, lp, ⟨b1, b2, fun k hk => (b7 k hk).2.2.2.2, b3, b5, fun j hj => ⟨rfl, rfl, rfl, rfl⟩⟩, b1, b2, fun k hk => (b7 k hk).2.2.2.2, b4, b6, fun j hj => ?_⟩
    obtain ⟨c1, c2, c3, c4, -⟩ := b7 j hj
    exact ⟨c1, c2, c3, c4⟩
theorem rr_b {α : Type} {sx : Sg} {np : Nat} {k : Int32} {f : Int32 → Option α} (hx : sx.1 1 4 = nI np) (hnp : np ≤ 5) : bnd1 (X7_ruleRefusalOf k sx) f = if k = 0 then f (-2) else if np = 0 then f (-3) else if sx.1 69 0 = 0 then f (-3) else f 0 := by
  unfold X7_ruleRefusalOf X7_ruleRefusalOf_25 X7_ruleRefusalOf_26
  rw [ref_b hx hnp]
  by_cases c : k = 0
  · rw [if_pos c, if_pos c]; rfl
  · rw [if_neg c, if_neg c]
    by_cases cz : np = 0
    · rw [if_pos cz, if_pos cz]; rfl
    · rw [if_neg cz, if_neg cz, if_pos rfl]
      by_cases c2 : sx.1 69 0 = 0
      · rw [if_pos c2, if_pos c2]; rfl
      · rw [if_neg c2, if_neg c2]; rfl
theorem rd_b {α : Type} {sm : Sg} {np : Nat} {f : Int32 → Option α} (hx : sm.1 0 4 = nI np) (hnp : np ≤ 5) : bnd1 (X8_isReady sm) f = if np = 0 then f 0 else if sm.1 0 26 < 0 then f 0 else f 1 := by
  unfold X8_isReady X8_isReady_18 X8_isReady_19
  rw [cb01_0, cb01_1, hx]
  by_cases cz : np = 0
  · rw [if_pos (by rw [cz]; decide), if_pos cz]; rfl
  · rw [if_neg (nI_nle (by omega) (by omega)), if_neg cz]
    by_cases c2 : sm.1 0 26 < 0
    · rw [if_pos c2, if_pos c2]; rfl
    · rw [if_neg c2, if_neg c2]; rfl
theorem s_asks (n : Nat) (sx sm : Sg) (a0 a1 : Int32) (hn : n < 512) (h : Rel n sx sm) : ∃ (r : Int32), X7_asks a0 a1 sx = some r ∧ X8_asks a0 a1 sm = some r ∧ Rel (n + 1) sx sm := by
  obtain ⟨hn0, q, C, D, re, np, ns, hok, hVX, hVM, hPl, hT, hR, hE⟩ := id h
  obtain ⟨o1, o2, o3, o4, o5, o6, o7⟩ := id hok
  obtain ⟨x1, x2, x3, x4, x5, x6⟩ := id hVX
  obtain ⟨m1, m2, m3, m4, m5, m6⟩ := id hVM
  by_cases c0 : (0 : Int32) ≤ a0 ∧ a0 ≤ 5
  · by_cases c1 : (0 : Int32) ≤ a1 ∧ a1 ≤ 12
    · by_cases hz : np = 0
      · refine ⟨-3, ?_, ?_, rel_idle hn h⟩
        · unfold X7_asks X7_asks_25 X7_asks_53
          rw [wi_b, if_pos c0, if_neg (by decide), wi_b, if_pos c1, if_neg (by decide), rr_b x4 o5, if_neg (by decide), if_pos hz, if_neg (by decide)]
        · unfold X8_asks X8_asks_45
          rw [in_c _ 0 5 _ _ _ (by decide) (by decide), if_pos c0, if_neg (by decide), in_c _ 0 12 _ _ _ (by decide) (by decide), if_pos c1, if_neg (by decide), rd_b m4 o5, if_pos hz, if_pos rfl]
      · rcases rul_c hR with ⟨r1, r2⟩ | ⟨r1, r2, F, W, N, V, nc, lp, hX, hM⟩
        · refine ⟨-3, ?_, ?_, rel_idle hn h⟩
          · unfold X7_asks X7_asks_25 X7_asks_53
            rw [wi_b, if_pos c0, if_neg (by decide), wi_b, if_pos c1, if_neg (by decide), rr_b x4 o5, if_neg (by decide), if_neg hz, if_pos r1, if_neg (by decide)]
          · unfold X8_asks X8_asks_45
            rw [in_c _ 0 5 _ _ _ (by decide) (by decide), if_pos c0, if_neg (by decide), in_c _ 0 12 _ _ _ (by decide) (by decide), if_pos c1, if_neg (by decide), rd_b m4 o5, if_neg hz, if_pos r2, if_pos rfl]
        · obtain ⟨d, hd, -, hd5⟩ := of_rng (a := 0) (b := 5) rfl rfl (by decide) (by decide) c0.1 c0.2
          obtain ⟨m, hm, -, hm12⟩ := of_rng (a := 0) (b := 12) rfl rfl (by decide) (by decide) c1.1 c1.2
          refine ⟨nI (askP F W N V nc lp np d m), ?_, ?_, rel_idle hn h⟩
          · unfold X7_asks X7_asks_25 X7_asks_53
            rw [wi_b, if_pos c0, if_neg (by decide), wi_b, if_pos c1, if_neg (by decide), rr_b x4 o5, if_neg (by decide), if_neg hz, if_neg r1, if_pos rfl, hd, hm, x4, x_number hX (by omega) o5, bnd1_some]
          · unfold X8_asks X8_asks_45
            rw [in_c _ 0 5 _ _ _ (by decide) (by decide), if_pos c0, if_neg (by decide), in_c _ 0 12 _ _ _ (by decide) (by decide), if_pos c1, if_neg (by decide), rd_b m4 o5, if_neg hz, if_neg r2, if_neg (by decide), hd, hm, m_asked hM m4 (by omega) o5, bnd1_some]
    · refine ⟨-2, ?_, ?_, rel_idle hn h⟩
      · unfold X7_asks X7_asks_24 X7_asks_25 X7_asks_53
        rw [wi_b, if_pos c0, if_neg (by decide), wi_b, if_neg c1, if_pos rfl, rr_b x4 o5, if_pos rfl, if_neg (by decide)]
      · unfold X8_asks X8_asks_24
        rw [in_c _ 0 5 _ _ _ (by decide) (by decide), if_pos c0, if_neg (by decide), in_c _ 0 12 _ _ _ (by decide) (by decide), if_neg c1, if_pos rfl]
  · refine ⟨-2, ?_, ?_, rel_idle hn h⟩
    · unfold X7_asks X7_asks_24 X7_asks_25 X7_asks_53
      rw [wi_b, if_neg c0, if_pos rfl, rr_b x4 o5, if_pos rfl, if_neg (by decide)]
    · unfold X8_asks X8_asks_24
      rw [in_c _ 0 5 _ _ _ (by decide) (by decide), if_neg c0, if_pos rfl]
