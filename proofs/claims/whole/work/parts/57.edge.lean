/-! edge -/
def qc (q : Nat → Nat → Int32) (s : Nat) (c : Int32) : Nat → Nat → Int32 := fun i => if i = 1 then upd (q 1) s c else q i
theorem upd_upd {f : Nat → Int32} {s : Nat} {a b : Int32} : upd (upd f s a) s b = upd f s b := by
  funext j
  unfold upd
  by_cases h : j = s <;> simp [h]
theorem upd_self {f : Nat → Int32} {s : Nat} : upd f s (f s) = f := by
  funext j
  unfold upd
  by_cases h : j = s <;> simp [h]
theorem qc_1 {q : Nat → Nat → Int32} {s : Nat} {c : Int32} : qc q s c 1 = upd (q 1) s c := rfl
theorem qc_ne {q : Nat → Nat → Int32} {s i : Nat} {c : Int32} (h : i ≠ 1) : qc q s c i = q i := if_neg h
theorem qc_self {q : Nat → Nat → Int32} {s : Nat} : qc q s (q 1 s) = q := by
  funext i
  by_cases h : i = 1
  · subst h; rw [qc_1, upd_self]
  · rw [qc_ne h]
theorem qc_ok {q : Nat → Nat → Int32} {C D re np ns s c : Nat} (hok : Okd q C D re np ns) (hc : c ≤ 4) : Okd (qc q s (nI c)) C D re np ns := by
  obtain ⟨o1, o2, o3, o4, o5, o6, o7, o8, o9, o10, o11⟩ := hok
  refine ⟨o1, o2, o3, o4, o5, o6, ?_, fun i hi => ?_, ?_, ?_, ?_⟩
  · rw [qc_ne (by decide)]; exact o7
  · rw [qc_1]
    unfold upd
    by_cases h : i = s
    · rw [if_pos h]; exact ⟨c, rfl, hc⟩
    · rw [if_neg h]; exact o8 i hi
  · rw [qc_ne (by decide)]; exact o9
  · rw [qc_ne (by decide)]; exact o10
  · rw [qc_ne (by decide)]; exact o11
theorem vx_qc {sx : Sg} {q : Nat → Nat → Int32} {C D re np ns s : Nat} {c : Int32} (h : VX sx q C D re np ns) : VX (sI sx 3 s c) (qc q s c) C D re np ns := by
  obtain ⟨x1, x2, x3, x4, x5, x6⟩ := h
  refine ⟨by rw [sI_ne (by decide)]; exact x1, by rw [sI_ne (by decide)]; exact x2, by rw [sI_ne (by decide)]; exact x3, by rw [sI_ne (by decide)]; exact x4, by rw [sI_ne (by decide)]; exact x5, fun i hi => ?_⟩
  by_cases h1 : i = 1
  · subst h1
    rw [show 2 + 1 = 3 from rfl, sI_eq, qc_1, show sx.1 3 = q 1 from x6 1 (by decide)]
  · rw [sI_ne (by omega), qc_ne h1]; exact x6 i hi
theorem vm_qc {sm : Sg} {q : Nat → Nat → Int32} {C D re np ns s : Nat} {c0 c : Int32} (h : VM sm (qc q s c0) C D re np ns) : VM (sI sm 2 s c) (qc q s c) C D re np ns := by
  obtain ⟨x1, x2, x3, x4, x5, x6⟩ := h
  refine ⟨by rw [sI_ne (by decide)]; exact x1, by rw [sI_ne (by decide)]; exact x2, by rw [sI_ne (by decide)]; exact x3, by rw [sI_ne (by decide)]; exact x4, by rw [sI_ne (by decide)]; exact x5, fun i hi => ?_⟩
  by_cases h1 : i = 1
  · subst h1
    rw [show 1 + 1 = 2 from rfl, sI_eq, qc_1, show sm.1 2 = qc q s c0 1 from x6 1 (by decide), qc_1, upd_upd]
  · have := x6 i hi
    rw [qc_ne h1] at this
    rw [sI_ne (by omega), qc_ne h1]; exact this
theorem edn_keep0 {n : Nat} {sx sx' : Sg} {q : Nat → Nat → Int32} {C D re np ns : Nat} (h : Edn n sx q C D re np ns) (h0 : sx'.1 0 = sx.1 0) (h1 : sx'.1 1 10 = sx.1 1 10) (hD : D ≤ 6) (h2 : ∀ o, (8 ≤ o ∧ o < 25) ∨ (61 ≤ o ∧ o < 67) → sx'.1 o = sx.1 o ∧ sx'.2 o = sx.2 o) : Edn n sx' q C D re np ns := by
  obtain ⟨ed, e1, e2, e3, he, hed, ⟨a1, a2, a3⟩, ⟨b1, b2, b3⟩, c1, c2, c3⟩ := h
  refine ⟨ed, e1, e2, e3, he, by rw [h1]; exact hed, ⟨by rw [h0]; exact a1, a2, fun z => ?_⟩, ⟨by rw [h0]; exact b1, b2, fun z => ?_⟩, by rw [h0]; exact c1, c2, fun z => ?_⟩
  · intro d hd k hk
    have := a3 z d hd k hk
    rw [(h2 (10 + d) (by omega)).2]
    refine ⟨this.1, fun hd2 => ?_⟩
    rw [(h2 (18 + d) (by omega)).1]
    exact this.2 hd2
  · have := b3 z
    unfold Kept
    rw [(h2 61 (by omega)).2, (h2 62 (by omega)).1, (h2 63 (by omega)).2, (h2 64 (by omega)).1]
    exact this
  · have := c3 z
    unfold Metc
    rw [(h2 65 (by omega)).2, (h2 66 (by omega)).1]
    exact this
/-- the frame of the class's data, text and rule -/
def XF (sx sx' : Sg) : Prop := ∀ o, (1 ≤ o ∧ o < 8) ∨ 67 ≤ o → sx'.1 o = sx.1 o
theorem XF.tr {a b c : Sg} (h : XF a b) (h2 : XF b c) : XF a c := fun o ho => (h2 o ho).trans (h o ho)
theorem XF.vx {st st' : Sg} {q : Nat → Nat → Int32} {C D re np ns : Nat} (h : XF st st') (hV : VX st q C D re np ns) : VX st' q C D re np ns := hV.keep (fun o h1 h2 => h o (by omega))
theorem BA_lt {q : Nat → Nat → Int32} {D re np ns k n : Nat} (hp : 0 < np) : BA q D re np ns k n < np := bsA_lt np hp
theorem x_other {n : Nat} {sx : Sg} {q : Nat → Nat → Int32} {C D re np ns s c : Nat} (hn : n ≤ 512) (hok : Okd q C D re np ns) (hV : VX sx q C D re np ns) (hE : Edn n sx q C D re np ns) (hp : 0 < np) (hs : s < ns) (hc : c ≤ 4) : ∃ sx', X7_isOtherWith (nI s) (nI c) sx = some (if nI (BA (qc q s (nI c)) D re np ns (D - 1) C) = nI (BA q D re np ns (D - 1) C) then 0 else 1, sx') ∧ Edn n sx' q C D re np ns ∧ XF sx sx' := by
  obtain ⟨x1, x2, x3, x4, x5, x6⟩ := id hV
  obtain ⟨o1, o2, o3, o4, o5, o6, o7⟩ := id hok
  obtain ⟨s1, a1, a2, a3, a4, a5⟩ := x_findBest hn hok hV hE hp
  have hV1 : VX s1 q C D re np ns := hV.keep (fun o h1 h2 => a4 o h1 (by omega))
  obtain ⟨s2, b1, b2, b3⟩ := x_fillBest (b := 25) (by decide) (qc_ok hok hc) (vx_qc (s := s) (c := nI c) hV1) hp
  have e3 : (sI s2 3 s (s1.1 3 s)).1 3 = s1.1 3 := by
    rw [sI_eq, b2.1 3 (by omega), sI_eq, upd_upd, upd_self]
  have k : ∀ o, ¬ (35 ≤ o ∧ o < 41) → (sI s2 3 s (s1.1 3 s)).1 o = s1.1 o := fun o ho => by
    by_cases h3 : o = 3
    · subst h3; exact e3
    · rw [sI_ne h3, b2.1 o (by omega), sI_ne h3]
  have hC : (sI s2 3 s (s1.1 3 s)).1 1 0 = nI C := by rw [k 1 (by omega)]; exact hV1.1
  have v1 : (sI s2 3 s (s1.1 3 s)).1 35 C = nI (BA (qc q s (nI c)) D re np ns (D - 1) C) := by
    rw [sI_ne (by decide)]
    exact b3.2 0 (by omega) C (by omega)
  have v2 : (sI s2 3 s (s1.1 3 s)).1 18 C = nI (BA q D re np ns (D - 1) C) := by
    rw [k 18 (by omega)]
    exact (a2 0 (by omega) C (by omega)).2 (by omega)
  refine ⟨sI s2 3 s (s1.1 3 s), ?_, ?_, ?_⟩
  · unfold X7_isOtherWith X7_isOtherWith_87
    rw [a1, bnd1_some, cx3 (by omega), nm_eq, cx3 (by omega), nm_eq, clI (by omega), b1, bnd1_some, cx3 (by omega), nm_eq, show (0 : Int32) = nI 0 from rfl, cx6 (by omega), hC, cx13 (by omega), cx6 (by omega), cx13 (by omega), clI (by omega), clI (by omega)]
    show (if (sI s2 3 s (s1.1 3 s)).1 35 C = (sI s2 3 s (s1.1 3 s)).1 18 C then cb01 0 _ else cb01 1 _) = _
    rw [v1, v2, cb01_0, cb01_1]
    by_cases c : nI (BA (qc q s (nI c)) D re np ns (D - 1) C) = nI (BA q D re np ns (D - 1) C)
    · rw [if_pos c, if_pos c]
    · rw [if_neg c, if_neg c]
  · refine edn_keep0 a3 (k 0 (by omega)) (by rw [k 1 (by omega)]) o3 (fun o ho => ⟨k o (by omega), ?_⟩)
    rw [sI_2, b2.2 o (by omega), sI_2]
  · intro o ho
    rw [k o (by omega), a4 o (by omega) (by omega)]
theorem m_begin {sm : Sg} {q : Nat → Nat → Int32} {C D re np ns : Nat} (hok : Okd q C D re np ns) (hV : VM sm q C D re np ns) (hp : 0 < np) : ∃ sm', X8_beginPrice sm = some (nI (BA q D re np ns (D - 1) C), sm') ∧ VM sm' q C D re np ns ∧ FL [9] [0, 7, 8, 10] sm sm' := by
  obtain ⟨s1, a1, a2, a3⟩ := m_findBest hok hV hp
  obtain ⟨o1, o2, o3, o4, o5, o6, o7⟩ := id hok
  refine ⟨s1, ?_, hV.keep (fun o ho => a2.1 o (by simp; omega)), a2⟩
  unfold X8_beginPrice
  rw [a1, bnd1_some, a2.1 0 (by simp), hV.1, cx78 (by omega), clI (by omega)]
  have := a3.2 0 (by omega) C (by omega)
  simp only [Nat.mul_zero, Nat.zero_add] at this
  rw [this]; rfl
theorem m_87 {sm : Sg} {q : Nat → Nat → Int32} {C D re np ns s c : Nat} {c0 x2 x5 x6 : Int32} {iv : Nat} (rc46 rc60 : Int32 → Int32 → Sg → Option (Int32 × Sg)) (hok : Okd q C D re np ns) (hV : VM sm (qc q s c0) C D re np ns) (hp : 0 < np) (hs : s < ns) (hc : c ≤ 4) : ∃ sm', X8_edge_87 rc46 rc60 (nI c) (nI s) x2 (nI iv) (-6) x5 x6 sm = rc60 (if nI (BA (qc q s (nI c)) D re np ns (D - 1) C) = nI iv then -6 else nI c) (x6 + 1) sm' ∧ VM sm' (qc q s (nI c)) C D re np ns ∧ FL [2, 9] [0, 7, 8, 10] sm sm' := by
  obtain ⟨o1, o2, o3, o4, o5, o6, o7⟩ := id hok
  obtain ⟨s1, a1, a2, a3⟩ := m_begin (qc_ok (s := s) hok hc) (vm_qc (c := nI c) hV) hp
  refine ⟨s1, ?_, a2, (sI_fl (by decide)).tr (a3.up (by simp) (by simp))⟩
  unfold X8_edge_87 X8_edge_125 X8_edge_127
  rw [in_c _ 0 4 _ _ _ (by decide) (by decide), if_pos ⟨nI_pos' (by omega), nI_le (a := c) (b := 4) hc (by decide)⟩, if_neg (by decide), cx3 (by omega), nm_eq, clI (by omega), a1, bnd2_some]
  simp only [nm_eq]
  by_cases z : nI (BA (qc q s (nI c)) D re np ns (D - 1) C) = nI iv
  · rw [if_pos z, if_pos z]
  · rw [if_neg z, if_neg z]
theorem m_87n {sm : Sg} {k0 x1 x2 x3 x4 x5 x6 : Int32} (rc46 rc60 : Int32 → Int32 → Sg → Option (Int32 × Sg)) (h : ¬ ((0 : Int32) ≤ k0 ∧ k0 ≤ 4)) : X8_edge_87 rc46 rc60 k0 x1 x2 x3 x4 x5 x6 sm = rc60 x4 (x6 + 1) sm := by
  unfold X8_edge_87 X8_edge_127
  rw [in_c _ 0 4 _ _ _ (by decide) (by decide), if_neg h, if_pos rfl, nm_eq]
theorem m_e139 {sm : Sg} {q : Nat → Nat → Int32} {C D re np ns s c : Nat} {c0 x4 : Int32} (hV : VM sm (qc q s c0) C D re np ns) (hs : s < 3) (hc : q 1 s = nI c) : ∃ sm', X8_edge_139 (nI s) (nI c) x4 sm = some (x4, sm') ∧ VM sm' q C D re np ns ∧ FL [2, 9] [0, 7, 8, 10] sm sm' := by
  refine ⟨sI sm 2 s (nI c), ?_, ?_, sI_fl (by decide)⟩
  · unfold X8_edge_139
    rw [cx3 hs, nm_eq, clI (by omega)]
  · have := vm_qc (c := nI c) hV
    rw [← hc, qc_self] at this
    rw [← hc]; exact this
theorem m_e46f {sm : Sg} {x1 x2 x3 x5 : Int32} {c k : Nat} (hc : c ≤ 4) : X8_edge_46 x1 x2 x3 (k + 1) (nI c) x5 sm = X8_edge_139 x1 x2 (nI c) sm := by
  show X8_edge_46b (X8_edge_46 x1 x2 x3 k) x1 x2 x3 (nI c) x5 sm = _
  unfold X8_edge_46b
  rw [if_pos (nI_pos' (show c < 2 ^ 31 by omega))]
  split <;> rfl
theorem nI_sub_neg {a b : Nat} (h : a < b) (hb : b ≤ 1000) : nI a - nI b < 0 := by
  rw [Int32.lt_iff_toInt_lt, pk_sub_toInt (by omega) (by omega)]
  have : (0 : Int32).toInt = 0 := by decide
  omega
theorem s_edge (n : Nat) (sx sm : Sg) (a0 : Int32) (hn : n < 512) (h : Rel n sx sm) : ∃ (r : Int32) (sx9 : Sg) (sm9 : Sg), X7_edge a0 sx = some (r, sx9) ∧ X8_edge a0 sm = some (r, sm9) ∧ Rel (n + 1) sx9 sm9 := by
  obtain ⟨hn0, q, C, D, re, np, ns, hok, hVX, hVM, hPl, hT, hR, hE⟩ := id h
  obtain ⟨o1, o2, o3, o4, o5, o6, o7, o8, o9⟩ := id hok
  obtain ⟨x1, x2, x3, x4, x5, x6⟩ := id hVX
  obtain ⟨m1, m2, m3, m4, m5, m6⟩ := id hVM
  by_cases hs : ∃ i, i < ns ∧ a0 = nI i
  · obtain ⟨s, hs, rfl⟩ := hs
    by_cases hz : np = 0
    · refine ⟨-3, sx, sm, ?_, ?_, rel_idle hn h⟩
      · unfold X7_edge X7_edge_33
        rw [isS_y x5 hs (by omega), if_neg (by decide), x4, if_pos (by rw [hz]; rfl)]
      · unfold X8_edge X8_edge_24
        rw [mS_y m5 hs (by omega), if_neg (by decide), m4, if_pos (by rw [hz]; rfl)]
    · by_cases hcz : C = 0
      · refine ⟨-3, sx, sm, ?_, ?_, rel_idle hn h⟩
        · unfold X7_edge X7_edge_33
          rw [isS_y x5 hs (by omega), if_neg (by decide), x4, if_neg (nI_ne0 (by omega) (by omega)), x1, if_pos (by rw [hcz]; rfl)]
        · unfold X8_edge X8_edge_24
          rw [mS_y m5 hs (by omega), if_neg (by decide), m4, if_neg (nI_ne0 (by omega) (by omega)), m1, if_pos (by rw [hcz]; rfl)]
      · obtain ⟨c, hc, hc4⟩ := o8 s hs
        have hp : 0 < np := by omega
        obtain ⟨f, hf⟩ : ∃ f, FU = f + 3 := ⟨4611686018427387901, rfl⟩
        have key : ∀ (j b : Nat) (kX kM : Nat) (tx tm : Sg) (c0 : Int32), b + j = 5 → 1 ≤ b → j < kX → j < kM → VX tx q C D re np ns → Edn n tx q C D re np ns → XF sx tx → VM tm (qc q s c0) C D re np ns → FL [2, 9] [0, 7, 8, 10] sm tm →
            ∃ r sx' sm', X7_edge_48 (nI s) (nI c) kX (nI b) tx = some (r, sx') ∧ X8_edge_46 (nI s) (nI c) (nI (BA q D re np ns (D - 1) C)) kM (-6) (nI b) tm = some (r, sm') ∧ Edn n sx' q C D re np ns ∧ XF sx sx' ∧ VM sm' q C D re np ns ∧ FL [2, 9] [0, 7, 8, 10] sm sm' := by
          intro j
          induction j with
          | zero =>
            intro b kX kM tx tm c0 hj hb hkX hkM w1 w2 w3 w4 w5
            obtain ⟨kX, rfl⟩ : ∃ k', kX = k' + 1 := ⟨kX - 1, by omega⟩
            obtain ⟨kM, rfl⟩ : ∃ k', kM = k' + 1 := ⟨kM - 1, by omega⟩
            have : b = 5 := by omega
            subst this
            obtain ⟨sm', e1, e2, e3⟩ := m_e139 (x4 := -6) w4 (by omega) hc
            refine ⟨-6, tx, sm', ?_, ?_, w2, w3, e2, w5.tr e3⟩
            · show X7_edge_48b (X7_edge_48 (nI s) (nI c) kX) (nI s) (nI c) (nI 5) tx = _
              unfold X7_edge_48b X7_edge_102
              rw [if_pos (by decide)]
            · show X8_edge_46b (X8_edge_46 (nI s) (nI c) (nI (BA q D re np ns (D - 1) C)) kM) (nI s) (nI c) (nI (BA q D re np ns (D - 1) C)) (-6) (nI 5) tm = _
              unfold X8_edge_46b
              rw [if_pos (by decide)]
              exact e1
          | succ j ih =>
            intro b kX kM tx tm c0 hj hb hkX hkM w1 w2 w3 w4 w5
            obtain ⟨kX, rfl⟩ : ∃ k', kX = k' + 1 := ⟨kX - 1, by omega⟩
            obtain ⟨kM, rfl⟩ : ∃ k', kM = k' + 1 := ⟨kM - 1, by omega⟩
            have b4 : ¬ (4 : Int32) < nI b := nI_nlt (a := 4) (b := b) (by omega) (by decide)
            obtain ⟨kM', rfl⟩ : ∃ k', kM = k' + 1 := ⟨kM - 1, by omega⟩
            obtain ⟨rc46, hrc⟩ : ∃ z, z = X8_edge_46 (nI s) (nI c) (nI (BA q D re np ns (D - 1) C)) (kM' + 1) := ⟨_, rfl⟩
            obtain ⟨isv, his⟩ : ∃ z, z = BA q D re np ns (D - 1) C := ⟨_, rfl⟩
            -- what follows a find
            have fin : ∀ (c' : Nat) (c1 : Int32) (tm' : Sg), c' ≤ 4 → VM tm' (qc q s c1) C D re np ns → FL [2, 9] [0, 7, 8, 10] sm tm' → ∃ sm', rc46 (nI c') (nI b + 1) tm' = some (nI c', sm') ∧ VM sm' q C D re np ns ∧ FL [2, 9] [0, 7, 8, 10] sm sm' := by
              intro c' c1 tm' h1 h2 h3
              obtain ⟨sm', e1, e2, e3⟩ := m_e139 (x4 := nI c') h2 (by omega) hc
              refine ⟨sm', ?_, e2, h3.tr e3⟩
              rw [hrc, m_e46f h1]; exact e1
            -- the second turn
            have second : ∀ (tx' tm' : Sg) (c1 : Int32), VX tx' q C D re np ns → Edn n tx' q C D re np ns → XF sx tx' → VM tm' (qc q s c1) C D re np ns → FL [2, 9] [0, 7, 8, 10] sm tm' → ∃ r sx' sm', X7_edge_74 (X7_edge_48 (nI s) (nI c) kX) (nI s) (nI c) (nI b) tx' = some (r, sx') ∧ X8_edge_60 rc46 (nI s) (nI c) (nI isv) (nI b) (f + 2) (-6) 1 tm' = some (r, sm') ∧ Edn n sx' q C D re np ns ∧ XF sx sx' ∧ VM sm' q C D re np ns ∧ FL [2, 9] [0, 7, 8, 10] sm sm' := by
              intro tx' tm' c1 v1 v2 v3 v4 v5
              have e60 : X8_edge_60 rc46 (nI s) (nI c) (nI isv) (nI b) (f + 2) (-6) 1 tm' = X8_edge_87 rc46 (X8_edge_60 rc46 (nI s) (nI c) (nI isv) (nI b) (f + 1)) (nI c + nI b) (nI s) (nI c) (nI isv) (-6) (nI b) 1 tm' := by
                show X8_edge_60b rc46 (X8_edge_60 rc46 (nI s) (nI c) (nI isv) (nI b) (f + 1)) (nI s) (nI c) (nI isv) (-6) (nI b) 1 tm' = _
                unfold X8_edge_60b
                rw [if_neg (by decide), if_neg (by decide), if_neg (by decide)]
              have e60' : ∀ x tm2, X8_edge_60 rc46 (nI s) (nI c) (nI isv) (nI b) (f + 1) x (1 + 1) tm2 = rc46 x (nI b + 1) tm2 := fun x tm2 => by
                show X8_edge_60b rc46 (X8_edge_60 rc46 (nI s) (nI c) (nI isv) (nI b) f) (nI s) (nI c) (nI isv) x (nI b) (1 + 1) tm2 = _
                unfold X8_edge_60b X8_edge_133
                rw [if_pos (by decide), nm_eq]
              rw [e60, nI_add]
              unfold X7_edge_74 X7_edge_96 X7_edge_92
              simp only [nI_add]
              by_cases cc : c + b ≤ 4
              · obtain ⟨tx2, g1, g2, g3⟩ := x_other (by omega) hok v1 v2 hp hs cc
                obtain ⟨tm2, i1, i2, i3⟩ := m_87 (x2 := nI c) (x5 := nI b) (x6 := 1) (iv := isv) rc46 (X8_edge_60 rc46 (nI s) (nI c) (nI isv) (nI b) (f + 1)) hok v4 hp hs cc
                rw [if_neg (show ¬ (4 : Int32) < nI (c + b) from nI_nlt (a := 4) (b := c + b) (by omega) (by decide)), g1, bnd2_some, i1, his]
                by_cases z : nI (BA (qc q s (nI (c + b))) D re np ns (D - 1) C) = nI (BA q D re np ns (D - 1) C)
                · rw [if_pos z, if_pos z, if_pos rfl, ← his, e60', hrc, nm_eq, nI_1]
                  exact ih (b + 1) kX (kM' + 1) tx2 tm2 _ (by omega) (by omega) (by omega) (by omega) ((v3.tr g3).vx hVX) g2 (v3.tr g3) i2 (v5.tr i3)
                · rw [if_neg z, if_neg z, if_neg (by decide), ← his, e60']
                  obtain ⟨sm', e1, e2, e3⟩ := fin (c + b) _ tm2 cc i2 (v5.tr i3)
                  exact ⟨_, tx2, sm', rfl, e1, g2, v3.tr g3, e2, e3⟩
              · rw [if_pos (show (4 : Int32) < nI (c + b) from nI_lt (a := 4) (b := c + b) (by omega) (by omega)), m_87n _ _ (fun z => cc ((nI_leI (a := c + b) (b := 4) (by omega) (by decide)).mp z.2)), e60', hrc, nm_eq, nI_1]
                exact ih (b + 1) kX (kM' + 1) tx' tm' _ (by omega) (by omega) (by omega) (by omega) v1 v2 v3 v4 v5
            have eX : X7_edge_48 (nI s) (nI c) (kX + 1) (nI b) tx = X7_edge_48b (X7_edge_48 (nI s) (nI c) kX) (nI s) (nI c) (nI b) tx := rfl
            have eM : X8_edge_46 (nI s) (nI c) (nI isv) (kM' + 1 + 1) (-6) (nI b) tm = X8_edge_60 rc46 (nI s) (nI c) (nI isv) (nI b) (f + 3) (-6) 0 tm := by
              rw [hrc, ← hf, ← his]
              show X8_edge_46b (X8_edge_46 (nI s) (nI c) (nI isv) (kM' + 1)) (nI s) (nI c) (nI isv) (-6) (nI b) tm = _
              unfold X8_edge_46b
              rw [if_neg b4, if_neg (by decide)]
            have e60 : X8_edge_60 rc46 (nI s) (nI c) (nI isv) (nI b) (f + 3) (-6) 0 tm = X8_edge_87 rc46 (X8_edge_60 rc46 (nI s) (nI c) (nI isv) (nI b) (f + 2)) (nI c - nI b) (nI s) (nI c) (nI isv) (-6) (nI b) 0 tm := by
              show X8_edge_60b rc46 (X8_edge_60 rc46 (nI s) (nI c) (nI isv) (nI b) (f + 2)) (nI s) (nI c) (nI isv) (-6) (nI b) 0 tm = _
              unfold X8_edge_60b
              rw [if_neg (by decide), if_neg (by decide), if_pos rfl]
            rw [← his, eX, eM, e60]
            unfold X7_edge_48b X7_edge_70
            rw [if_neg b4]
            by_cases cc : b ≤ c
            · have es : nI c - nI b = nI (c - b) := pk_sub cc
              obtain ⟨tx2, g1, g2, g3⟩ := x_other (c := c - b) (by omega) hok w1 w2 hp hs (by omega)
              obtain ⟨tm2, i1, i2, i3⟩ := m_87 (c := c - b) (x2 := nI c) (x5 := nI b) (x6 := 0) (iv := isv) rc46 (X8_edge_60 rc46 (nI s) (nI c) (nI isv) (nI b) (f + 2)) hok w4 hp hs (by omega)
              rw [es, if_neg (nI_pos (by omega)), g1, bnd2_some, i1, ← his]
              by_cases z : nI (BA (qc q s (nI (c - b))) D re np ns (D - 1) C) = nI isv
              · rw [if_pos z, if_pos z, if_pos rfl, show (0 : Int32) + 1 = 1 from rfl]
                exact second tx2 tm2 _ ((w3.tr g3).vx hVX) g2 (w3.tr g3) i2 (w5.tr i3)
              · rw [if_neg z, if_neg z, if_neg (by decide), show (0 : Int32) + 1 = 1 from rfl]
                have e60' : X8_edge_60 rc46 (nI s) (nI c) (nI isv) (nI b) (f + 2) (nI (c - b)) 1 tm2 = rc46 (nI (c - b)) (nI b + 1) tm2 := by
                  show X8_edge_60b rc46 (X8_edge_60 rc46 (nI s) (nI c) (nI isv) (nI b) (f + 1)) (nI s) (nI c) (nI isv) (nI (c - b)) (nI b) 1 tm2 = _
                  unfold X8_edge_60b X8_edge_133
                  rw [if_neg (by decide), if_pos (nI_pos' (show c - b < 2 ^ 31 by omega)), nm_eq]
                rw [e60']
                obtain ⟨sm', e1, e2, e3⟩ := fin (c - b) _ tm2 (by omega) i2 (w5.tr i3)
                exact ⟨_, tx2, sm', rfl, e1, g2, w3.tr g3, e2, e3⟩
            · have neg : nI c - nI b < 0 := nI_sub_neg (by omega) (by omega)
              rw [if_pos neg, m_87n _ _ (fun z => Int32.not_lt.mpr z.1 neg), show (0 : Int32) + 1 = 1 from rfl]
              exact second tx tm _ w1 w2 w3 w4 w5
        obtain ⟨sm1, a1, a2, a3⟩ := m_begin hok hVM hp
        have hV1 : VM sm1 (qc q s (q 1 s)) C D re np ns := by rw [qc_self]; exact a2
        obtain ⟨r, sx', sm', k1, k2, k3, k4, k5, k6⟩ := key 4 1 FU FU sx sm1 _ (by omega) (by omega) (FU_gt (by omega)) (FU_gt (by omega)) hVX hE (fun o _ => rfl) hV1 (a3.up (by simp) (by simp))
        refine ⟨r, sx', sm', ?_, ?_, rel_keep hn hok hVX hVM hPl hT hR (edn_up k3 o3) k4 (k6.1 0 (by decide)) (fun o ho => ?_)⟩
        · unfold X7_edge
          rw [isS_y x5 hs (by omega), if_neg (by decide), x4, if_neg (nI_ne0 (by omega) (by omega)), x1, if_neg (nI_ne0 (by omega) (by omega)), cx3 (by omega), nm_eq, clI (by omega), show sx.1 3 = q 1 from x6 1 (by decide), hc]
          exact k1
        · unfold X8_edge
          rw [mS_y m5 hs (by omega), if_neg (by decide), m4, if_neg (nI_ne0 (by omega) (by omega)), m1, if_neg (nI_ne0 (by omega) (by omega)), cx3 (by omega), nm_eq, clI (by omega), show sm.1 2 = q 1 from m6 1 (by decide), hc, a1, bnd2_some]
          exact k2
        · by_cases h2 : o = 2
          · subst h2
            have e1 : sm'.1 2 = q 1 := k5.2.2.2.2.2 1 (by decide)
            have e2 : sm.1 2 = q 1 := m6 1 (by decide)
            rw [e1, e2]
          · exact k6.1 o (by simp; omega)
  · refine ⟨-1, sx, sm, ?_, ?_, rel_idle hn h⟩
    · unfold X7_edge
      rw [isS_n x5 hs (by omega), if_pos rfl]
    · unfold X8_edge
      rw [mS_n m5 hs (by omega), if_pos rfl]
