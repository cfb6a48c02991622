/-! the class: its table of means, the best -/
theorem loopD0 {τ α : Type} {L : Nat → Int32 → τ → Option α} {E : τ → Option α} (I : Nat → τ → Prop) (hs : ∀ k i t, I (i + 1) t → ∃ t', I i t' ∧ L (k + 1) (nI (i + 1)) t = L k (nI i) t') (hx : ∀ k t, I 0 t → L (k + 1) (nI 0) t = E t) : ∀ i k t, i < k → I i t → ∃ t', I 0 t' ∧ L k (nI i) t = E t' := by
  intro i
  induction i with
  | zero =>
    intro k t hk h
    obtain ⟨k, rfl⟩ : ∃ k', k = k' + 1 := ⟨k - 1, by omega⟩
    exact ⟨t, h, hx k t h⟩
  | succ i ih =>
    intro k t hk h
    obtain ⟨k, rfl⟩ : ∃ k', k = k' + 1 := ⟨k - 1, by omega⟩
    obtain ⟨t', h', he⟩ := hs k i t h
    obtain ⟨t2, h2, he2⟩ := ih k t' (by omega) h'
    exact ⟨t2, h2, he.trans he2⟩
theorem cx7 {α : Type} {i : Nat} {k : Option α} (h : i < 7) : cix (nI i) 7 k = k := cix_nI h (by decide)
theorem cx6 {α : Type} {i : Nat} {k : Option α} (h : i < 6) : cix (nI i) 6 k = k := cix_nI h (by decide)
theorem cx5 {α : Type} {i : Nat} {k : Option α} (h : i < 5) : cix (nI i) 5 k = k := cix_nI h (by decide)
theorem cx3 {α : Type} {i : Nat} {k : Option α} (h : i < 3) : cix (nI i) 3 k = k := cix_nI h (by decide)
theorem VX.keep {st st' : Sg} {q : Nat → Nat → Int32} {C D re np ns : Nat} (h : VX st q C D re np ns) (h0 : ∀ o, 1 ≤ o → o ≤ 6 → st'.1 o = st.1 o) : VX st' q C D re np ns := by
  obtain ⟨m1, m2, m3, m4, m5, m6⟩ := h
  exact ⟨by rw [h0 1 (by decide) (by decide)]; exact m1, by rw [h0 1 (by decide) (by decide)]; exact m2, by rw [h0 1 (by decide) (by decide)]; exact m3, by rw [h0 1 (by decide) (by decide)]; exact m4, by rw [h0 1 (by decide) (by decide)]; exact m5, fun i hi => by rw [h0 (2 + i) (by omega) (by omega)]; exact m6 i hi⟩
theorem x_fillEnd {st : Sg} {q : Nat → Nat → Int32} {C D re np ns b : Nat} (hok : Okd q C D re np ns) (hV : VX st q C D re np ns) : ∃ st', X4_fillEnd b st = some st' ∧ FL [] [b + 2 + D] st st' ∧ ∀ n, n < 13 → st'.2 (b + 2 + D) n = endV re n := by
  obtain ⟨x1, x2, x3, x4, x5, x6⟩ := id hV
  have hD : D ≤ 6 := hok.2.2.1
  obtain ⟨t, ⟨h1, h2⟩, he⟩ := loopU (L := fun k v (t : Sg) => X4_fillEnd_2 b k v t) (E := fun t => X4_fillEnd_33 b t) (fun i (t : Sg) => FL [] [b + 2 + D] st t ∧ ∀ n, n < i → t.2 (b + 2 + D) n = endV re n) 13
    (fun k i t hi ⟨a1, a2⟩ => by
      refine ⟨sJ t (b + 2 + D) i (endV re i), ⟨a1.tr (sJ_fl (by simp)), fun n hn => ?_⟩, ?_⟩
      · rw [sJ_at]
        by_cases c : n = i
        · subst c; rw [if_pos ⟨rfl, rfl⟩]
        · rw [if_neg (by omega)]; exact a2 n (by omega)
      · show X4_fillEnd_2b b (X4_fillEnd_2 b k) (nI i) t = _
        unfold X4_fillEnd_2b
        rw [if_neg (gt12 hi), a1.1 1 (by simp), x2, x3, cx7 (by omega), cx13 hi, nm_eq, nm_eq, clI (by omega), clI (by omega), nI_1]
        rfl)
    (fun k t _ => by
      show X4_fillEnd_2b b (X4_fillEnd_2 b k) (nI 13) t = _
      unfold X4_fillEnd_2b
      rw [if_pos gt12'])
    13 0 FU st rfl (FU_gt (by decide)) ⟨FL.rf, fun n hn => by omega⟩
  refine ⟨t, ?_, h1, h2⟩
  unfold X4_fillEnd
  rw [show (0 : Int32) = nI 0 from rfl]
  exact he
theorem x_back {st : Sg} {b : Nat} {c p : Int32} {fi : Int64} : ∃ st', X4_backByBuyer b c (p.toInt64 * fi) st = some st' ∧ FL [] [b + 16] st st' ∧ ∀ n, n < 13 → st'.2 (b + 16) n = rowU c p fi (st.2 (b + 16)) n := by
  obtain ⟨t, ⟨h1, h2, h3⟩, he⟩ := loopD0 (L := fun k v (t : Sg) => X4_backByBuyer_4 b c (p.toInt64 * fi) k v t) (E := fun t => X4_backByBuyer_49 b t) (fun i (t : Sg) => FL [] [b + 16] st t ∧ i ≤ 12 ∧ ∀ n, n < 13 → t.2 (b + 16) n = if n ≤ i then st.2 (b + 16) n else rowU c p fi (st.2 (b + 16)) n)
    (fun k i t ⟨a1, a2, a3⟩ => by
      have e3 : nI (i + 1) - 1 = nI i := nI_pred i
      have b0 : t.2 (b + 16) (i + 1) = st.2 (b + 16) (i + 1) := by rw [a3 (i + 1) (by omega), if_pos (by omega)]
      have b1 : t.2 (b + 16) i = st.2 (b + 16) i := by rw [a3 i (by omega), if_pos (by omega)]
      have ev : rowU c p fi (st.2 (b + 16)) (i + 1) = c.toInt64 * (p.toInt64 * fi + st.2 (b + 16) i) + (4 - c).toInt64 * st.2 (b + 16) (i + 1) := by
        unfold rowU UB
        rw [if_neg (by omega)]
        rfl
      refine ⟨sJ t (b + 16) (i + 1) (rowU c p fi (st.2 (b + 16)) (i + 1)), ⟨a1.tr (sJ_fl (by simp)), by omega, fun n hn => ?_⟩, ?_⟩
      · rw [sJ_at]
        by_cases ce : n = i + 1
        · subst ce; rw [if_pos ⟨rfl, rfl⟩, if_neg (by omega)]
        · rw [if_neg (by omega), a3 n hn]
          by_cases c2 : n ≤ i
          · rw [if_pos c2, if_pos (by omega)]
          · rw [if_neg c2, if_neg (by omega)]
      · show X4_backByBuyer_4b b (X4_backByBuyer_4 b c (p.toInt64 * fi) k) c (p.toInt64 * fi) (nI (i + 1)) t = _
        unfold X4_backByBuyer_4b
        rw [if_neg (nI_nle (by omega) (by omega)), e3, cx13 (by omega), cx13 (by omega), cx13 (by omega), nm_eq, nm_eq, clI (by omega), clI (by omega), b0, b1, ← ev, nI_m1])
    (fun k t _ => by
      show X4_backByBuyer_4b b (X4_backByBuyer_4 b c (p.toInt64 * fi) k) c (p.toInt64 * fi) (nI 0) t = _
      unfold X4_backByBuyer_4b
      rw [if_pos (by decide)])
    12 FU st (FU_gt (by decide)) ⟨FL.rf, by omega, fun n hn => by rw [if_pos (by omega)]⟩
  refine ⟨t, ?_, h1, fun n hn => ?_⟩
  · unfold X4_backByBuyer
    rw [show (12 : Int32) = nI 12 from rfl]
    exact he
  · rw [h3 n hn]
    by_cases cz : n = 0
    · subst cz
      rw [if_pos (by omega)]
      unfold rowU
      rw [if_pos (Or.inl rfl)]
    · rw [if_neg (by omega)]
theorem x_cb {α : Type} {sx : Sg} {q : Nat → Nat → Int32} {C D re np ns s d p : Nat} {k : Int32 → Option α} (hok : Okd q C D re np ns) (hV : VX sx q C D re np ns) (hs : s < ns) (hp : p < np) : bnd1 (X3_chanceToBuy (nI s) (nI d) (nI p) sx) k = k (cb q d p s) := by
  obtain ⟨x1, x2, x3, x4, x5, x6⟩ := id hV
  have hns : ns ≤ 3 := hok.2.2.2.2.2.1
  have hnp : np ≤ 5 := hok.2.2.2.2.1
  unfold X3_chanceToBuy X3_chanceToBuy_25
  rw [wv_X (q := q) (x6 2 (by decide)) (x6 3 (by decide)) (by omega), cx5 (by omega), clI (by omega), show sx.1 2 = q 0 from x6 0 (by decide)]
  unfold cb
  by_cases c : wv q s d < q 0 p
  · rw [if_pos c, if_pos c]; rfl
  · rw [if_neg c, if_neg c, cx3 (by omega), clI (by omega), show sx.1 3 = q 1 from x6 1 (by decide)]; rfl
theorem okC13 : okC 0 0 13 13 13 := by unfold okC; decide
theorem cpy13 {f g : Nat → Int64} {n : Nat} (h : n < 13) : va_cpy f g (0 : Int32).toNatClampNeg (0 : Int32).toNatClampNeg (13 : Int32).toNatClampNeg n = f n := by
  have e0 : (0 : Int32).toNatClampNeg = 0 := by decide
  have e1 : (13 : Int32).toNatClampNeg = 13 := by decide
  rw [e0, e1]
  unfold va_cpy
  rw [if_pos (by omega)]
  congr 1
  omega
theorem x_rowFor {st : Sg} {q : Nat → Nat → Int32} {C D re np ns b d p : Nat} (hb : 8 ≤ b) (hok : Okd q C D re np ns) (hV : VX st q C D re np ns) (hd : d < D) (hp : p < np) : ∃ st', X4_rowFor b (nI d) (nI p) st = some st' ∧ FL [] [b + 16] st st' ∧ ∀ n, n < 13 → st'.2 (b + 16) n = dayB (cb q d p) (q 0 p) ns (FI (ns * (D - 1 - d))) (st.2 (b + 2 + (d + 1))) n := by
  obtain ⟨x1, x2, x3, x4, x5, x6⟩ := id hV
  obtain ⟨o1, o2, o3, o4, o5, o6, o7⟩ := id hok
  obtain ⟨st3, hst3⟩ : ∃ z, z = sJr st (b + 16) (va_cpy (st.2 (b + 2 + (d + 1))) (st.2 (b + 16)) (0 : Int32).toNatClampNeg (0 : Int32).toNatClampNeg (13 : Int32).toNatClampNeg) := ⟨_, rfl⟩
  have hf3 : FL [] [b + 16] st st3 := by
    rw [hst3]
    exact ⟨fun _ _ => rfl, fun o ho => by simp [sJr, va_up]; intro h; exact absurd h (by simpa using ho)⟩
  have hr3 : ∀ n, n < 13 → st3.2 (b + 16) n = st.2 (b + 2 + (d + 1)) n := fun n hn => by
    rw [hst3]
    show va_up st.2 (b + 16) _ (b + 16) n = _
    unfold va_up
    rw [if_pos rfl, cpy13 hn]
  obtain ⟨⟨x, t⟩, ⟨h1, h2, h3⟩, he⟩ := loopD (L := fun k v (t : Int64 × Sg) => X4_rowFor_41 b (nI d) (nI p) k t.1 v t.2) (E := fun t => X4_rowFor_82 b t.2) (fun i (t : Int64 × Sg) => i ≤ ns ∧ FL [] [b + 16] st t.2 ∧ ∀ n, n < 13 → dayB (cb q d p) (q 0 p) i t.1 (t.2.2 (b + 16)) n = dayB (cb q d p) (q 0 p) ns (FI (ns * (D - 1 - d))) (st.2 (b + 2 + (d + 1))) n)
    (fun k i t ⟨a1, a2, a3⟩ => by
      obtain ⟨x, t⟩ := t
      dsimp only at a1 a2 a3
      have hVt : VX t q C D re np ns := hV.keep (fun o h1 h2 => a2.1 o (by simp))
      obtain ⟨t', e1, e2, e3⟩ := x_back (st := t) (b := b) (c := cb q d p i) (p := q 0 p) (fi := x)
      refine ⟨(x * 4, t'), ⟨by omega, a2.tr e2, fun n hn => ?_⟩, ?_⟩
      · dsimp only
        rw [← a3 n hn]
        exact dayB_cg i _ _ _ e3 n hn
      · show X4_rowFor_41b b (X4_rowFor_41 b (nI d) (nI p) k) (nI d) (nI p) x (nI i) t = _
        unfold X4_rowFor_41b
        rw [if_neg (nI_pos (by omega)), x_cb hok hVt (by omega) hp, cx5 (by omega), clI (by omega), show t.1 2 = q 0 from (by rw [a2.1 2 (by simp)]; exact x6 0 (by decide)), e1, bnd1_some, nm_eq, nm_eq])
    (fun k t _ => by
      show X4_rowFor_41b b (X4_rowFor_41 b (nI d) (nI p) k) (nI d) (nI p) t.1 (-1) t.2 = _
      unfold X4_rowFor_41b
      rw [if_pos (by decide)])
    ns FU (FI (ns * (D - 1 - d)), st3) (FU_gt (by omega)) ⟨Nat.le_refl ns, hf3, fun n hn => dayB_cg ns _ _ _ hr3 n hn⟩
  dsimp only at h1 h2 h3
  refine ⟨t, ?_, h2, h3⟩
  unfold X4_rowFor
  have e : nI ns - 1 = nI ns + (-1) := by grind
  have eD : nI D - 1 - nI d = nI (D - 1 - d) := by rw [show (1 : Int32) = nI 1 from rfl, pk_sub (by omega), pk_sub (by omega)]
  have hm : ns * (D - 1 - d) < 19 := by
    have : ns * (D - 1 - d) ≤ 3 * 6 := Nat.mul_le_mul o6 (by omega)
    omega
  rw [nI_1, cx7 (by omega), cpc_ok okC13, nm_eq, clI (by omega), ← hst3, hf3.1 1 (by simp), x2, eD, sc_X (ns := ns) (by rw [hf3.1 1 (by simp)]; exact x5) hm, bnd1_some, nm_eq, x5, e]
  exact he
theorem x_takeGreater {st : Sg} {b d p : Nat} (hd : d < 6) (hp : p < 5) : ∃ st', X4_takeGreater b (nI d) (nI p) st = some st' ∧ FL [b + 10 + d] [b + 2 + d] st st' ∧ ∀ n, n < 13 → st'.2 (b + 2 + d) n = (if p = 0 ∨ st.2 (b + 2 + d) n < st.2 (b + 16) n then st.2 (b + 16) n else st.2 (b + 2 + d) n) ∧ st'.1 (b + 10 + d) n = (if p = 0 ∨ st.2 (b + 2 + d) n < st.2 (b + 16) n then nI p else st.1 (b + 10 + d) n) := by
  obtain ⟨t, ⟨h1, h2, h3⟩, he⟩ := loopU (L := fun k v (t : Sg) => X4_takeGreater_2 b (nI d) (nI p) k v t) (E := fun t => X4_takeGreater_59 b t) (fun i (t : Sg) => FL [b + 10 + d] [b + 2 + d] st t ∧ (∀ n, n < i → t.2 (b + 2 + d) n = (if p = 0 ∨ st.2 (b + 2 + d) n < st.2 (b + 16) n then st.2 (b + 16) n else st.2 (b + 2 + d) n) ∧ t.1 (b + 10 + d) n = (if p = 0 ∨ st.2 (b + 2 + d) n < st.2 (b + 16) n then nI p else st.1 (b + 10 + d) n)) ∧ ∀ n, i ≤ n → t.2 (b + 2 + d) n = st.2 (b + 2 + d) n ∧ t.1 (b + 10 + d) n = st.1 (b + 10 + d) n) 13
    (fun k i t hi ⟨a1, a2, a3⟩ => by
      have hrow : t.2 (b + 16) = st.2 (b + 16) := a1.2 (b + 16) (by simp; omega)
      have take : ∀ (c : p = 0 ∨ st.2 (b + 2 + d) i < st.2 (b + 16) i), ∃ t', (FL [b + 10 + d] [b + 2 + d] st t' ∧ (∀ n, n < i + 1 → t'.2 (b + 2 + d) n = (if p = 0 ∨ st.2 (b + 2 + d) n < st.2 (b + 16) n then st.2 (b + 16) n else st.2 (b + 2 + d) n) ∧ t'.1 (b + 10 + d) n = (if p = 0 ∨ st.2 (b + 2 + d) n < st.2 (b + 16) n then nI p else st.1 (b + 10 + d) n)) ∧ ∀ n, i + 1 ≤ n → t'.2 (b + 2 + d) n = st.2 (b + 2 + d) n ∧ t'.1 (b + 10 + d) n = st.1 (b + 10 + d) n) ∧ X4_takeGreater_30 b (X4_takeGreater_2 b (nI d) (nI p) k) (nI d) (nI p) (nI i) t = X4_takeGreater_2 b (nI d) (nI p) k (nI (i + 1)) t' := by
        intro c
        refine ⟨sI (sJ t (b + 2 + d) i (st.2 (b + 16) i)) (b + 10 + d) i (nI p), ⟨(a1.tr (sJ_fl (by simp))).tr (sI_fl (by simp)), fun n hn => ?_, fun n hn => ?_⟩, ?_⟩
        · by_cases ce : n = i
          · subst ce
            refine ⟨?_, ?_⟩
            · rw [sI_2, sJ_at, if_pos ⟨rfl, rfl⟩, if_pos c]
            · rw [sI_at, if_pos ⟨rfl, rfl⟩, if_pos c]
          · refine ⟨?_, ?_⟩
            · rw [sI_2, sJ_at, if_neg (by omega)]; exact (a2 n (by omega)).1
            · rw [sI_at, sJ_1, if_neg (by omega)]; exact (a2 n (by omega)).2
        · refine ⟨?_, ?_⟩
          · rw [sI_2, sJ_at, if_neg (by omega)]; exact (a3 n (by omega)).1
          · rw [sI_at, sJ_1, if_neg (by omega)]; exact (a3 n (by omega)).2
        · unfold X4_takeGreater_30 X4_takeGreater_53
          rw [cx7 (by omega), cx13 hi, cx13 hi, nm_eq, cx6 hd, cx13 hi, nm_eq, nm_eq, clI (by omega), clI (by omega), nI_1, hrow]
      show ∃ t', _ ∧ X4_takeGreater_2b b (X4_takeGreater_2 b (nI d) (nI p) k) (nI d) (nI p) (nI i) t = _
      unfold X4_takeGreater_2b
      simp only [lg_le0]
      rw [if_neg (gt12 hi)]
      by_cases cp : p = 0
      · rw [if_pos (by rw [cp]; rfl)]
        exact take (Or.inl cp)
      · rw [if_neg (nI_ne0 (by omega) (by omega)), cx13 hi, cx7 (by omega), cx13 hi, clI (by omega), clI (by omega), hrow, (a3 i (Nat.le_refl i)).1]
        by_cases c : st.2 (b + 2 + d) i < st.2 (b + 16) i
        · rw [if_neg (fun z => z c)]
          exact take (Or.inr c)
        · rw [if_pos c]
          unfold X4_takeGreater_53
          rw [nm_eq, nI_1]
          refine ⟨t, ⟨a1, fun n hn => ?_, fun n hn => a3 n (by omega)⟩, rfl⟩
          by_cases ce : n = i
          · subst ce
            have cn : ¬ (p = 0 ∨ st.2 (b + 2 + d) n < st.2 (b + 16) n) := by
              rintro (z | z)
              · exact cp z
              · exact c z
            rw [if_neg cn, if_neg cn]; exact a3 n (Nat.le_refl n)
          · exact a2 n (by omega))
    (fun k t _ => by
      show X4_takeGreater_2b b (X4_takeGreater_2 b (nI d) (nI p) k) (nI d) (nI p) (nI 13) t = _
      unfold X4_takeGreater_2b
      rw [if_pos gt12'])
    13 0 FU st rfl (FU_gt (by decide)) ⟨FL.rf, fun n hn => by omega, fun n _ => ⟨rfl, rfl⟩⟩
  refine ⟨t, ?_, h1, h2⟩
  unfold X4_takeGreater
  rw [show (0 : Int32) = nI 0 from rfl]
  exact he
