/-! the reference: one buyer, a day, the best table -/
def FL (I J : List Nat) (st st' : Sg) : Prop := (∀ o, o ∉ I → st'.1 o = st.1 o) ∧ ∀ o, o ∉ J → st'.2 o = st.2 o
theorem FL.rf {I J : List Nat} {st : Sg} : FL I J st st := ⟨fun _ _ => rfl, fun _ _ => rfl⟩
theorem FL.tr {I J : List Nat} {s1 s2 s3 : Sg} (h : FL I J s1 s2) (h2 : FL I J s2 s3) : FL I J s1 s3 := ⟨fun o q => (h2.1 o q).trans (h.1 o q), fun o q => (h2.2 o q).trans (h.2 o q)⟩
theorem FL.up {I J I' J' : List Nat} {s1 s2 : Sg} (h : FL I J s1 s2) (hI : ∀ o, o ∈ I → o ∈ I') (hJ : ∀ o, o ∈ J → o ∈ J') : FL I' J' s1 s2 := ⟨fun o q => h.1 o (fun z => q (hI o z)), fun o q => h.2 o (fun z => q (hJ o z))⟩
theorem sJ_fl {I J : List Nat} {st : Sg} {o k : Nat} {v : Int64} (h : o ∈ J) : FL I J st (sJ st o k v) := ⟨fun _ _ => rfl, fun j hj => sJ_ne (fun e => hj (e ▸ h))⟩
theorem sI_fl {I J : List Nat} {st : Sg} {o k : Nat} {v : Int32} (h : o ∈ I) : FL I J st (sI st o k v) := ⟨fun j hj => sI_ne (fun e => hj (e ▸ h)), fun _ _ => rfl⟩
theorem gt12 {i : Nat} (h : i < 13) : ¬ (12 : Int32) < nI i := nI_nlt (a := 12) (b := i) (by omega) (by decide)
theorem gt12' : (12 : Int32) < nI 13 := by decide
theorem m_beginEnd {st : Sg} {re : Nat} (hre : st.1 0 2 = nI re) : ∃ st', X8_beginEnd st = some st' ∧ FL [] [0, 7] st st' ∧ st'.2 0 12 = 1 ∧ ∀ n, n < 13 → st'.2 7 n = endV re n := by
  obtain ⟨t, ⟨h1, h2, h3⟩, he⟩ := loopU (L := fun k v (t : Sg) => X8_beginEnd_7 k v t) (E := fun t => X8_beginEnd_33 t) (fun i (t : Sg) => FL [] [0, 7] st t ∧ t.2 0 12 = 1 ∧ ∀ n, n < i → t.2 7 n = endV re n) 13
    (fun k i t hi ⟨a1, a2, a3⟩ => by
      refine ⟨sJ t 7 i (endV re i), ⟨a1.tr (sJ_fl (by decide)), by rw [sJ_at, if_neg (by omega)]; exact a2, fun n hn => ?_⟩, ?_⟩
      · rw [sJ_at]
        by_cases c : n = i
        · subst c; rw [if_pos ⟨rfl, rfl⟩]
        · rw [if_neg (fun z => c z.2)]; exact a3 n (by omega)
      · show X8_beginEnd_7b (X8_beginEnd_7 k) (nI i) t = _
        unfold X8_beginEnd_7b
        rw [if_neg (gt12 hi), cix_nI hi (by decide), nm_eq, nm_eq, nI_clamp (by omega), nI_1, a1.1 0 (by decide), hre]
        rfl)
    (fun k t _ => by
      show X8_beginEnd_7b (X8_beginEnd_7 k) (nI 13) t = _
      unfold X8_beginEnd_7b
      rw [if_pos gt12'])
    13 0 FU (sJ st 0 12 1) rfl (FU_gt (by decide)) ⟨sJ_fl (by decide), by rw [sJ_at, if_pos ⟨rfl, rfl⟩], fun n hn => by omega⟩
  refine ⟨t, ?_, h1, h2, h3⟩
  unfold X8_beginEnd
  rw [nm_eq]
  exact he
theorem m_buyer {st : Sg} {cv : Nat} {p : Int32} (hc : cv ≤ 4) (h0 : st.2 7 0 = 0) : ∃ st', X8_buyer (nI cv) p st = some st' ∧ FL [] [0, 7] st st' ∧ st'.2 0 12 = st.2 0 12 * 4 ∧ ∀ n, n < 13 → st'.2 7 n = rowU (nI cv) p (st.2 0 12) (st.2 7) n := by
  obtain ⟨t, ⟨h1, h2, h3⟩, he⟩ := loopD (L := fun k v (t : Sg) => X8_buyer_3 (nI cv) p k v t) (E := fun t => X8_buyer_83 t) (fun i (t : Sg) => FL [] [7] st t ∧ i ≤ 13 ∧ ∀ n, n < 13 → t.2 7 n = if n < i then st.2 7 n else rowU (nI cv) p (st.2 0 12) (st.2 7) n)
    (fun k i t ⟨a1, a2, a3⟩ => by
      have hi : i < 13 := by omega
      have b0 : t.2 7 i = st.2 7 i := by rw [a3 i hi, if_pos (by omega)]
      have f0 : t.2 0 12 = st.2 0 12 := by rw [a1.2 0 (by decide)]
      have nl : ¬ nI i < 0 := nI_pos (by omega)
      have cx : ∀ {α : Type} {k : Option α}, cix (nI i) 13 k = k := fun {α} {k} => cix_nI hi (by decide)
      have cl : (nI i).toNatClampNeg = i := nI_clamp (by omega)
      have fin : ∀ v : Int64, v = rowU (nI cv) p (st.2 0 12) (st.2 7) i → ∃ t', (FL [] [7] st t' ∧ i ≤ 13 ∧ ∀ n, n < 13 → t'.2 7 n = if n < i then st.2 7 n else rowU (nI cv) p (st.2 0 12) (st.2 7) n) ∧ X8_buyer_76 (X8_buyer_3 (nI cv) p k) (nI i) v (nI cv) p (nI i) t = X8_buyer_3 (nI cv) p k (nI i + (-1)) t' := by
        intro v hv
        refine ⟨sJ t 7 i v, ⟨a1.tr (sJ_fl (by decide)), by omega, fun n hn => ?_⟩, ?_⟩
        · rw [sJ_at]
          by_cases c : n = i
          · subst c; rw [if_pos ⟨rfl, rfl⟩, if_neg (by omega)]; exact hv
          · rw [if_neg (fun z => c z.2), a3 n hn]
            by_cases c2 : n < i
            · rw [if_pos c2, if_pos (by omega)]
            · rw [if_neg c2, if_neg (by omega)]
        · unfold X8_buyer_76
          rw [cx, nm_eq, nm_eq, cl]
      show ∃ t', _ ∧ X8_buyer_3b (X8_buyer_3 (nI cv) p k) (nI cv) p (nI i) t = _
      unfold X8_buyer_3b X8_buyer_19 X8_buyer_20
      rw [if_neg nl]
      by_cases ci : i = 0
      · subst ci
        rw [if_pos (by decide), if_pos rfl, cx, cl]
        refine fin _ ?_
        rw [b0, h0]
        unfold rowU
        rw [if_pos (Or.inl rfl), h0]
        decide
      · have n0 : ¬ nI i ≤ 0 := nI_nle (by omega) (by omega)
        have ev : rowU (nI cv) p (st.2 0 12) (st.2 7) i = (nI cv).toInt64 * (p.toInt64 * st.2 0 12 + st.2 7 (i - 1)) + (4 - nI cv).toInt64 * st.2 7 i := by
          unfold rowU UB
          rw [if_neg (by omega)]
        rw [if_neg n0]
        by_cases cz : cv = 0
        · subst cz
          rw [if_pos (by decide), if_pos rfl, cx, cl]
          refine fin _ ?_
          rw [b0, ev]
          have e1 : (nI 0).toInt64 = 0 := by decide
          have e2 : (4 - nI 0).toInt64 = 4 := by decide
          rw [e1, e2]
          grind
        · have nc : ¬ nI cv ≤ 0 := nI_nle (by omega) (by omega)
          have e3 : nI i - 1 = nI (i - 1) := pk_sub (a := i) (b := 1) (by omega)
          have b1 : t.2 7 (i - 1) = st.2 7 (i - 1) := by rw [a3 (i - 1) (by omega), if_pos (by omega)]
          rw [if_neg nc, if_neg (by decide), e3, cix_nI (show i - 1 < 13 by omega) (by decide), cx, cl, nI_clamp (show i - 1 < 2 ^ 31 by omega)]
          refine fin _ ?_
          rw [b0, b1, f0, ev])
    (fun k t _ => by
      show X8_buyer_3b (X8_buyer_3 (nI cv) p k) (nI cv) p (-1) t = _
      unfold X8_buyer_3b
      rw [if_pos (by decide)])
    13 FU st (FU_gt (by decide)) ⟨FL.rf, by omega, fun n hn => by rw [if_pos hn]⟩
  refine ⟨sJ t 0 12 (t.2 0 12 * 4), by unfold X8_buyer; rw [show (12 : Int32) = nI 13 + (-1) by decide]; exact he, (h1.up (by simp) (by simp)).tr (sJ_fl (by decide)), ?_, fun n hn => ?_⟩
  · rw [sJ_at, if_pos ⟨rfl, rfl⟩, h1.2 0 (by decide)]
  · rw [sJ_at, if_neg (by omega), h3 n hn, if_neg (by omega)]
theorem rowU_0 {c p : Int32} {fi : Int64} {b : Nat → Int64} (h : b 0 = 0) : rowU c p fi b 0 = 0 := by
  unfold rowU
  rw [if_pos (Or.inl rfl), h]
/-- a day at one price, from the last sort to the first -/
theorem m_dayAt {st : Sg} {q : Nat → Nat → Int32} {C D re np ns d p : Nat} (hok : Okd q C D re np ns) (hV : VM st q C D re np ns) (h0 : st.2 7 0 = 0) : ∃ st', X8_dayAt (nI d) (q 0 p) st = some st' ∧ FL [] [0, 7] st st' ∧ st'.2 0 12 = fi4 ns (st.2 0 12) ∧ (∀ n, n < 13 → st'.2 7 n = dayB (cb q d p) (q 0 p) ns (st.2 0 12) (st.2 7) n) := by
  obtain ⟨m1, m2, m3, m4, m5, m6⟩ := id hV
  have hns : ns ≤ 3 := hok.2.2.2.2.2.1
  obtain ⟨t, ⟨h1, h2, h3, h4⟩, he⟩ := loopD (L := fun k v (t : Sg) => X8_dayAt_7 (nI d) (q 0 p) k v t) (E := fun t => X8_dayAt_42 t) (fun i (t : Sg) => i ≤ ns ∧ FL [] [0, 7] st t ∧ (t.2 7 0 = 0 ∧ fi4 i (t.2 0 12) = fi4 ns (st.2 0 12)) ∧ ∀ n, n < 13 → dayB (cb q d p) (q 0 p) i (t.2 0 12) (t.2 7) n = dayB (cb q d p) (q 0 p) ns (st.2 0 12) (st.2 7) n)
    (fun k i t ⟨a1, a2, ⟨a3, a4⟩, a5⟩ => by
      have hi : i < 3 := by omega
      obtain ⟨cv, hcv, hcv4⟩ := cb_bd hok (d := d) (p := p) (s := i) (by omega)
      obtain ⟨t', e1, e2, e3, e4⟩ := m_buyer (p := q 0 p) hcv4 a3
      refine ⟨t', ⟨by omega, a2.tr e2, ⟨?_, ?_⟩, fun n hn => ?_⟩, ?_⟩
      · rw [e4 0 (by decide), rowU_0 a3]
      · rw [← a4, e3]; rfl
      · rw [← a5 n hn, e3]
        show _ = dayB (cb q d p) (q 0 p) i (t.2 0 12 * 4) (rowU (cb q d p i) (q 0 p) (t.2 0 12) (t.2 7)) n
        rw [hcv]
        exact dayB_cg i _ _ _ e4 n hn
      · show X8_dayAt_7b (X8_dayAt_7 (nI d) (q 0 p) k) (nI d) (q 0 p) (nI i) t = _
        unfold X8_dayAt_7b X8_dayAt_32
        rw [if_neg (nI_pos (by omega)), wv_M (q := q) (by rw [a2.1 3 (by decide)]; exact m6 2 (by decide)) (by rw [a2.1 4 (by decide)]; exact m6 3 (by decide)) hi]
        unfold cb at hcv
        by_cases c : wv q i d < q 0 p
        · rw [if_pos c] at hcv ⊢
          rw [hcv, e1]; rfl
        · rw [if_neg c] at hcv ⊢
          rw [cix_nI hi (by decide), nI_clamp (by omega), a2.1 2 (by decide), show st.1 2 = q 1 from m6 1 (by decide), hcv, e1]; rfl)
    (fun k t _ => by
      show X8_dayAt_7b (X8_dayAt_7 (nI d) (q 0 p) k) (nI d) (q 0 p) (-1) t = _
      unfold X8_dayAt_7b
      rw [if_pos (by decide)])
    ns FU st (FU_gt (by omega)) ⟨by omega, FL.rf, ⟨h0, rfl⟩, fun n hn => rfl⟩
  refine ⟨t, ?_, h2, h3.2, h4⟩
  unfold X8_dayAt
  rw [nm_eq, m5]
  have e : nI ns - 1 = nI ns + (-1) := by grind
  rw [e]
  exact he
