theorem ix13 (d n : Nat) : (13 * nI d) + nI n = nI (13 * d + n) := by
  rw [show (13 : Int32) = nI 13 from rfl, pk_mul, nI_add]
theorem cx13 {α : Type} {i : Nat} {k : Option α} (h : i < 13) : cix (nI i) 13 k = k := cix_nI h (by decide)
theorem cx91 {α : Type} {i : Nat} {k : Option α} (h : i < 91) : cix (nI i) 91 k = k := cix_nI h (by decide)
theorem cx78 {α : Type} {i : Nat} {k : Option α} (h : i < 78) : cix (nI i) 78 k = k := cix_nI h (by decide)
theorem clI {i : Nat} (h : i < 1000) : (nI i).toNatClampNeg = i := nI_clamp (by omega)
theorem m_keepRow {st : Sg} {d : Nat} (hd : d ≤ 6) : ∃ st', X8_keepRow (nI d) st = some st' ∧ FL [] [8] st st' ∧ (∀ n, n < 13 → st'.2 8 (13 * d + n) = st.2 7 n) := by
  obtain ⟨t, ⟨h1, h2⟩, he⟩ := loopU (L := fun k v (t : Sg) => X8_keepRow_2 (nI d) k v t) (E := fun t => X8_keepRow_31 t) (fun i (t : Sg) => FL [] [8] st t ∧ ∀ n, n < i → t.2 8 (13 * d + n) = st.2 7 n) 13
    (fun k i t hi ⟨a1, a2⟩ => by
      refine ⟨sJ t 8 (13 * d + i) (st.2 7 i), ⟨a1.tr (sJ_fl (by decide)), fun n hn => ?_⟩, ?_⟩
      · rw [sJ_at]
        by_cases c : n = i
        · subst c; rw [if_pos ⟨rfl, rfl⟩]
        · rw [if_neg (by omega)]; exact a2 n (by omega)
      · show X8_keepRow_2b (X8_keepRow_2 (nI d) k) (nI d) (nI i) t = _
        unfold X8_keepRow_2b
        rw [if_neg (gt12 hi), cx13 hi, ix13, cx91 (by omega), nm_eq, nm_eq, clI (by omega), clI (by omega), nI_1, a1.2 7 (by decide)])
    (fun k t _ => by
      show X8_keepRow_2b (X8_keepRow_2 (nI d) k) (nI d) (nI 13) t = _
      unfold X8_keepRow_2b
      rw [if_pos gt12'])
    13 0 FU st rfl (FU_gt (by decide)) ⟨FL.rf, fun n hn => by omega⟩
  refine ⟨t, ?_, h1, h2⟩
  unfold X8_keepRow
  rw [show (0 : Int32) = nI 0 from rfl]
  exact he
theorem m_fb31 {st : Sg} {d : Nat} (hd : d < 6) (rc : Int64 → Int32 → Sg → Option Sg) (x : Int64) : ∃ st', X8_findBest_31 rc x (nI d) FU 0 st = X8_findBest_73 rc x (nI d) st' ∧ FL [] [8, 10] st st' ∧ (∀ n, n < 13 → st'.2 10 n = st.2 7 n) ∧ (∀ n, n < 13 → st'.2 8 (13 * d + n) = -1) ∧ ∀ m, (m < 13 * d ∨ 13 * d + 13 ≤ m) → st'.2 8 m = st.2 8 m := by
  obtain ⟨t, ⟨h1, h2, h3, h4⟩, he⟩ := loopU (L := fun k v (t : Sg) => X8_findBest_31 rc x (nI d) k v t) (E := fun t => X8_findBest_73 rc x (nI d) t) (fun i (t : Sg) => FL [] [8, 10] st t ∧ (∀ n, n < i → t.2 10 n = st.2 7 n) ∧ (∀ n, n < i → t.2 8 (13 * d + n) = -1) ∧ ∀ m, (m < 13 * d ∨ 13 * d + 13 ≤ m) → t.2 8 m = st.2 8 m) 13
    (fun k i t hi ⟨a1, a2, a3, a4⟩ => by
      refine ⟨sJ (sJ t 10 i (st.2 7 i)) 8 (13 * d + i) (-1), ⟨(a1.tr (sJ_fl (by decide))).tr (sJ_fl (by decide)), fun n hn => ?_, fun n hn => ?_, fun m hm => ?_⟩, ?_⟩
      · rw [sJ_at, if_neg (by omega), sJ_at]
        by_cases c : n = i
        · subst c; rw [if_pos ⟨rfl, rfl⟩]
        · rw [if_neg (by omega)]; exact a2 n (by omega)
      · rw [sJ_at]
        by_cases c : n = i
        · subst c; rw [if_pos ⟨rfl, rfl⟩]
        · rw [if_neg (by omega), sJ_at, if_neg (by omega)]; exact a3 n (by omega)
      · rw [sJ_at, if_neg (by omega), sJ_at, if_neg (by omega)]; exact a4 m hm
      · show X8_findBest_31b rc (X8_findBest_31 rc x (nI d) k) x (nI d) (nI i) t = _
        unfold X8_findBest_31b
        rw [if_neg (gt12 hi), cx13 hi, cx13 hi, nm_eq, ix13, cx91 (by omega), nm_eq, nm_eq, clI (by omega), clI (by omega), nI_1, a1.2 7 (by decide)])
    (fun k t _ => by
      show X8_findBest_31b rc (X8_findBest_31 rc x (nI d) k) x (nI d) (nI 13) t = _
      unfold X8_findBest_31b
      rw [if_pos gt12'])
    13 0 FU st rfl (FU_gt (by decide)) ⟨FL.rf, fun n hn => by omega, fun n hn => by omega, fun m hm => rfl⟩
  refine ⟨t, ?_, h1, h2, h3, h4⟩
  rw [show (0 : Int32) = nI 0 from rfl]
  exact he
theorem m_fb93 {st : Sg} {d p : Nat} (rc : Int64 → Int32 → Sg → Option Sg) (rc2 : Int32 → Sg → Option Sg) (x : Int64) : ∃ st', X8_findBest_93 rc rc2 x (nI d) (nI p) FU 0 st = X8_findBest_120 rc rc2 x (nI d) (nI p) st' ∧ FL [] [7] st st' ∧ (∀ n, n < 13 → st'.2 7 n = st.2 10 n) := by
  obtain ⟨t, ⟨h1, h2⟩, he⟩ := loopU (L := fun k v (t : Sg) => X8_findBest_93 rc rc2 x (nI d) (nI p) k v t) (E := fun t => X8_findBest_120 rc rc2 x (nI d) (nI p) t) (fun i (t : Sg) => FL [] [7] st t ∧ ∀ n, n < i → t.2 7 n = st.2 10 n) 13
    (fun k i t hi ⟨a1, a2⟩ => by
      refine ⟨sJ t 7 i (st.2 10 i), ⟨a1.tr (sJ_fl (by decide)), fun n hn => ?_⟩, ?_⟩
      · rw [sJ_at]
        by_cases c : n = i
        · subst c; rw [if_pos ⟨rfl, rfl⟩]
        · rw [if_neg (by omega)]; exact a2 n (by omega)
      · show X8_findBest_93b rc rc2 (X8_findBest_93 rc rc2 x (nI d) (nI p) k) x (nI d) (nI p) (nI i) t = _
        unfold X8_findBest_93b
        rw [if_neg (gt12 hi), cx13 hi, cx13 hi, nm_eq, nm_eq, clI (by omega), nI_1, a1.2 10 (by decide)])
    (fun k t _ => by
      show X8_findBest_93b rc rc2 (X8_findBest_93 rc rc2 x (nI d) (nI p) k) x (nI d) (nI p) (nI 13) t = _
      unfold X8_findBest_93b
      rw [if_pos gt12'])
    13 0 FU st rfl (FU_gt (by decide)) ⟨FL.rf, fun n hn => by omega⟩
  refine ⟨t, ?_, h1, h2⟩
  rw [show (0 : Int32) = nI 0 from rfl]
  exact he
theorem m_fb213 {st : Sg} {d : Nat} (hd : d < 6) (rc : Int64 → Int32 → Sg → Option Sg) : ∃ st', X8_findBest_213 rc (nI d) FU 0 st = X8_findBest_245 rc (nI d) st' ∧ FL [] [7] st st' ∧ (∀ n, n < 13 → st'.2 7 n = st.2 8 (13 * d + n)) := by
  obtain ⟨t, ⟨h1, h2⟩, he⟩ := loopU (L := fun k v (t : Sg) => X8_findBest_213 rc (nI d) k v t) (E := fun t => X8_findBest_245 rc (nI d) t) (fun i (t : Sg) => FL [] [7] st t ∧ ∀ n, n < i → t.2 7 n = st.2 8 (13 * d + n)) 13
    (fun k i t hi ⟨a1, a2⟩ => by
      refine ⟨sJ t 7 i (st.2 8 (13 * d + i)), ⟨a1.tr (sJ_fl (by decide)), fun n hn => ?_⟩, ?_⟩
      · rw [sJ_at]
        by_cases c : n = i
        · subst c; rw [if_pos ⟨rfl, rfl⟩]
        · rw [if_neg (by omega)]; exact a2 n (by omega)
      · show X8_findBest_213b rc (X8_findBest_213 rc (nI d) k) (nI d) (nI i) t = _
        unfold X8_findBest_213b
        rw [if_neg (gt12 hi), ix13, cx91 (by omega), cx13 hi, nm_eq, nm_eq, clI (by omega), clI (by omega), nI_1, a1.2 8 (by decide)])
    (fun k t _ => by
      show X8_findBest_213b rc (X8_findBest_213 rc (nI d) k) (nI d) (nI 13) t = _
      unfold X8_findBest_213b
      rw [if_pos gt12'])
    13 0 FU st rfl (FU_gt (by decide)) ⟨FL.rf, fun n hn => by omega⟩
  refine ⟨t, ?_, h1, h2⟩
  rw [show (0 : Int32) = nI 0 from rfl]
  exact he
/-- one price's row against the best so far -/
theorem m_fb135 {st : Sg} {d p : Nat} (hd : d < 6) (rc : Int64 → Int32 → Sg → Option Sg) (rc2 : Int32 → Sg → Option Sg) (x : Int64) : ∃ st', X8_findBest_135 rc rc2 x (nI d) (nI p) FU 0 st = X8_findBest_204 rc rc2 x (nI d) (nI p) st' ∧ FL [9] [8] st st' ∧ (∀ n, n < 13 → st'.2 8 (13 * d + n) = (if st.2 8 (13 * d + n) < st.2 7 n then st.2 7 n else st.2 8 (13 * d + n)) ∧ st'.1 9 (13 * d + n) = (if st.2 8 (13 * d + n) < st.2 7 n then nI p else st.1 9 (13 * d + n))) ∧ ∀ m, (m < 13 * d ∨ 13 * d + 13 ≤ m) → st'.2 8 m = st.2 8 m ∧ st'.1 9 m = st.1 9 m := by
  obtain ⟨t, ⟨h1, h2, h3, h4⟩, he⟩ := loopU (L := fun k v (t : Sg) => X8_findBest_135 rc rc2 x (nI d) (nI p) k v t) (E := fun t => X8_findBest_204 rc rc2 x (nI d) (nI p) t) (fun i (t : Sg) => FL [9] [8] st t ∧ (∀ n, n < i → t.2 8 (13 * d + n) = (if st.2 8 (13 * d + n) < st.2 7 n then st.2 7 n else st.2 8 (13 * d + n)) ∧ t.1 9 (13 * d + n) = (if st.2 8 (13 * d + n) < st.2 7 n then nI p else st.1 9 (13 * d + n))) ∧ (∀ n, i ≤ n → t.2 8 (13 * d + n) = st.2 8 (13 * d + n) ∧ t.1 9 (13 * d + n) = st.1 9 (13 * d + n)) ∧ ∀ m, (m < 13 * d ∨ 13 * d + 13 ≤ m) → t.2 8 m = st.2 8 m ∧ t.1 9 m = st.1 9 m) 13
    (fun k i t hi ⟨a1, a2, a3, a4⟩ => by
      show ∃ t', _ ∧ X8_findBest_135b rc rc2 (X8_findBest_135 rc rc2 x (nI d) (nI p) k) x (nI d) (nI p) (nI i) t = _
      unfold X8_findBest_135b X8_findBest_198
      simp only [lg_le0]
      rw [if_neg (gt12 hi), cx13 hi, ix13, cx91 (by omega), cx13 hi, cx91 (by omega), clI (by omega), clI (by omega), a1.2 7 (by decide), (a3 i (Nat.le_refl i)).1]
      by_cases c : st.2 8 (13 * d + i) < st.2 7 i
      · rw [if_neg (fun z => z c), nm_eq, cx78 (by omega), nm_eq, nm_eq, nI_1]
        refine ⟨sI (sJ t 8 (13 * d + i) (st.2 7 i)) 9 (13 * d + i) (nI p), ⟨(a1.tr (sJ_fl (by decide))).tr (sI_fl (by decide)), fun n hn => ?_, fun n hn => ?_, fun m hm => ?_⟩, rfl⟩
        · by_cases ce : n = i
          · subst ce
            refine ⟨?_, ?_⟩
            · rw [sI_2, sJ_at, if_pos ⟨rfl, rfl⟩, if_pos c]
            · rw [sI_at, if_pos ⟨rfl, rfl⟩, if_pos c]
          · refine ⟨?_, ?_⟩
            · rw [sI_2, sJ_at, if_neg (by omega)]; exact (a2 n (by omega)).1
            · rw [sI_at, sJ_1, if_neg (by omega)]; exact (a2 n (by omega)).2
        · rw [sI_2, sJ_at, sI_at, sJ_1, if_neg (by omega), if_neg (by omega)]; exact a3 n (by omega)
        · rw [sI_2, sJ_at, sI_at, sJ_1, if_neg (by omega), if_neg (by omega)]; exact a4 m hm
      · rw [if_pos c, nm_eq, nI_1]
        refine ⟨t, ⟨a1, fun n hn => ?_, fun n hn => a3 n (by omega), a4⟩, rfl⟩
        by_cases ce : n = i
        · subst ce; rw [if_neg c, if_neg c]; exact a3 n (Nat.le_refl n)
        · exact a2 n (by omega))
    (fun k t _ => by
      show X8_findBest_135b rc rc2 (X8_findBest_135 rc rc2 x (nI d) (nI p) k) x (nI d) (nI p) (nI 13) t = _
      unfold X8_findBest_135b
      rw [if_pos gt12'])
    13 0 FU st rfl (FU_gt (by decide)) ⟨FL.rf, fun n hn => by omega, fun n _ => ⟨rfl, rfl⟩, fun m hm => ⟨rfl, rfl⟩⟩
  refine ⟨t, ?_, h1, h2, h4⟩
  rw [show (0 : Int32) = nI 0 from rfl]
  exact he
theorem VM.keep {st st' : Sg} {q : Nat → Nat → Int32} {C D re np ns : Nat} (h : VM st q C D re np ns) (h0 : ∀ o, o ≤ 5 → st'.1 o = st.1 o) : VM st' q C D re np ns := by
  obtain ⟨m1, m2, m3, m4, m5, m6⟩ := h
  exact ⟨by rw [h0 0 (by decide)]; exact m1, by rw [h0 0 (by decide)]; exact m2, by rw [h0 0 (by decide)]; exact m3, by rw [h0 0 (by decide)]; exact m4, by rw [h0 0 (by decide)]; exact m5, fun i hi => by rw [h0 (1 + i) (by omega)]; exact m6 i hi⟩
/-- the prices of one day -/
theorem m_fb73 {st : Sg} {q : Nat → Nat → Int32} {C D re np ns d : Nat} {F : Nat} {b : Nat → Int64} (hok : Okd q C D re np ns) (hV : VM st q C D re np ns) (hp : 0 < np) (hd : d < 6) (hF : F * 4 ^ ns < 2 ^ 40) (hb : Bd F b) (hw : ∀ n, n < 13 → st.2 10 n = b n) (hm : ∀ n, n < 13 → st.2 8 (13 * d + n) = -1) (rc : Int64 → Int32 → Sg → Option Sg) :
    ∃ st', X8_findBest_73 rc (lN F) (nI d) st = X8_findBest_210 rc (nI d) st' ∧ FL [9] [0, 7, 8] st st' ∧ st'.2 0 12 = fi4 ns (lN F) ∧ (∀ n, n < 13 → st'.2 8 (13 * d + n) = bsV (fun p => dayB (cb q d p) (q 0 p) ns (lN F) b) n np ∧ st'.1 9 (13 * d + n) = nI (bsA (fun p => dayB (cb q d p) (q 0 p) ns (lN F) b) n np)) ∧ ∀ m, (m < 13 * d ∨ 13 * d + 13 ≤ m) → st'.2 8 m = st.2 8 m ∧ st'.1 9 m = st.1 9 m := by
  obtain ⟨m1, m2, m3, m4, m5, m6⟩ := id hV
  have hnp : np ≤ 5 := hok.2.2.2.2.1
  have hrow : ∀ p, p < np → Bd (F * 4 ^ ns) (dayB (cb q d p) (q 0 p) ns (lN F) b) := fun p hpn => by
    obtain ⟨v, h1, h2, h3⟩ := hok.2.2.2.2.2.2.1 p hpn
    exact dayB_bd h1 h3 ns F b (fun i hi => cb_bd hok hi) hb
  obtain ⟨t, ⟨h1, h2, h3, h4, h5⟩, he⟩ := loopU (L := fun k v (t : Sg) => X8_findBest_76 rc (lN F) (nI d) k v t) (E := fun t => X8_findBest_210 rc (nI d) t) (fun i (t : Sg) => FL [9] [0, 7, 8] st t ∧ (0 < i → t.2 0 12 = fi4 ns (lN F)) ∧ (∀ n, n < 13 → t.2 8 (13 * d + n) = bsV (fun p => dayB (cb q d p) (q 0 p) ns (lN F) b) n i) ∧ (∀ n, n < 13 → 0 < i → t.1 9 (13 * d + n) = nI (bsA (fun p => dayB (cb q d p) (q 0 p) ns (lN F) b) n i)) ∧ ∀ m, (m < 13 * d ∨ 13 * d + 13 ≤ m) → t.2 8 m = st.2 8 m ∧ t.1 9 m = st.1 9 m) np
    (fun k i t hi ⟨a1, a2, a3, a4, a5⟩ => by
      have hV0 : VM (sJ t 0 12 (lN F)) q C D re np ns := hV.keep (fun o ho => a1.1 o (by simp; omega))
      obtain ⟨t1, e1, f1, g1⟩ := m_fb93 (st := sJ t 0 12 (lN F)) (d := d) (p := i) rc (X8_findBest_76 rc (lN F) (nI d) k) (lN F)
      have g1' : ∀ n, n < 13 → t1.2 7 n = b n := fun n hn => by rw [g1 n hn, sJ_ne (by decide), a1.2 10 (by decide)]; exact hw n hn
      have hfi : t1.2 0 12 = lN F := by rw [f1.2 0 (by decide), sJ_at, if_pos ⟨rfl, rfl⟩]
      have hV1 : VM t1 q C D re np ns := hV0.keep (fun o ho => f1.1 o (by simp))
      obtain ⟨t2, e2, f2, g2, g3⟩ := m_dayAt (d := d) (p := i) hok hV1 (by rw [g1' 0 (by decide)]; exact hb.zero)
      obtain ⟨t3, e3, f3, g4, g5⟩ := m_fb135 (st := t2) (d := d) (p := i) hd rc (X8_findBest_76 rc (lN F) (nI d) k) (lN F)
      have row : ∀ n, n < 13 → t2.2 7 n = dayB (cb q d i) (q 0 i) ns (lN F) b n := fun n hn => by
        rw [g3 n hn, hfi]
        exact dayB_cg ns _ _ _ g1' n hn
      have k8 : ∀ m, t2.2 8 m = t.2 8 m := fun m => by rw [f2.2 8 (by decide), f1.2 8 (by decide), sJ_ne (by decide)]
      have k9 : ∀ m, t2.1 9 m = t.1 9 m := fun m => by rw [f2.1 9 (by decide), f1.1 9 (by decide)]; rfl
      refine ⟨t3, ⟨?_, fun _ => ?_, fun n hn => ?_, fun n hn _ => ?_, fun m hm => ?_⟩, ?_⟩
      · refine a1.tr ((((sJ_fl (I := [9]) (J := [0, 7, 8]) (by decide)).tr (f1.up (by simp) (by simp))).tr (f2.up (by simp) (by simp))).tr (f3.up (by simp) (by simp)))
      · rw [f3.2 0 (by decide), g2, hfi]
      · rw [(g4 n hn).1, row n hn, k8, a3 n hn]; rfl
      · rw [(g4 n hn).2, row n hn, k8, k9, a3 n hn]
        show _ = nI (if bsV (fun p => dayB (cb q d p) (q 0 p) ns (lN F) b) n i < dayB (cb q d i) (q 0 i) ns (lN F) b n then i else bsA (fun p => dayB (cb q d p) (q 0 p) ns (lN F) b) n i)
        by_cases c : bsV (fun p => dayB (cb q d p) (q 0 p) ns (lN F) b) n i < dayB (cb q d i) (q 0 i) ns (lN F) b n
        · rw [if_pos c, if_pos c]
        · rw [if_neg c, if_neg c]
          by_cases hz : i = 0
          · subst hz
            have := (bsV_1 (rows := fun p => dayB (cb q d p) (q 0 p) ns (lN F) b) hF hn (hrow 0 hi)).1
            obtain ⟨v, v1, v2⟩ := hrow 0 hi n hn
            have hb2 : 99 * n * (F * 4 ^ ns) ≤ 99 * 12 * (F * 4 ^ ns) := Nat.mul_le_mul_right _ (by omega)
            exact absurd (by rw [v1]; exact m1_lt (by omega)) c
          · exact a4 n hn (by omega)
      · rw [(g5 m hm).1, (g5 m hm).2, k8, k9]; exact a5 m hm
      · show X8_findBest_76b rc (X8_findBest_76 rc (lN F) (nI d) k) (lN F) (nI d) (nI i) t = _
        unfold X8_findBest_76b
        rw [a1.1 0 (by decide), m4, if_neg (nI_ge hi (by omega)), nm_eq, e1]
        unfold X8_findBest_120
        rw [cix_nI (show i < 5 by omega) (by decide), clI (by omega), f1.1 1 (by decide), sJ_1, a1.1 1 (by decide), show st.1 1 = q 0 from m6 0 (by decide), e2, bnd1_some, e3]
        unfold X8_findBest_204
        rw [nm_eq, nI_1])
    (fun k t ⟨a1, _⟩ => by
      show X8_findBest_76b rc (X8_findBest_76 rc (lN F) (nI d) k) (lN F) (nI d) (nI np) t = _
      unfold X8_findBest_76b
      rw [a1.1 0 (by decide), m4, if_pos (nI_le (Nat.le_refl np) (by omega))])
    np 0 FU st (Nat.zero_add np) (FU_gt (by omega)) ⟨FL.rf, fun z => by omega, fun n hn => hm n hn, fun n hn z => by omega, fun m hm => ⟨rfl, rfl⟩⟩
  refine ⟨t, ?_, h1, h2 hp, fun n hn => ⟨h3 n hn, h4 n hn hp⟩, h5⟩
  unfold X8_findBest_73
  rw [show (0 : Int32) = nI 0 from rfl]
  exact he
/-- the reference's best table -/
def MBest (st : Sg) (q : Nat → Nat → Int32) (D re np ns : Nat) : Prop := (∀ d, d ≤ D → ∀ n, n < 13 → st.2 8 (13 * d + n) = BV q D re np ns (D - d) n) ∧ ∀ d, d < D → ∀ n, n < 13 → st.1 9 (13 * d + n) = nI (BA q D re np ns (D - 1 - d) n)
theorem m_findBest {st : Sg} {q : Nat → Nat → Int32} {C D re np ns : Nat} (hok : Okd q C D re np ns) (hV : VM st q C D re np ns) (hp : 0 < np) : ∃ st', X8_findBest st = some st' ∧ FL [9] [0, 7, 8, 10] st st' ∧ MBest st' q D re np ns := by
  obtain ⟨m1, m2, m3, m4, m5, m6⟩ := id hV
  obtain ⟨o1, o2, o3, o4, o5, o6, o7⟩ := id hok
  obtain ⟨s1, e1, f1, g1, g2⟩ := m_beginEnd m3
  obtain ⟨s2, e2, f2, g3⟩ := m_keepRow (st := s1) (d := D) o3
  have hD0 : s2.1 0 1 = nI D := by rw [f2.1 0 (by simp), f1.1 0 (by simp)]; exact m2
  obtain ⟨⟨x, t⟩, ⟨h1, h2, h3, h4, h5, h6⟩, he⟩ := loopD (L := fun k v (t : Int64 × Sg) => X8_findBest_24 k t.1 v t.2) (E := fun t => X8_findBest_256 t.2) (fun i (t : Int64 × Sg) => i ≤ D ∧ t.1 = FI (ns * (D - i)) ∧ FL [9] [0, 7, 8, 10] st t.2 ∧ (∀ n, n < 13 → t.2.2 7 n = BV q D re np ns (D - i) n) ∧ (∀ d, i ≤ d → d ≤ D → ∀ n, n < 13 → t.2.2 8 (13 * d + n) = BV q D re np ns (D - d) n) ∧ ∀ d, i ≤ d → d < D → ∀ n, n < 13 → t.2.1 9 (13 * d + n) = nI (BA q D re np ns (D - 1 - d) n))
    (fun k i t ⟨a1, a2, a3, a4, a5, a6⟩ => by
      obtain ⟨x, t⟩ := t
      dsimp only at a1 a2 a3 a4 a5 a6
      have hk : ns * (D - (i + 1)) + ns ≤ 18 := by
        have : ns * (D - (i + 1) + 1) ≤ 3 * 6 := Nat.mul_le_mul o6 (by omega)
        rw [Nat.mul_succ] at this
        omega
      obtain ⟨t1, b1, c1, c2, c3, c4⟩ := m_fb31 (st := t) (d := i) (by omega) (X8_findBest_24 k) x
      have hV1 : VM t1 q C D re np ns := hV.keep (fun o ho => by rw [c1.1 o (by simp), a3.1 o (by simp; omega)])
      have hF : 4 ^ (ns * (D - (i + 1))) * 4 ^ ns < 2 ^ 40 := by
        rw [← Nat.pow_add]
        exact Nat.lt_of_le_of_lt (pow4_le hk) (by decide)
      have hx : x = lN (4 ^ (ns * (D - (i + 1)))) := by rw [a2, FI_eq]
      obtain ⟨t2, b2, d1, d2, d3, d4⟩ := m_fb73 (st := t1) (d := i) hok hV1 hp (by omega) hF (BV_bd hok hp (D - (i + 1)) (by omega)) (fun n hn => by rw [c2 n hn]; exact a4 n hn) c3 (X8_findBest_24 k)
      obtain ⟨t3, b3, i1, i2⟩ := m_fb213 (st := t2) (d := i) (by omega) (X8_findBest_24 k)
      have hday : D - 1 - (D - (i + 1)) = i := by omega
      have hsucc : D - i = (D - (i + 1)) + 1 := by omega
      have hBV : ∀ n, BV q D re np ns (D - i) n = bsV (fun p => dayB (cb q i p) (q 0 p) ns (lN (4 ^ (ns * (D - (i + 1))))) (BV q D re np ns (D - (i + 1)))) n np := fun n => by
        rw [hsucc]
        show bsV (fun p => dayB (cb q (D - 1 - (D - (i + 1))) p) (q 0 p) ns (FI (ns * (D - (i + 1)))) (BV q D re np ns (D - (i + 1)))) n np = _
        rw [hday, FI_eq]
      have hBA : ∀ n, BA q D re np ns (D - 1 - i) n = bsA (fun p => dayB (cb q i p) (q 0 p) ns (lN (4 ^ (ns * (D - (i + 1))))) (BV q D re np ns (D - (i + 1)))) n np := fun n => by
        have : D - 1 - i = D - (i + 1) := by omega
        rw [this]
        unfold BA
        rw [hday, FI_eq]
      refine ⟨(fi4 ns (lN (4 ^ (ns * (D - (i + 1))))), t3), ⟨by omega, ?_, ?_, fun n hn => ?_, fun d h1 h2 n hn => ?_, fun d h1 h2 n hn => ?_⟩, ?_⟩
      · dsimp only
        rw [← FI_eq, fi4_FI, ← Nat.mul_succ]
        congr 2
        omega
      · exact (a3.tr (c1.up (by simp) (by simp))).tr ((d1.up (by simp) (by simp)).tr (i1.up (by simp) (by simp)))
      · dsimp only
        rw [i2 n hn, (d3 n hn).1, hBV]
      · dsimp only
        rw [i1.2 8 (by decide)]
        by_cases c : d = i
        · subst c; rw [(d3 n hn).1, hBV]
        · rw [(d4 (13 * d + n) (by omega)).1, c4 _ (by omega)]
          exact a5 d (by omega) h2 n hn
      · dsimp only
        rw [i1.1 9 (by decide)]
        by_cases c : d = i
        · subst c; rw [(d3 n hn).2, hBA]
        · rw [(d4 (13 * d + n) (by omega)).2, c1.1 9 (by decide)]
          exact a6 d (by omega) h2 n hn
      · show X8_findBest_24b (X8_findBest_24 k) x (nI i) t = _
        unfold X8_findBest_24b
        rw [if_neg (nI_pos (by omega)), b1, hx, b2]
        unfold X8_findBest_210
        rw [b3]
        unfold X8_findBest_245
        rw [nm_eq, nm_eq, i1.2 0 (by decide), d2])
    (fun k t _ => by
      show X8_findBest_24b (X8_findBest_24 k) t.1 (-1) t.2 = _
      unfold X8_findBest_24b
      rw [if_pos (by decide)])
    D FU (s2.2 0 12, s2) (FU_gt (by omega)) ⟨Nat.le_refl D, by
      dsimp only
      rw [f2.2 0 (by decide), g1, Nat.sub_self, Nat.mul_zero]; rfl, (f1.up (by simp) (by simp)).tr (f2.up (by simp) (by simp)), fun n hn => by
      dsimp only
      rw [f2.2 7 (by decide), g2 n hn, Nat.sub_self]; rfl, fun d h1 h2 n hn => by
      dsimp only
      have : d = D := by omega
      subst this
      rw [g3 n hn, g2 n hn, Nat.sub_self]; rfl, fun d h1 h2 => by omega⟩
  dsimp only at h1 h2 h3 h4 h5 h6
  refine ⟨t, ?_, h3, ⟨fun d hd n hn => h5 d (by omega) hd n hn, fun d hd n hn => h6 d (by omega) hd n hn⟩⟩
  unfold X8_findBest
  have e : nI D - 1 = nI D + (-1) := by grind
  have hD1 : s1.1 0 1 = nI D := by rw [f1.1 0 (by simp)]; exact m2
  rw [e1, bnd1_some, nm_eq, hD1, e2, bnd1_some, nm_eq, hD0, e, ← f2.2 0 (by decide)]
  exact he
