/-! the class's walk -/
def Wk (st : Sg) (q : Nat → Nat → Int32) (ns : Nat) (P : Nat → Nat) (C e : Nat) : Prop := ∀ d, d ≤ e → (∀ n, n < 13 → st.2 (44 + d) n = (fwD q ns P C d).1 n) ∧ st.2 51 d = (fwD q ns P C d).2
theorem x_begin {st : Sg} {C : Nat} (hC : st.1 1 0 = nI C) (hC12 : C ≤ 12) : ∃ st', X6_begin st = some st' ∧ FL [] [44, 51] st st' ∧ (∀ n, n < 13 → st'.2 44 n = (fw0 C).1 n) ∧ st'.2 51 0 = 0 := by
  obtain ⟨t, ⟨h1, h2⟩, he⟩ := loopU (L := fun k v (t : Sg) => X6_begin_2 k v t) (E := fun t => X6_begin_35 t) (fun i (t : Sg) => FL [] [44, 51] st t ∧ ∀ n, n < i → t.2 44 n = (fw0 C).1 n) 13
    (fun k i t hi ⟨a1, a2⟩ => by
      refine ⟨sJ t 44 i ((fw0 C).1 i), ⟨a1.tr (sJ_fl (by decide)), fun n hn => ?_⟩, ?_⟩
      · rw [sJ_at]
        by_cases c : n = i
        · subst c; rw [if_pos ⟨rfl, rfl⟩]
        · rw [if_neg (by omega)]; exact a2 n (by omega)
      · show X6_begin_2b (X6_begin_2 k) (nI i) t = _
        unfold X6_begin_2b X6_begin_28
        rw [if_neg (gt12 hi), show (0 : Int32) = nI 0 from rfl, cx7 (by omega), cx13 hi, cx13 hi, a1.1 1 (by simp), hC, clI (by omega), clI (by omega)]
        simp only [nm_eq, nI_1]
        show (if nI i = nI C then X6_begin_2 k (nI (i + 1)) (sJ t 44 i 1) else X6_begin_2 k (nI (i + 1)) (sJ t 44 i 0)) = X6_begin_2 k (nI (i + 1)) (sJ t 44 i (if i = C then 1 else 0))
        by_cases c : i = C
        · rw [if_pos (by rw [c]), if_pos c]
        · rw [if_neg (fun z => c (nI_inj (by omega) (by omega) z)), if_neg c])
    (fun k t _ => by
      show X6_begin_2b (X6_begin_2 k) (nI 13) t = _
      unfold X6_begin_2b
      rw [if_pos gt12'])
    13 0 FU st rfl (FU_gt (by decide)) ⟨FL.rf, fun n hn => by omega⟩
  refine ⟨sJ t 51 0 0, ?_, h1.tr (sJ_fl (by decide)), fun n hn => ?_, by rw [sJ_at, if_pos ⟨rfl, rfl⟩]⟩
  · unfold X6_begin
    rw [show (0 : Int32) = nI 0 from rfl]
    refine he.trans ?_
    show X6_begin_35 t = _
    unfold X6_begin_35
    rw [show (0 : Int32) = nI 0 from rfl, cx7 (by omega), nm_eq, clI (by omega)]
  · rw [sJ_ne (by decide)]; exact h2 n hn
theorem x_openDay {st : Sg} {d : Nat} (hd : d < 6) : ∃ st', X6_openDay (nI d) st = some st' ∧ FL [] [44 + (d + 1), 51] st st' ∧ (∀ n, n < 13 → st'.2 (44 + (d + 1)) n = st.2 (44 + d) n) ∧ st'.2 51 (d + 1) = st.2 51 d ∧ ∀ k, k ≠ d + 1 → st'.2 51 k = st.2 51 k := by
  obtain ⟨st4, hst4⟩ : ∃ z, z = sJr st (44 + (d + 1)) (va_cpy (st.2 (44 + d)) (st.2 (44 + (d + 1))) (0 : Int32).toNatClampNeg (0 : Int32).toNatClampNeg (13 : Int32).toNatClampNeg) := ⟨_, rfl⟩
  have hf : FL [] [44 + (d + 1)] st st4 := by
    rw [hst4]
    exact ⟨fun _ _ => rfl, fun o ho => by simp [sJr, va_up]; intro h; exact absurd h (by simpa using ho)⟩
  have hr : ∀ n, n < 13 → st4.2 (44 + (d + 1)) n = st.2 (44 + d) n := fun n hn => by
    rw [hst4]
    show va_up st.2 (44 + (d + 1)) _ (44 + (d + 1)) n = _
    unfold va_up
    rw [if_pos rfl, cpy13 hn]
  have h51 : st4.2 51 = st.2 51 := hf.2 51 (by simp; omega)
  refine ⟨sJ st4 51 (d + 1) (st.2 51 d), ?_, (hf.up (by simp) (by simp)).tr (sJ_fl (by simp)), fun n hn => ?_, by rw [sJ_at, if_pos ⟨rfl, rfl⟩], fun k hk => ?_⟩
  · unfold X6_openDay
    rw [nI_1, cx7 (by omega), cx7 (by omega), cpc_ok okC13, nm_eq, cx7 (by omega), cx7 (by omega), nm_eq, clI (by omega), clI (by omega), ← hst4, h51]
  · rw [sJ_ne (by omega)]; exact hr n hn
  · rw [sJ_at, if_neg (fun z => hk z.2), h51]
theorem x_pass {st : Sg} {d cv : Nat} {p : Int32} (hd : d < 6) : ∃ st', X6_passBuyer (nI d) (nI cv) p st = some st' ∧ FL [] [44 + (d + 1), 51] st st' ∧ (∀ n, n < 13 → st'.2 (44 + (d + 1)) n = oS (nI cv) (st.2 (44 + (d + 1))) n) ∧ st'.2 51 (d + 1) = st.2 51 (d + 1) * 4 + (nI cv).toInt64 * smU (fun n => st.2 (44 + (d + 1)) (n + 1)) 12 * p.toInt64 ∧ ∀ k, k ≠ d + 1 → st'.2 51 k = st.2 51 k := by
  obtain ⟨o, ho⟩ : ∃ z, z = st.2 (44 + (d + 1)) := ⟨_, rfl⟩
  obtain ⟨c, hc⟩ : ∃ z, z = nI cv := ⟨_, rfl⟩
  rw [← hc, ← ho]
  obtain ⟨⟨x, t⟩, ⟨h1, h2, h3, h4⟩, he⟩ := loopU (L := fun k v (t : Int64 × Sg) => X6_passBuyer_26 (nI d) c p (nI (d + 1)) k t.1 v t.2) (E := fun t => X6_passBuyer_85 (nI d) p t.1 t.2) (fun i (t : Int64 × Sg) => 1 ≤ i ∧ FL [] [44 + (d + 1)] st t.2 ∧ t.1 = c.toInt64 * smU (fun n => o (n + 1)) (i - 1) ∧ ∀ m, m < 13 → t.2.2 (44 + (d + 1)) m = if m + 1 < i then oS c o m else if m + 1 = i then (if m = 0 then 4 else 4 - c.toInt64) * o m else o m) 13
    (fun k i t hi ⟨a1, a2, a3, a4⟩ => by
      obtain ⟨x, t⟩ := t
      dsimp only at a1 a2 a3 a4
      obtain ⟨j, rfl⟩ : ∃ j, i = j + 1 := ⟨i - 1, by omega⟩
      have e1 : nI (j + 1) - 1 = nI j := nI_pred j
      have v1 : t.2 (44 + (d + 1)) (j + 1) = o (j + 1) := by rw [a4 (j + 1) (by omega), if_neg (by omega), if_neg (by omega)]
      obtain ⟨K, hK⟩ : ∃ z : Int64, z = if j = 0 then 4 else 4 - c.toInt64 := ⟨_, rfl⟩
      have v0 : t.2 (44 + (d + 1)) j = K * o j := by rw [a4 j (by omega), if_neg (by omega), if_pos rfl, hK]
      have a3' : x = c.toInt64 * smU (fun n => o (n + 1)) j := a3
      refine ⟨(x + o (j + 1) * c.toInt64, sJ (sJ t (44 + (d + 1)) j (K * o j + o (j + 1) * c.toInt64)) (44 + (d + 1)) (j + 1) (o (j + 1) * 4 - o (j + 1) * c.toInt64)), ⟨by omega, (a2.tr (sJ_fl (by simp))).tr (sJ_fl (by simp)), ?_, fun m hm => ?_⟩, ?_⟩
      · show x + o (j + 1) * c.toInt64 = c.toInt64 * (smU (fun n => o (n + 1)) j + o (j + 1))
        rw [a3']; grind
      · dsimp only
        rw [sJ_at, sJ_at]
        by_cases c1 : m = j + 1
        · subst c1
          rw [if_pos ⟨rfl, rfl⟩, if_neg (by omega), if_pos rfl, if_neg (by omega)]
          grind
        · rw [if_neg (by omega)]
          by_cases c2 : m = j
          · subst c2
            rw [if_pos ⟨rfl, rfl⟩, if_pos (show m + 1 < m + 1 + 1 by omega)]
            unfold oS
            rw [if_pos (show m < 12 by omega), ← hK]
            grind
          · rw [if_neg (by omega), a4 m hm]
            by_cases c3 : m + 1 < j + 1
            · rw [if_pos c3, if_pos (by omega)]
            · rw [if_neg c3, if_neg (by omega), if_neg (by omega), if_neg (by omega)]
      · show X6_passBuyer_26b (X6_passBuyer_26 (nI d) c p (nI (d + 1)) k) (nI d) c p (nI (d + 1)) x (nI (j + 1)) t = _
        unfold X6_passBuyer_26b
        rw [if_neg (gt12 hi), cx13 hi, nm_eq, nm_eq, e1, cx13 (by omega), cx13 (by omega), nm_eq, cx13 hi, cx13 hi, nm_eq, nm_eq, clI (by omega), clI (by omega), clI (by omega), v1, v0, sJ_at, if_neg (by omega), v1, nI_1])
    (fun k t _ => by
      show X6_passBuyer_26b (X6_passBuyer_26 (nI d) c p (nI (d + 1)) k) (nI d) c p (nI (d + 1)) t.1 (nI 13) t.2 = _
      unfold X6_passBuyer_26b
      rw [if_pos gt12'])
    12 1 FU (0, sJ st (44 + (d + 1)) 0 (o 0 * 4)) rfl (FU_gt (by decide)) ⟨by omega, sJ_fl (by simp), by
      show (0 : Int64) = c.toInt64 * 0
      grind, fun m hm => by
      dsimp only
      rw [sJ_at, ← ho]
      by_cases c0 : m = 0
      · subst c0
        rw [if_pos ⟨rfl, rfl⟩, if_neg (by omega), if_pos rfl, if_pos rfl]; grind
      · rw [if_neg (by omega), if_neg (by omega), if_neg (by omega)]⟩
  dsimp only at h1 h2 h3 h4
  have h51 : t.2 51 = st.2 51 := h2.2 51 (by simp; omega)
  refine ⟨sJ t 51 (d + 1) (st.2 51 (d + 1) * 4 + c.toInt64 * smU (fun n => o (n + 1)) 12 * p.toInt64), ?_, (h2.up (by simp) (by simp)).tr (sJ_fl (by simp)), fun n hn => ?_, by rw [sJ_at, if_pos ⟨rfl, rfl⟩], fun k hk => by rw [sJ_at, if_neg (fun z => hk z.2), h51]⟩
  · unfold X6_passBuyer
    rw [nI_1, cx7 (by omega), nm_eq, show (0 : Int32) = nI 0 from rfl, cx13 (by omega), cx13 (by omega), nm_eq, clI (by omega), clI (by omega), ← ho, show (1 : Int32) = nI 1 from rfl]
    refine he.trans ?_
    show X6_passBuyer_85 (nI d) p x t = _
    unfold X6_passBuyer_85
    rw [nI_1, cx7 (by omega), cx7 (by omega), nm_eq, clI (by omega), h51, h3]
  · rw [sJ_ne (by omega), h4 n hn]
    by_cases c1 : n + 1 < 13
    · rw [if_pos c1]
    · have : n = 12 := by omega
      subst this
      rw [if_neg (by omega), if_pos rfl, if_neg (by omega)]
      unfold oS
      rw [if_neg (by omega), if_neg (by omega)]
      grind
/-- the row and the takings of a day under way -/
def Ry (st : Sg) (d : Nat) (w : (Nat → Int64) × Int64) : Prop := (∀ n, n < 13 → st.2 (44 + d) n = w.1 n) ∧ st.2 51 d = w.2
theorem Ry.pass {st st' : Sg} {d cv : Nat} {p : Int32} {w : (Nat → Int64) × Int64} (h : Ry st (d + 1) w) (h1 : ∀ n, n < 13 → st'.2 (44 + (d + 1)) n = oS (nI cv) (st.2 (44 + (d + 1))) n) (h2 : st'.2 51 (d + 1) = st.2 51 (d + 1) * 4 + (nI cv).toInt64 * smU (fun n => st.2 (44 + (d + 1)) (n + 1)) 12 * p.toInt64) : Ry st' (d + 1) (stp (nI cv) p w) := by
  refine ⟨fun n hn => ?_, ?_⟩
  · rw [h1 n hn]
    exact oS_cg h.1 n hn
  · rw [h2, h.2, smU_cg 12 (fun n hn => h.1 (n + 1) (by omega))]
    rfl
theorem x_goByPlan {st : Sg} {q : Nat → Nat → Int32} {C D re np ns f qp : Nat} {P : Nat → Nat} (hok : Okd q C D re np ns) (hV : VX st q C D re np ns) (hP : ∀ d, d < D → st.1 qp d = nI (P d) ∧ P d < np) (hf : f ≤ D) (hw : 0 < f → Wk st q ns P C f) : ∃ st', X6_goByPlan qp (nI f) st = some st' ∧ Fr 0 0 44 52 st st' ∧ Wk st' q ns P C D := by
  obtain ⟨x1, x2, x3, x4, x5, x6⟩ := id hV
  obtain ⟨o1, o2, o3, o4, o5, o6, o7⟩ := id hok
  have main : ∀ t0 : Sg, Fr 0 0 44 52 st t0 → Wk t0 q ns P C f → ∃ st', X6_goByPlan_9 qp (nI f) t0 = some st' ∧ Fr 0 0 44 52 st st' ∧ Wk st' q ns P C D := by
    intro t0 hf0 hw0
    obtain ⟨t, ⟨h1, h2⟩, he⟩ := loopU (L := fun k v (t : Sg) => X6_goByPlan_12 qp k v t) (E := fun t => X6_goByPlan_78 qp t) (fun i (t : Sg) => Fr 0 0 44 52 st t ∧ Wk t q ns P C i) D
      (fun k d t hd ⟨a1, a2⟩ => by
        have hVt : VX t q C D re np ns := hV.keep (fun o _ _ => a1.1 o (by omega))
        obtain ⟨y1, y2, y3, y4, y5, y6⟩ := id hVt
        have hPt : t.1 qp d = nI (P d) := by rw [a1.1 qp (by omega)]; exact (hP d hd).1
        have hPn := (hP d hd).2
        obtain ⟨s1, b1, b2, b3, b4, b5⟩ := x_openDay (st := t) (d := d) (by omega)
        obtain ⟨t2, ⟨c1, c2, c3⟩, ce⟩ := loopU (L := fun k2 v (t : Sg) => X6_goByPlan_30 qp (X6_goByPlan_12 qp k) (nI d) k2 v t) (E := fun t => X6_goByPlan_72 qp (X6_goByPlan_12 qp k) (nI d) t) (fun s (u : Sg) => FL [] [44 + (d + 1), 51] t u ∧ (∀ k, k ≠ d + 1 → u.2 51 k = t.2 51 k) ∧ Ry u (d + 1) (fwS (cb q d (P d)) (q 0 (P d)) s (fwD q ns P C d))) ns
          (fun k2 s u hs ⟨g1, g2, g3⟩ => by
            have hVu : VX u q C D re np ns := hVt.keep (fun o _ _ => g1.1 o (by simp))
            obtain ⟨cv, e1, e2⟩ := cb_bd hok (d := d) (p := P d) hs
            obtain ⟨u', i1, i2, i3, i4, i5⟩ := x_pass (st := u) (d := d) (cv := cv) (p := q 0 (P d)) (by omega)
            refine ⟨u', ⟨g1.tr i2, fun k hk => (i5 k hk).trans (g2 k hk), ?_⟩, ?_⟩
            · show Ry u' (d + 1) (stp (cb q d (P d) s) (q 0 (P d)) (fwS (cb q d (P d)) (q 0 (P d)) s (fwD q ns P C d)))
              rw [e1]
              exact g3.pass i3 i4
            · show X6_goByPlan_30b qp (X6_goByPlan_12 qp k) (X6_goByPlan_30 qp (X6_goByPlan_12 qp k) (nI d) k2) (nI d) (nI s) u = _
              unfold X6_goByPlan_30b
              rw [hVu.2.2.2.2.1, if_neg (nI_ge hs (by omega)), cx6 (by omega), clI (by omega), g1.1 qp (by simp), hPt, x_cb hok hVu hs hPn, cx6 (by omega), cx5 (by omega), clI (by omega), show u.1 2 = q 0 from hVu.2.2.2.2.2 0 (by decide), e1, i1, bnd1_some, nm_eq, nI_1])
          (fun k2 u ⟨g1, _⟩ => by
            show X6_goByPlan_30b qp (X6_goByPlan_12 qp k) (X6_goByPlan_30 qp (X6_goByPlan_12 qp k) (nI d) k2) (nI d) (nI ns) u = _
            unfold X6_goByPlan_30b
            rw [g1.1 1 (by simp), y5, if_pos (nI_le (Nat.le_refl ns) (by omega))])
          ns 0 FU s1 (Nat.zero_add ns) (FU_gt (by omega)) ⟨b2, b5, fun n hn => by rw [b3 n hn]; exact (a2 d (Nat.le_refl d)).1 n hn, by rw [b4]; exact (a2 d (Nat.le_refl d)).2⟩
        refine ⟨t2, ⟨a1.tr (c1.fr (by simp) (by simp; omega)), fun d' hd' => ?_⟩, ?_⟩
        · by_cases cd : d' = d + 1
          · subst cd; exact c3
          · refine ⟨fun n hn => ?_, ?_⟩
            · rw [c1.2 (44 + d') (by simp; omega)]; exact (a2 d' (by omega)).1 n hn
            · rw [c2 d' cd]; exact (a2 d' (by omega)).2
        · show X6_goByPlan_12b qp (X6_goByPlan_12 qp k) (nI d) t = _
          unfold X6_goByPlan_12b
          rw [y2, if_neg (nI_ge hd (by omega)), b1, bnd1_some, show (0 : Int32) = nI 0 from rfl]
          refine ce.trans ?_
          show X6_goByPlan_72 qp (X6_goByPlan_12 qp k) (nI d) t2 = _
          unfold X6_goByPlan_72
          rw [nm_eq, nI_1])
      (fun k t ⟨a1, _⟩ => by
        show X6_goByPlan_12b qp (X6_goByPlan_12 qp k) (nI D) t = _
        unfold X6_goByPlan_12b
        rw [a1.1 1 (by omega), x2, if_pos (nI_le (Nat.le_refl D) (by omega))])
      (D - f) f FU t0 (by omega) (FU_gt (by omega)) ⟨hf0, hw0⟩
    refine ⟨t, ?_, h1, h2⟩
    unfold X6_goByPlan_9
    exact he
  unfold X6_goByPlan
  by_cases fz : f = 0
  · subst fz
    obtain ⟨s1, e1, e2, e3, e4⟩ := x_begin (st := st) x1 o1
    rw [if_pos (show nI 0 = 0 from rfl), e1, bnd1_some]
    exact main s1 (e2.fr (by simp) (by simp)) (fun d hd => by
      have : d = 0 := by omega
      subst this
      exact ⟨e3, e4⟩)
  · rw [if_neg (nI_ne0 (by omega) (by omega))]
    exact main st Fr.rf (hw (by omega))
theorem x_mean {st : Sg} {q : Nat → Nat → Int32} {C D re np ns : Nat} {w : (Nat → Int64) × Int64} (hok : Okd q C D re np ns) (hV : VX st q C D re np ns) (hr : Ry st D w) (hz : ∀ n, C < n → n < 13 → w.1 n = 0) : X6_mean st = some (QQ w 1 (endV re)) := by
  obtain ⟨x1, x2, x3, x4, x5, x6⟩ := id hV
  obtain ⟨o1, o2, o3, o4, o5, o6, o7⟩ := id hok
  obtain ⟨x, h, he⟩ := loopU (L := fun k v (t : Int64) => X6_mean_13 st k t v) (E := fun t => X6_mean_53 t st) (fun i (t : Int64) => 1 ≤ i ∧ t = w.2 + smU (fun n => w.1 n * endV re n) i) (C + 1)
    (fun k i t hi ⟨a1, a2⟩ => by
      refine ⟨w.2 + smU (fun n => w.1 n * endV re n) (i + 1), ⟨by omega, rfl⟩, ?_⟩
      show X6_mean_13b (X6_mean_13 st k) t (nI i) st = _
      unfold X6_mean_13b
      rw [x1, if_neg (nI_nlt (by omega) (by omega)), x2, cx7 (by omega), cx13 (by omega), nm_eq, nm_eq, clI (by omega), clI (by omega), hr.1 i (by omega), x3, nI_1, a2]
      show X6_mean_13 st k _ _ = X6_mean_13 st k (w.2 + (smU (fun n => w.1 n * endV re n) i + w.1 i * ((nI re).toInt64 * (nI i).toInt64))) _
      congr 1
      grind)
    (fun k t _ => by
      show X6_mean_13b (X6_mean_13 st k) t (nI (C + 1)) st = _
      unfold X6_mean_13b
      rw [x1, if_pos (nI_lt (by omega) (by omega))])
    C 1 FU w.2 (by omega) (FU_gt (by omega)) ⟨by omega, by
      show w.2 = w.2 + (0 + w.1 0 * ((nI re).toInt64 * (nI 0).toInt64))
      rw [show (nI 0).toInt64 = 0 by decide]
      grind⟩
  unfold X6_mean
  rw [x2, cx7 (by omega), nm_eq, clI (by omega), hr.2, show (1 : Int32) = nI 1 from rfl]
  refine he.trans ?_
  show some x = _
  rw [h.2]
  unfold QQ
  rw [smU_z (C := C) 13 (fun n h1 h2 => by rw [hz n h1 h2]; grind) (by omega)]
  congr 1
  grind
