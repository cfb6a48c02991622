/-! the class's walk with those who wait -/
theorem x_dayPicked {st : Sg} {q : Nat → Nat → Int32} {C D re np ns s f qp : Nat} {P : Nat → Nat} (hok : Okd q C D re np ns) (hV : VX st q C D re np ns) (hP : ∀ d, d < D → st.1 qp d = nI (P d) ∧ P d < np) (hs : s < ns) (hf : f ≤ D) : X3_dayPicked qp (nI s) (nI f) st = some (pkD q D P s f) := by
  obtain ⟨x1, x2, x3, x4, x5, x6⟩ := id hV
  obtain ⟨o1, o2, o3, o4, o5, o6, o7⟩ := id hok
  have main : ∀ (k d fu : Nat) (best most : Int32), d + k = D → k < fu → X3_dayPicked_10 qp (nI s) (nI f) st fu best most (nI d) = some (pkG q P s f k d best most) := by
    intro k
    induction k with
    | zero =>
      intro d fu best most hd hfu
      obtain ⟨fu, rfl⟩ : ∃ k', fu = k' + 1 := ⟨fu - 1, by omega⟩
      show X3_dayPicked_10b qp (X3_dayPicked_10 qp (nI s) (nI f) st fu) (nI s) (nI f) best most (nI d) st = _
      unfold X3_dayPicked_10b X3_dayPicked_71
      rw [x2, if_pos (nI_le (by omega) (by omega))]; rfl
    | succ k ih =>
      intro d fu best most hd hfu
      obtain ⟨fu, rfl⟩ : ∃ k', fu = k' + 1 := ⟨fu - 1, by omega⟩
      show X3_dayPicked_10b qp (X3_dayPicked_10 qp (nI s) (nI f) st fu) (nI s) (nI f) best most (nI d) st = _
      unfold X3_dayPicked_10b X3_dayPicked_65
      have g := hP d (by omega)
      rw [x2, if_neg (nI_ge (by omega) (by omega)), wv_X (q := q) (x6 2 (by decide)) (x6 3 (by decide)) (by omega), cx6 (by omega), clI (by omega), g.1, cx5 (by omega), cx3 (by omega), nm_eq, clI (by omega), clI (by omega), show st.1 2 = q 0 from x6 0 (by decide), show st.1 6 = q 4 from x6 4 (by decide)]
      simp only [nm_eq, nI_1]
      rw [ih (d + 1) fu best most (by omega) (by omega), ih (d + 1) fu (nI d) _ (by omega) (by omega)]
      show _ = some (if wv q s d - q 0 (P d) - q 4 s * (nI d - nI f) ≤ most then pkG q P s f k (d + 1) best most else pkG q P s f k (d + 1) (nI d) (wv q s d - q 0 (P d) - q 4 s * (nI d - nI f)))
      by_cases c : wv q s d - q 0 (P d) - q 4 s * (nI d - nI f) ≤ most
      · rw [if_pos c, if_pos c]
      · rw [if_neg c, if_neg c]
  unfold X3_dayPicked
  exact main (D - f) f FU (-6) (-1) (by omega) (FU_gt (by omega))
def pck (q : Nat → Nat → Int32) (D : Nat) (P : Nat → Nat) (f s : Nat) : Int32 := if q 4 s = -1 then nI f else pkD q D P s f
def PI : List Nat := [53, 54, 55, 56, 57, 58]
theorem x_pickAll {st : Sg} {q : Nat → Nat → Int32} {C D re np ns qp : Nat} {P : Nat → Nat} (hq : qp ∉ PI) (hok : Okd q C D re np ns) (hV : VX st q C D re np ns) (hP : ∀ d, d < D → st.1 qp d = nI (P d) ∧ P d < np) : ∃ st', X6_pickAll qp st = some st' ∧ FL PI [] st st' ∧ ∀ f, f < D → ∀ s, s < ns → st'.1 (53 + f) s = pck q D P f s := by
  obtain ⟨o1, o2, o3, o4, o5, o6, o7⟩ := id hok
  obtain ⟨t, ⟨h1, h2⟩, he⟩ := loopU (L := fun k v (t : Sg) => X6_pickAll_2 qp k v t) (E := fun t => X6_pickAll_64 qp t) (fun i (t : Sg) => FL PI [] st t ∧ ∀ f, f < i → ∀ s, s < ns → t.1 (53 + f) s = pck q D P f s) D
    (fun k f t hf ⟨a1, a2⟩ => by
      obtain ⟨u, ⟨c1, c2⟩, ce⟩ := loopU (L := fun k2 v (u : Sg) => X6_pickAll_13 qp (X6_pickAll_2 qp k) (nI f) k2 v u) (E := fun u => X6_pickAll_58 qp (X6_pickAll_2 qp k) (nI f) u) (fun i (u : Sg) => FL [53 + f] [] t u ∧ ∀ s, s < i → u.1 (53 + f) s = pck q D P f s) ns
        (fun k2 s u hs ⟨b1, b2⟩ => by
          have F : FL PI [] st u := a1.tr (b1.up (by simp [PI]; omega) (by simp))
          have hVu : VX u q C D re np ns := hV.keep (fun o p1 p2 => F.1 o (by simp [PI]; omega))
          have hPu : ∀ d, d < D → u.1 qp d = nI (P d) ∧ P d < np := fun d hd => by rw [F.1 qp hq]; exact hP d hd
          refine ⟨sI u (53 + f) s (pck q D P f s), ⟨b1.tr (sI_fl (by simp)), fun s' hs' => ?_⟩, ?_⟩
          · rw [sI_at]
            by_cases c : s' = s
            · subst c; rw [if_pos ⟨rfl, rfl⟩]
            · rw [if_neg (by omega)]; exact b2 s' (by omega)
          · show X6_pickAll_13b qp (X6_pickAll_2 qp k) (X6_pickAll_13 qp (X6_pickAll_2 qp k) (nI f) k2) (nI f) (nI s) u = _
            unfold X6_pickAll_13b X6_pickAll_51
            rw [hVu.2.2.2.2.1, if_neg (nI_ge hs (by omega)), cx6 (by omega), isW_b (by omega), show u.1 6 = q 4 from hVu.2.2.2.2.2 4 (by decide)]
            simp only [nm_eq, nI_1]
            unfold pck
            by_cases c : q 4 s = -1
            · rw [if_pos c, if_pos c, if_pos trivial, cx3 (by omega), clI (by omega), clI (by omega)]
            · rw [if_neg c, if_neg c, if_neg (by decide), x_dayPicked hok hVu hPu hs (by omega), bnd1_some, cx3 (by omega), clI (by omega), clI (by omega)])
        (fun k2 u ⟨b1, _⟩ => by
          have F : FL PI [] st u := a1.tr (b1.up (by simp [PI]; omega) (by simp))
          show X6_pickAll_13b qp (X6_pickAll_2 qp k) (X6_pickAll_13 qp (X6_pickAll_2 qp k) (nI f) k2) (nI f) (nI ns) u = _
          unfold X6_pickAll_13b
          rw [F.1 1 (by decide), hV.2.2.2.2.1, if_pos (nI_le (Nat.le_refl ns) (by omega))])
        ns 0 FU t (Nat.zero_add ns) (FU_gt (by omega)) ⟨FL.rf, fun s hs => by omega⟩
      refine ⟨u, ⟨a1.tr (c1.up (by simp [PI]; omega) (by simp)), fun f' hf' s hs => ?_⟩, ?_⟩
      · by_cases c : f' = f
        · subst c; exact c2 s hs
        · rw [c1.1 (53 + f') (by simp; omega)]; exact a2 f' (by omega) s hs
      · show X6_pickAll_2b qp (X6_pickAll_2 qp k) (nI f) t = _
        unfold X6_pickAll_2b
        rw [a1.1 1 (by decide), hV.2.1, if_neg (nI_ge hf (by omega)), show (0 : Int32) = nI 0 from rfl]
        refine ce.trans ?_
        show X6_pickAll_58 qp (X6_pickAll_2 qp k) (nI f) u = _
        unfold X6_pickAll_58
        rw [nm_eq, nI_1])
    (fun k t ⟨a1, _⟩ => by
      show X6_pickAll_2b qp (X6_pickAll_2 qp k) (nI D) t = _
      unfold X6_pickAll_2b
      rw [a1.1 1 (by decide), hV.2.1, if_pos (nI_le (Nat.le_refl D) (by omega))])
    D 0 FU st (Nat.zero_add D) (FU_gt (by omega)) ⟨FL.rf, fun f hf => by omega⟩
  refine ⟨t, ?_, h1, h2⟩
  unfold X6_pickAll
  rw [show (0 : Int32) = nI 0 from rfl]
  exact he
theorem x_passThose {st : Sg} {q : Nat → Nat → Int32} {C D re np ns f d : Nat} {P : Nat → Nat} {w : (Nat → Int64) × Int64} (hok : Okd q C D re np ns) (hV : VX st q C D re np ns) (hPn : P d < np) (hd : d < D) (hf : f ≤ d) (hpk : ∀ s, s < ns → st.1 (53 + f) s = pck q D P f s) (hr : Ry st (d + 1) w) : ∃ st', X6_passThoseOf (nI f) (nI d) (nI (P d)) st = some st' ∧ FL [] [44 + (d + 1), 51] st st' ∧ (∀ k, k ≠ d + 1 → st'.2 51 k = st.2 51 k) ∧ Ry st' (d + 1) (fwB (mtB q D P d f) (q 0 (P d)) ns w) := by
  obtain ⟨o1, o2, o3, o4, o5, o6, o7⟩ := id hok
  obtain ⟨t, ⟨h1, h2, h3⟩, he⟩ := loopU (L := fun k v (t : Sg) => X6_passThoseOf_3 (nI f) (nI d) (nI (P d)) k v t) (E := fun t => X6_passThoseOf_87 t) (fun s (u : Sg) => FL [] [44 + (d + 1), 51] st u ∧ (∀ k, k ≠ d + 1 → u.2 51 k = st.2 51 k) ∧ Ry u (d + 1) (fwB (mtB q D P d f) (q 0 (P d)) s w)) ns
    (fun k s u hs ⟨g1, g2, g3⟩ => by
      have hVu : VX u q C D re np ns := hV.keep (fun o _ _ => g1.1 o (by simp))
      have hku : u.1 (53 + f) s = pck q D P f s := by rw [g1.1 (53 + f) (by simp)]; exact hpk s hs
      have un : X6_passThoseOf_3 (nI f) (nI d) (nI (P d)) (k + 1) (nI s) u = if pck q D P f s = nI d then (bnd1 (X6_passBuyer (nI d) (cb q d (P d) s) (q 0 (P d)) u) fun st16 => X6_passThoseOf_3 (nI f) (nI d) (nI (P d)) k (nI (s + 1)) st16) else if pck q D P f s = -6 then (if nI f = nI d then (bnd1 (X6_passBuyer (nI d) 0 (q 0 (P d)) u) fun st11 => X6_passThoseOf_3 (nI f) (nI d) (nI (P d)) k (nI (s + 1)) st11) else X6_passThoseOf_3 (nI f) (nI d) (nI (P d)) k (nI (s + 1)) u) else X6_passThoseOf_3 (nI f) (nI d) (nI (P d)) k (nI (s + 1)) u := by
        show X6_passThoseOf_3b (X6_passThoseOf_3 (nI f) (nI d) (nI (P d)) k) (nI f) (nI d) (nI (P d)) (nI s) u = _
        unfold X6_passThoseOf_3b X6_passThoseOf_81
        simp only [nm_eq, nI_1]
        rw [hVu.2.2.2.2.1, if_neg (nI_ge hs (by omega)), cx6 (by omega), cx3 (by omega), cx6 (by omega), cx3 (by omega), clI (by omega), clI (by omega), hku, x_cb hok hVu hs hPn, cx5 (by omega), cx5 (by omega), clI (by omega), show u.1 2 = q 0 from hVu.2.2.2.2.2 0 (by decide)]
      -- one passes
      have pass : ∀ cv : Nat, mtB q D P d f s = some (nI cv) → ∃ u', (FL [] [44 + (d + 1), 51] st u' ∧ (∀ k, k ≠ d + 1 → u'.2 51 k = st.2 51 k) ∧ Ry u' (d + 1) (fwB (mtB q D P d f) (q 0 (P d)) (s + 1) w)) ∧ (bnd1 (X6_passBuyer (nI d) (nI cv) (q 0 (P d)) u) fun st16 => X6_passThoseOf_3 (nI f) (nI d) (nI (P d)) k (nI (s + 1)) st16) = X6_passThoseOf_3 (nI f) (nI d) (nI (P d)) k (nI (s + 1)) u' := by
        intro cv hm
        obtain ⟨u', i1, i2, i3, i4, i5⟩ := x_pass (st := u) (d := d) (cv := cv) (p := q 0 (P d)) (by omega)
        refine ⟨u', ⟨g1.tr i2, fun k hk => (i5 k hk).trans (g2 k hk), ?_⟩, by rw [i1, bnd1_some]⟩
        have e : fwB (mtB q D P d f) (q 0 (P d)) (s + 1) w = stp (nI cv) (q 0 (P d)) (fwB (mtB q D P d f) (q 0 (P d)) s w) := by
          show (match mtB q D P d f s with | some c => stp c (q 0 (P d)) (fwB (mtB q D P d f) (q 0 (P d)) s w) | none => fwB (mtB q D P d f) (q 0 (P d)) s w) = _
          rw [hm]
        rw [e]
        exact g3.pass i3 i4
      have skip : mtB q D P d f s = none → FL [] [44 + (d + 1), 51] st u ∧ (∀ k, k ≠ d + 1 → u.2 51 k = st.2 51 k) ∧ Ry u (d + 1) (fwB (mtB q D P d f) (q 0 (P d)) (s + 1) w) := by
        intro hm
        refine ⟨g1, g2, ?_⟩
        have e : fwB (mtB q D P d f) (q 0 (P d)) (s + 1) w = fwB (mtB q D P d f) (q 0 (P d)) s w := by
          show (match mtB q D P d f s with | some c => stp c (q 0 (P d)) (fwB (mtB q D P d f) (q 0 (P d)) s w) | none => fwB (mtB q D P d f) (q 0 (P d)) s w) = _
          rw [hm]
        rw [e]
        exact g3
      obtain ⟨cv, e1, e2⟩ := cb_bd hok (d := d) (p := P d) hs
      show ∃ t', _ ∧ X6_passThoseOf_3 (nI f) (nI d) (nI (P d)) (k + 1) (nI s) u = X6_passThoseOf_3 (nI f) (nI d) (nI (P d)) k (nI (s + 1)) t'
      rw [un]
      by_cases c1 : pck q D P f s = nI d
      · rw [if_pos c1, e1]
        refine pass cv ?_
        unfold pck at c1
        unfold mtB
        by_cases cw : q 4 s = -1
        · rw [if_pos cw] at c1 ⊢
          rw [if_pos (nI_inj (by omega) (by omega) c1), e1]
        · rw [if_neg cw] at c1 ⊢
          rw [if_pos c1, e1]
      · rw [if_neg c1]
        by_cases c2 : pck q D P f s = -6
        · rw [if_pos c2]
          have cw : ¬ q 4 s = -1 := fun z => by
            unfold pck at c2
            rw [if_pos z] at c2
            exact nI_ne6 (by omega) c2
          unfold pck at c1 c2
          rw [if_neg cw] at c1 c2
          by_cases c3 : f = d
          · rw [if_pos (by rw [c3])]
            refine pass 0 ?_
            unfold mtB
            rw [if_neg cw, if_neg c1, if_pos ⟨c2, c3⟩]; rfl
          · rw [if_neg (fun z => c3 (nI_inj (by omega) (by omega) z))]
            refine ⟨u, skip ?_, rfl⟩
            unfold mtB
            rw [if_neg cw, if_neg c1, if_neg (fun z => c3 z.2)]
        · rw [if_neg c2]
          refine ⟨u, skip ?_, rfl⟩
          unfold pck at c1 c2
          unfold mtB
          by_cases cw : q 4 s = -1
          · rw [if_pos cw] at c1 ⊢
            rw [if_neg (fun z => c1 (by rw [z]))]
          · rw [if_neg cw] at c1 c2 ⊢
            rw [if_neg c1, if_neg (fun z => c2 z.1)])
    (fun k u ⟨g1, _⟩ => by
      show X6_passThoseOf_3b (X6_passThoseOf_3 (nI f) (nI d) (nI (P d)) k) (nI f) (nI d) (nI (P d)) (nI ns) u = _
      unfold X6_passThoseOf_3b
      rw [g1.1 1 (by simp), hV.2.2.2.2.1, if_pos (nI_le (Nat.le_refl ns) (by omega))])
    ns 0 FU st (Nat.zero_add ns) (FU_gt (by omega)) ⟨FL.rf, fun _ _ => rfl, hr⟩
  refine ⟨t, ?_, h1, h2, h3⟩
  unfold X6_passThoseOf
  rw [show (0 : Int32) = nI 0 from rfl]
  exact he
def WJ : List Nat := [44, 45, 46, 47, 48, 49, 50, 51]
theorem x_goWaiting {st : Sg} {q : Nat → Nat → Int32} {C D re np ns qp : Nat} {P : Nat → Nat} (hq : qp ∉ PI) (hok : Okd q C D re np ns) (hV : VX st q C D re np ns) (hP : ∀ d, d < D → st.1 qp d = nI (P d) ∧ P d < np) : ∃ st', X6_goWaiting qp st = some st' ∧ FL PI WJ st st' ∧ Ry st' D (fwT q D ns P C D) := by
  obtain ⟨o1, o2, o3, o4, o5, o6, o7⟩ := id hok
  obtain ⟨s1, a1, a2, a3, a4⟩ := x_begin (st := st) hV.1 o1
  have hV1 : VX s1 q C D re np ns := hV.keep (fun o _ _ => a2.1 o (by simp))
  obtain ⟨s2, b1, b2, b3⟩ := x_pickAll hq hok hV1 (fun d hd => by rw [a2.1 qp (by simp)]; exact hP d hd)
  have F2 : FL PI WJ st s2 := (a2.up (by simp) (by simp [WJ])).tr (b2.up (fun _ h => h) (by simp))
  obtain ⟨t, ⟨h1, h2, h3⟩, he⟩ := loopU (L := fun k v (t : Sg) => X6_goWaiting_13 qp k v t) (E := fun t => X6_goWaiting_58 qp t) (fun i (t : Sg) => FL [] WJ s2 t ∧ Ry t i (fwT q D ns P C i) ∧ True) D
    (fun k d t hd ⟨c1, c2, _⟩ => by
      have F : FL PI WJ st t := F2.tr (c1.up (by simp) (fun _ h => h))
      have hVt : VX t q C D re np ns := hV.keep (fun o p1 p2 => F.1 o (by simp [PI]; omega))
      have hPt : t.1 qp d = nI (P d) := by rw [F.1 qp hq]; exact (hP d hd).1
      obtain ⟨u0, d1, d2, d3, d4, d5⟩ := x_openDay (st := t) (d := d) (by omega)
      obtain ⟨u, ⟨g1, g2, g3⟩, ge⟩ := loopU (L := fun k2 v (u : Sg) => X6_goWaiting_29 qp (X6_goWaiting_13 qp k) (nI d) k2 v u) (E := fun u => X6_goWaiting_52 qp (X6_goWaiting_13 qp k) (nI d) u) (fun f (u : Sg) => FL [] [44 + (d + 1), 51] t u ∧ True ∧ Ry u (d + 1) (fwF (mtB q D P d) (q 0 (P d)) ns f (fwT q D ns P C d))) (d + 1)
        (fun k2 f u hf ⟨i1, _, i3⟩ => by
          have hVu : VX u q C D re np ns := hVt.keep (fun o p1 p2 => i1.1 o (by simp))
          obtain ⟨u', j1, j2, j3, j4⟩ := x_passThose (f := f) (d := d) (P := P) hok hVu (hP d hd).2 hd (by omega) (fun s hs => by rw [i1.1 (53 + f) (by simp), c1.1 (53 + f) (by simp)]; exact b3 f (by omega) s hs) i3
          refine ⟨u', ⟨i1.tr j2, trivial, j4⟩, ?_⟩
          show X6_goWaiting_29b qp (X6_goWaiting_13 qp k) (X6_goWaiting_29 qp (X6_goWaiting_13 qp k) (nI d) k2) (nI d) (nI f) u = _
          unfold X6_goWaiting_29b
          rw [if_neg (nI_nlt (by omega) (by omega)), cx6 (by omega), clI (by omega), i1.1 qp (by simp), hPt, j1, bnd1_some, nm_eq, nI_1])
        (fun k2 u _ => by
          show X6_goWaiting_29b qp (X6_goWaiting_13 qp k) (X6_goWaiting_29 qp (X6_goWaiting_13 qp k) (nI d) k2) (nI d) (nI (d + 1)) u = _
          unfold X6_goWaiting_29b
          rw [if_pos (nI_lt (by omega) (by omega))])
        (d + 1) 0 FU u0 (by omega) (FU_gt (by omega)) ⟨d2, trivial, fun n hn => by rw [d3 n hn]; exact c2.1 n hn, by rw [d4]; exact c2.2⟩
      refine ⟨u, ⟨c1.tr (g1.up (by simp) (by simp [WJ]; omega)), g3, trivial⟩, ?_⟩
      show X6_goWaiting_13b qp (X6_goWaiting_13 qp k) (nI d) t = _
      unfold X6_goWaiting_13b
      rw [hVt.2.1, if_neg (nI_ge hd (by omega)), d1, bnd1_some, show (0 : Int32) = nI 0 from rfl]
      refine ge.trans ?_
      show X6_goWaiting_52 qp (X6_goWaiting_13 qp k) (nI d) u = _
      unfold X6_goWaiting_52
      rw [nm_eq, nI_1])
    (fun k t ⟨c1, _⟩ => by
      show X6_goWaiting_13b qp (X6_goWaiting_13 qp k) (nI D) t = _
      unfold X6_goWaiting_13b
      rw [c1.1 1 (by simp), F2.1 1 (by decide), hV.2.1, if_pos (nI_le (Nat.le_refl D) (by omega))])
    D 0 FU s2 (Nat.zero_add D) (FU_gt (by omega)) ⟨FL.rf, ⟨fun n hn => by rw [b2.2 44 (by simp)]; exact a3 n hn, by rw [b2.2 51 (by simp)]; exact a4⟩, trivial⟩
  refine ⟨t, ?_, F2.tr (h1.up (by simp) (fun _ h => h)), h2⟩
  unfold X6_goWaiting
  rw [a1, bnd1_some, b1, bnd1_some, show (0 : Int32) = nI 0 from rfl]
  exact he
/-- what those who wait bring, by a plan at a place -/
theorem x_met {st : Sg} {q : Nat → Nat → Int32} {C D re np ns qp : Nat} {P : Nat → Nat} (hq : qp ∉ PI) (hok : Okd q C D re np ns) (hV : VX st q C D re np ns) (hP : ∀ d, d < D → st.1 qp d = nI (P d) ∧ P d < np) : ∃ st', X6_goWaiting qp st = some st' ∧ FL PI WJ st st' ∧ X6_mean st' = some (MV q D re ns P C) := by
  obtain ⟨s1, a1, a2, a3⟩ := x_goWaiting hq hok hV hP
  refine ⟨s1, a1, a2, ?_⟩
  rw [x_mean hok (hV.keep (fun o p1 p2 => a2.1 o (by simp [PI]; omega))) a3 (fwT_z D), QQ_met hok]
