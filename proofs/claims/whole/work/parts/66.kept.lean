/-! all the plans, one after the other, on both sides -/
theorem KP_ge {val : List Nat → Int64} {ok : List Nat → Bool} : ∀ ls r, (0 : Int64) ≤ r.1 → (0 : Int64) ≤ (KP val ok ls r).1 := by
  intro ls
  induction ls with
  | nil => intro r h; exact h
  | cons l ls ih =>
    intro r h
    refine ih _ ?_
    by_cases c : ok l = true ∧ r.1 < val l
    · rw [if_pos c]; exact Int64.le_of_lt (Int64.lt_of_le_of_lt h c.2)
    · rw [if_neg c]; exact h
theorem KP_s {val : List Nat → Int64} {ok : List Nat → Bool} {m f : Nat} {l : List Nat} {r : Int64 × List Nat} : KP val ok (plansFrom m (f + 1) l) r = KP val ok (match nxP m l with | some l' => plansFrom m f l' | none => []) (if ok l = true ∧ r.1 < val l then (val l, l) else r) := rfl
theorem pE_s {m f : Nat} {l : List Nat} : plansEnd m (f + 1) l = (match nxP m l with | some l' => plansEnd m f l' | none => true) := rfl
theorem fr_fl {st st' : Sg} (h : Fr 0 0 44 52 st st') : FL [] [44, 45, 46, 47, 48, 49, 50, 51] st st' := ⟨fun o _ => h.1 o (by omega), fun o ho => h.2 o (by simp at ho; omega)⟩
theorem Wk.keep {st st' : Sg} {q : Nat → Nat → Int32} {ns C e : Nat} {P : Nat → Nat} (h : Wk st q ns P C e) (he : e ≤ 6) (hk : ∀ o, 44 ≤ o → o < 52 → st'.2 o = st.2 o) : Wk st' q ns P C e := fun d hd => ⟨fun n hn => by rw [hk (44 + d) (by omega) (by omega)]; exact (h d hd).1 n hn, by rw [hk 51 (by omega) (by omega)]; exact (h d hd).2⟩
theorem Wk.cg {st : Sg} {q : Nat → Nat → Int32} {ns C e f : Nat} {P P' : Nat → Nat} (h : Wk st q ns P C e) (hf : f ≤ e) (hP : ∀ i, i < f → P i = P' i) : Wk st q ns P' C f := fun d hd => by
  have := h d (by omega)
  rw [fwD_cg d (fun i hi => hP i (by omega))] at this
  exact this
theorem Lp.keep {st st' : Sg} {o D np : Nat} {l : List Nat} (h : Lp st o l D np) (hk : st'.1 o = st.1 o) : Lp st' o l D np := ⟨h.1, fun d hd => by rw [hk]; exact h.2 d hd⟩
theorem Gr.keep {st st' : Sg} {b D : Nat} {r : Int64 × List Nat} (h : Gr st b D r) (h1 : st'.1 (b + 1) = st.1 (b + 1)) (h2 : st'.2 b = st.2 b) : Gr st' b D r := ⟨by rw [h2]; exact h.1, by rw [h1]; exact h.2⟩
def vK (q : Nat → Nat → Int32) (C D re ns : Nat) (l : List Nat) : Int64 := PV q D re ns (fun d => l.getD d 0) D C
def onc (l : List Nat) : Bool := decide (mks l ≤ 1)
def KI : List Nat := [60, 62, 64]
def KJ : List Nat := [44, 45, 46, 47, 48, 49, 50, 51, 61, 63]
theorem x_kloop {q : Nat → Nat → Int32} {C D re np ns : Nat} (hok : Okd q C D re np ns) (hp : 0 < np) : ∀ (f : Nat) (l : List Nat) (ch i k : Nat) (st : Sg) (r1 r2 : Int64 × List Nat), plansEnd (np - 1) f l = true → i + f ≤ 210 → f < k → VX st q C D re np ns → Lp st 60 l D np → ch < D → (0 < ch → Wk st q ns (fun d => l.getD d 0) C ch) → Gr st 61 D r1 → Gr st 63 D r2 → ∃ st', X7_findKept_39 k (nI ch) (nI i) st = X7_findKept_159 st' ∧ FL KI KJ st st' ∧ Gr st' 61 D (KP (vK q C D re ns) (fun _ => true) (plansFrom (np - 1) f l) r1) ∧ Gr st' 63 D (KP (vK q C D re ns) onc (plansFrom (np - 1) f l) r2) := by
  obtain ⟨o1, o2, o3, o4, o5, o6, o7⟩ := id hok
  intro f
  induction f with
  | zero => intro l ch i k st r1 r2 h; exact absurd h (by simp [plansEnd])
  | succ f ih =>
    intro l ch i k st r1 r2 hE hi hk hV hL hch hW hG1 hG2
    obtain ⟨k, rfl⟩ : ∃ k', k = k' + 1 := ⟨k - 1, by omega⟩
    obtain ⟨s1, a1, a2, a3⟩ := x_goByPlan (f := ch) (qp := 60) (P := fun d => l.getD d 0) hok hV hL.2 (by omega) hW
    have A2 := fr_fl a2
    have hV1 : VX s1 q C D re np ns := hV.keep (fun o _ _ => A2.1 o (by simp))
    have hm := x_mean hok hV1 (a3 D (Nat.le_refl D)) (fwD_z D)
    rw [QQ_mean hok] at hm
    have hL1 : Lp s1 60 l D np := hL.keep (A2.1 60 (by simp))
    obtain ⟨s2, b1, b2, b3⟩ := x_offer (b := 61) (v := vK q C D re ns l) (by decide) (hG1.keep (A2.1 62 (by simp)) (A2.2 61 (by simp))) hL1 o3
    have hL2 : Lp s2 60 l D np := hL1.keep (b2.1 60 (by simp))
    have hV2 : VX s2 q C D re np ns := hV1.keep (fun o h1 h2 => b2.1 o (by simp; omega))
    have hG22 : Gr s2 63 D r2 := (hG2.keep (A2.1 64 (by simp)) (A2.2 63 (by simp))).keep (b2.1 64 (by simp)) (b2.2 63 (by simp))
    have hmk := x_marks hL2 o2 o3 o5
    have hmk6 : mks l ≤ 6 := Nat.le_trans (mks_le l) (by rw [hL.1]; omega)
    have F2 : FL KI KJ st s2 := (A2.up (by simp) (by simp [KJ])).tr (b2.up (by simp [KI]) (by simp [KJ]))
    have W2 : Wk s2 q ns (fun d => l.getD d 0) C D := a3.keep o3 (fun o h1 h2 => b2.2 o (by simp; omega))
    -- what follows the two offers
    have tail : ∀ (s3 : Sg) (r2' : Int64 × List Nat), FL KI KJ s2 s3 → (∀ o, 44 ≤ o → o < 52 → s3.2 o = s2.2 o) → VX s3 q C D re np ns → Lp s3 60 l D np → Gr s3 61 D (if r1.1 < vK q C D re ns l then (vK q C D re ns l, l) else r1) → Gr s3 63 D r2' → r2' = (if onc l = true ∧ r2.1 < vK q C D re ns l then (vK q C D re ns l, l) else r2) → ∃ st', X7_findKept_131 (X7_findKept_39 k) (nI i) s3 = X7_findKept_159 st' ∧ FL KI KJ st st' ∧ Gr st' 61 D (KP (vK q C D re ns) (fun _ => true) (plansFrom (np - 1) (f + 1) l) r1) ∧ Gr st' 63 D (KP (vK q C D re ns) onc (plansFrom (np - 1) (f + 1) l) r2) := by
      intro s3 r2' f3 w3 v3 l3 g31 g32 hr2
      rw [pE_s] at hE
      rw [KP_s, KP_s, ← hr2]
      have er1 : (if (fun _ => true : List Nat → Bool) l = true ∧ r1.1 < vK q C D re ns l then (vK q C D re ns l, l) else r1) = (if r1.1 < vK q C D re ns l then (vK q C D re ns l, l) else r1) := by simp
      rw [er1]
      unfold X7_findKept_131
      rw [v3.2.1, v3.2.2.2.1]
      cases hx : nxP (np - 1) l with
      | none =>
        rw [x_adv_none l3 o3 hp o5 hx, bnd2_some, nm_eq, nI_1]
        refine ⟨s3, ?_, F2.tr f3, g31, g32⟩
        obtain ⟨k, rfl⟩ : ∃ k', k = k' + 1 := ⟨k - 1, by omega⟩
        show X7_findKept_39b (X7_findKept_39 k) (-6) (nI (i + 1)) s3 = _
        unfold X7_findKept_39b
        rw [if_pos (show (-6 : Int32) = -6 from rfl)]
        split <;> rfl
      | some l' =>
        rw [hx] at hE
        obtain ⟨s4, d, c1, c2, c3, c4, c5⟩ := x_adv_some l3 o3 hp o5 hx
        rw [c1, bnd2_some, nm_eq, nI_1]
        have W4 : Wk s4 q ns (fun d => l'.getD d 0) C d := ((W2.keep o3 w3).keep o3 (fun o h1 h2 => c2.2 o (by simp))).cg (by omega) (fun i hi => (c5 i hi).symm)
        obtain ⟨st', e1, e2, e3, e4⟩ := ih l' d (i + 1) k s4 _ r2' hE (by omega) (by omega) (v3.keep (fun o h1 h2 => c2.1 o (by simp; omega))) c3 c4 (fun _ => W4) (g31.keep (c2.1 62 (by simp)) (c2.2 61 (by simp))) (g32.keep (c2.1 64 (by simp)) (c2.2 63 (by simp)))
        exact ⟨st', e1, (F2.tr f3).tr ((c2.up (by simp [KI]) (by simp)).tr e2), e3, e4⟩
    have un : X7_findKept_39 (k + 1) (nI ch) (nI i) st = if (1 : Int32) < nI (mks l) then X7_findKept_131 (X7_findKept_39 k) (nI i) s2 else bnd1 (X1_offer 63 (vK q C D re ns l) s2) fun st13 => X7_findKept_131 (X7_findKept_39 k) (nI i) st13 := by
      show X7_findKept_39b (X7_findKept_39 k) (nI ch) (nI i) st = _
      unfold X7_findKept_39b
      rw [if_neg (show ¬ (210 : Int32) ≤ nI i from nI_ge (b := 210) (by omega) (by decide)), if_neg (fun z => by
        have h1 : ¬ nI ch < 0 := nI_pos (by omega)
        rw [z] at h1; exact h1 (by decide)), a1, bnd1_some, hm, bnd1_some]
      show bnd1 (X1_offer 61 (vK q C D re ns l) s1) _ = _
      rw [b1, bnd1_some, hV2.2.1, hmk, bnd1_some]
      rfl
    rw [un]
    by_cases c : mks l ≤ 1
    · have hon : onc l = true := by simp [onc, c]
      rw [if_neg (show ¬ (1 : Int32) < nI (mks l) from nI_nlt (a := 1) c (by decide))]
      obtain ⟨s3, d1, d2, d3⟩ := x_offer (b := 63) (v := vK q C D re ns l) (by decide) hG22 hL2 o3
      rw [d1, bnd1_some]
      exact tail s3 _ (d2.up (by simp [KI]) (by simp [KJ])) (fun o h1 h2 => d2.2 o (by simp; omega)) (hV2.keep (fun o h1 h2 => d2.1 o (by simp; omega))) (hL2.keep (d2.1 60 (by simp))) (b3.keep (d2.1 62 (by simp)) (d2.2 61 (by simp))) d3 (by simp [hon])
    · have hon : onc l = false := by simp [onc]; omega
      rw [if_pos (show (1 : Int32) < nI (mks l) from nI_lt (a := 1) (by omega) (by omega))]
      exact tail s2 r2 FL.rf (fun _ _ _ => rfl) hV2 hL2 b3 hG22 (by simp [hon])
def MG (st : Sg) (D : Nat) (r : Int64 × List Nat) : Prop := r.1 = -1 ∨ ∀ d, d < D → st.1 13 d = nI (r.2.getD d 0)
theorem m_kloop {q : Nat → Nat → Int32} {C D re np ns : Nat} {x1 : Int32} {val : List Nat → Int64} {ok : List Nat → Bool} (hok : Okd q C D re np ns) (hp : 0 < np)
    (hstep : ∀ (st : Sg) (l : List Nat), VM st q C D re np ns → Lp st 11 l D np → ∃ st', (∀ rc x2, X8_findKept_48 rc x1 x2 st = X8_findKept_65 rc x1 x2 st') ∧ FL [] [0, 7] st st' ∧ st'.2 7 C = val l)
    (hok1 : x1 = 1 → ok = onc) (hok2 : ¬ x1 = 1 → ok = fun _ => true) :
    ∀ (f : Nat) (l : List Nat) (k : Nat) (st : Sg) (r : Int64 × List Nat), plansEnd (np - 1) f l = true → f < k → VM st q C D re np ns → Lp st 11 l D np → MG st D r → ∃ st', X8_findKept_31 x1 k r.1 1 st = some ((KP val ok (plansFrom (np - 1) f l) r).1, st') ∧ FL [11, 13] [0, 7] st st' ∧ MG st' D (KP val ok (plansFrom (np - 1) f l) r) := by
  obtain ⟨o1, o2, o3, o4, o5, o6, o7⟩ := id hok
  intro f
  induction f with
  | zero => intro l k st r h; exact absurd h (by simp [plansEnd])
  | succ f ih =>
    intro l k st r hE hk hV hL hG
    obtain ⟨k, rfl⟩ : ∃ k', k = k' + 1 := ⟨k - 1, by omega⟩
    have tail : ∀ (s3 : Sg) (r' : Int64 × List Nat), FL [11, 13] [0, 7] st s3 → VM s3 q C D re np ns → Lp s3 11 l D np → MG s3 D r' → r' = (if ok l = true ∧ r.1 < val l then (val l, l) else r) → ∃ st', X8_findKept_121 (X8_findKept_31 x1 k) x1 r'.1 s3 = some ((KP val ok (plansFrom (np - 1) (f + 1) l) r).1, st') ∧ FL [11, 13] [0, 7] st st' ∧ MG st' D (KP val ok (plansFrom (np - 1) (f + 1) l) r) := by
      intro s3 r' f3 v3 l3 g3 hr
      rw [pE_s] at hE
      rw [KP_s, ← hr]
      unfold X8_findKept_121
      cases hx : nxP (np - 1) l with
      | none =>
        rw [m_next_none l3 v3.2.1 v3.2.2.2.1 o3 hp o5 hx, bnd2_some]
        refine ⟨s3, ?_, f3, g3⟩
        obtain ⟨k, rfl⟩ : ∃ k', k = k' + 1 := ⟨k - 1, by omega⟩
        show X8_findKept_31b (X8_findKept_31 x1 k) x1 r'.1 0 s3 = _
        unfold X8_findKept_31b
        rw [if_pos rfl]; rfl
      | some l' =>
        rw [hx] at hE
        obtain ⟨s4, c1, c2, c3⟩ := m_next_some l3 v3.2.1 v3.2.2.2.1 o3 hp o5 hx
        rw [c1, bnd2_some]
        obtain ⟨st', e1, e2, e3⟩ := ih l' k s4 r' hE (by omega) (v3.keep (fun o ho => c2.1 o (by simp; omega))) c3 (by
          unfold MG
          rw [c2.1 13 (by simp)]; exact g3)
        exact ⟨st', e1, f3.tr ((c2.up (by simp) (by simp)).tr e2), e3⟩
    -- the plan that is tried
    have tried : ok l = true → ∃ st', X8_findKept_48 (X8_findKept_31 x1 k) x1 r.1 st = some ((KP val ok (plansFrom (np - 1) (f + 1) l) r).1, st') ∧ FL [11, 13] [0, 7] st st' ∧ MG st' D (KP val ok (plansFrom (np - 1) (f + 1) l) r) := by
      intro hl
      obtain ⟨s1, a1, a2, a3⟩ := hstep st l hV hL
      have hV1 : VM s1 q C D re np ns := hV.keep (fun o ho => a2.1 o (by simp))
      have hL1 : Lp s1 11 l D np := hL.keep (a2.1 11 (by simp))
      have A2 : FL [11, 13] [0, 7] st s1 := a2.up (by simp) (by simp)
      rw [a1]
      unfold X8_findKept_65
      simp only [lg_le0]
      rw [hV1.1, cx13 (by omega), clI (by omega), a3]
      by_cases c : r.1 < val l
      · rw [if_neg (fun z => z c), cx13 (by omega), nm_eq]
        obtain ⟨u, ⟨c1, c2⟩, hu⟩ := loopU (L := fun k2 v (u : Sg) => X8_findKept_92 (X8_findKept_31 x1 k) x1 (val l) k2 v u) (E := fun u => X8_findKept_121 (X8_findKept_31 x1 k) x1 (val l) u) (fun i (u : Sg) => FL [13] [] s1 u ∧ ∀ d, d < i → u.1 13 d = nI (l.getD d 0)) D
          (fun k2 i u hi ⟨b1, b2⟩ => by
            refine ⟨sI u 13 i (nI (l.getD i 0)), ⟨b1.tr (sI_fl (by decide)), fun d hd => ?_⟩, ?_⟩
            · rw [sI_at]
              by_cases ce : d = i
              · subst ce; rw [if_pos ⟨rfl, rfl⟩]
              · rw [if_neg (by omega)]; exact b2 d (by omega)
            · show X8_findKept_92b (X8_findKept_31 x1 k) (X8_findKept_92 (X8_findKept_31 x1 k) x1 (val l) k2) x1 (val l) (nI i) u = _
              unfold X8_findKept_92b
              rw [b1.1 0 (by decide), hV1.2.1, if_neg (nI_ge hi (by omega)), cx6 (by omega), cx6 (by omega), nm_eq, nm_eq, clI (by omega), b1.1 11 (by decide), (hL1.2 i hi).1, nI_1])
          (fun k2 u ⟨b1, _⟩ => by
            show X8_findKept_92b (X8_findKept_31 x1 k) (X8_findKept_92 (X8_findKept_31 x1 k) x1 (val l) k2) x1 (val l) (nI D) u = _
            unfold X8_findKept_92b
            rw [b1.1 0 (by decide), hV1.2.1, if_pos (nI_le (Nat.le_refl D) (by omega))])
          D 0 FU s1 (Nat.zero_add D) (FU_gt (by omega)) ⟨FL.rf, fun d hd => by omega⟩
        rw [show (0 : Int32) = nI 0 from rfl]
        have hu' : X8_findKept_92 (X8_findKept_31 x1 k) x1 (val l) FU (nI 0) s1 = X8_findKept_121 (X8_findKept_31 x1 k) x1 (val l) u := hu
        rw [hu']
        exact tail u (val l, l) (A2.tr (c1.up (by simp) (by simp))) (hV1.keep (fun o ho => c1.1 o (by simp; omega))) (hL1.keep (c1.1 11 (by simp))) (Or.inr c2) (by rw [if_pos ⟨hl, c⟩])
      · rw [if_pos c]
        exact tail s1 r A2 hV1 hL1 (by unfold MG; rw [a2.1 13 (by simp)]; exact hG) (by rw [if_neg (fun z => c z.2)])
    show ∃ st', X8_findKept_31b (X8_findKept_31 x1 k) x1 r.1 1 st = _ ∧ _
    unfold X8_findKept_31b
    rw [if_neg (by decide)]
    by_cases cx : x1 = 1
    · rw [if_pos cx, m_once hL hV.2.1 o2 o3 o5, bnd1_some]
      have hoo := hok1 cx
      by_cases c : mks l ≤ 1
      · rw [if_pos c, if_neg (by decide)]
        exact tried (by rw [hoo]; simp [onc, c])
      · rw [if_neg c, if_pos rfl]
        exact tail st r FL.rf hV hL hG (by rw [if_neg (fun z => by rw [hoo] at z; simp [onc] at z; omega)])
    · rw [if_neg cx]
      exact tried (by rw [hok2 cx])
theorem m_findKept {q : Nat → Nat → Int32} {C D re np ns : Nat} {x1 : Int32} {val : List Nat → Int64} {ok : List Nat → Bool} {st : Sg} (hok : Okd q C D re np ns) (hp : 0 < np) (hV : VM st q C D re np ns)
    (hstep : ∀ (st : Sg) (l : List Nat), VM st q C D re np ns → Lp st 11 l D np → ∃ st', (∀ rc x2, X8_findKept_48 rc x1 x2 st = X8_findKept_65 rc x1 x2 st') ∧ FL [] [0, 7] st st' ∧ st'.2 7 C = val l)
    (hok1 : x1 = 1 → ok = onc) (hok2 : ¬ x1 = 1 → ok = fun _ => true) : ∃ st', X8_findKept x1 st = some ((KP val ok (plans D np) (-1, [])).1, st') ∧ FL [11, 13] [0, 7] st st' ∧ MG st' D (KP val ok (plans D np) (-1, [])) := by
  obtain ⟨o1, o2, o3, o4, o5, o6, o7⟩ := id hok
  obtain ⟨t, ⟨h1, h2⟩, he⟩ := loopU (L := fun k v (t : Sg) => X8_findKept_7 x1 (-1) k v t) (E := fun t => X8_findKept_28 x1 (-1) t) (fun i (t : Sg) => FL [11] [] st t ∧ ∀ n, n < i → t.1 11 n = nI 0) 6
    (fun k i t hi ⟨a1, a2⟩ => by
      refine ⟨sI t 11 i (nI 0), ⟨a1.tr (sI_fl (by decide)), fun n hn => ?_⟩, ?_⟩
      · rw [sI_at]
        by_cases c : n = i
        · subst c; rw [if_pos ⟨rfl, rfl⟩]
        · rw [if_neg (by omega)]; exact a2 n (by omega)
      · show X8_findKept_7b (X8_findKept_7 x1 (-1) k) x1 (-1) (nI i) t = _
        unfold X8_findKept_7b
        rw [if_neg (show ¬ (6 : Int32) ≤ nI i from nI_ge (b := 6) hi (by decide)), cx6 hi, nm_eq, nm_eq, clI (by omega), nI_1]
        rfl)
    (fun k t _ => by
      show X8_findKept_7b (X8_findKept_7 x1 (-1) k) x1 (-1) (nI 6) t = _
      unfold X8_findKept_7b
      rw [if_pos (by decide)])
    6 0 FU st rfl (FU_gt (by decide)) ⟨FL.rf, fun n hn => by omega⟩
  have hL : Lp t 11 (List.replicate D 0) D np := ⟨by simp, fun d hd => by
    have e : (List.replicate D 0).getD d 0 = 0 := by simp [List.getD, hd]
    rw [e]
    exact ⟨h2 d (by omega), hp⟩⟩
  obtain ⟨st', e1, e2, e3⟩ := m_kloop hok hp hstep hok1 hok2 210 _ FU t (-1, []) (plans_ok D (by omega) np (by omega) hp) (FU_gt (by omega)) (hV.keep (fun o ho => h1.1 o (by simp; omega))) hL (Or.inl rfl)
  refine ⟨st', ?_, (h1.up (by simp) (by simp)).tr e2, e3⟩
  unfold X8_findKept
  rw [show (0 : Int32) = nI 0 from rfl]
  exact he.trans e1
theorem m_stepK {q : Nat → Nat → Int32} {C D re np ns : Nat} {x1 : Int32} (hok : Okd q C D re np ns) (hx : ¬ x1 = 2) (st : Sg) (l : List Nat) (hV : VM st q C D re np ns) (hL : Lp st 11 l D np) : ∃ st', (∀ rc x2, X8_findKept_48 rc x1 x2 st = X8_findKept_65 rc x1 x2 st') ∧ FL [] [0, 7] st st' ∧ st'.2 7 C = vK q C D re ns l := by
  obtain ⟨o1, o2, o3, o4, o5, o6, o7⟩ := id hok
  obtain ⟨s1, a1, a2, a3, a4⟩ := m_bringFrom (e := 0) (P := fun d => l.getD d 0) hok hV hL.2 (by omega)
  refine ⟨s1, fun rc x2 => ?_, a2, ?_⟩
  · unfold X8_findKept_48
    rw [if_neg hx, show (0 : Int32) = nI 0 from rfl, a1, bnd1_some]
  · have := a4 C (by omega)
    rw [Nat.sub_zero] at this
    exact this
