/-! the other table by what is asked -/
def AI : List Nat := [35, 36, 37, 38, 39, 40]
theorem x_takeAsked {st : Sg} {d p : Nat} (hd : d < 6) : ∃ st', X4_takeAsked (nI d) (nI p) st = some st' ∧ FL [] [27 + d] st st' ∧ ∀ n, n < 13 → st'.2 (27 + d) n = if st.1 (35 + d) n = nI p then st.2 41 n else st.2 (27 + d) n := by
  obtain ⟨t, ⟨h1, h2⟩, he⟩ := loopU (L := fun k v (t : Sg) => X4_takeAsked_2 (nI d) (nI p) k v t) (E := fun t => X4_takeAsked_40 t) (fun i (t : Sg) => FL [] [27 + d] st t ∧ ∀ n, n < 13 → t.2 (27 + d) n = if n < i then (if st.1 (35 + d) n = nI p then st.2 41 n else st.2 (27 + d) n) else st.2 (27 + d) n) 13
    (fun k i t hi ⟨a1, a2⟩ => by
      have un : X4_takeAsked_2 (nI d) (nI p) (k + 1) (nI i) t = if st.1 (35 + d) i = nI p then X4_takeAsked_2 (nI d) (nI p) k (nI (i + 1)) (sJ t (27 + d) i (st.2 41 i)) else X4_takeAsked_2 (nI d) (nI p) k (nI (i + 1)) t := by
        show X4_takeAsked_2b (X4_takeAsked_2 (nI d) (nI p) k) (nI d) (nI p) (nI i) t = _
        unfold X4_takeAsked_2b X4_takeAsked_34
        simp only [nm_eq, nI_1]
        rw [if_neg (gt12 hi), cx6 hd, cx13 hi, cx7 (by omega), cx13 hi, cx13 hi, clI (by omega), clI (by omega), a1.1 (35 + d) (by simp), a1.2 41 (by simp; omega)]
      show ∃ t', _ ∧ X4_takeAsked_2 (nI d) (nI p) (k + 1) (nI i) t = X4_takeAsked_2 (nI d) (nI p) k (nI (i + 1)) t'
      rw [un]
      by_cases c : st.1 (35 + d) i = nI p
      · rw [if_pos c]
        refine ⟨_, ⟨a1.tr (sJ_fl (by simp)), fun n hn => ?_⟩, rfl⟩
        rw [sJ_at]
        by_cases ce : n = i
        · subst ce; rw [if_pos ⟨rfl, rfl⟩, if_pos (by omega), if_pos c]
        · rw [if_neg (by omega), a2 n hn]
          by_cases c2 : n < i
          · rw [if_pos c2, if_pos (show n < i + 1 by omega)]
          · rw [if_neg c2, if_neg (by omega)]
      · rw [if_neg c]
        refine ⟨t, ⟨a1, fun n hn => ?_⟩, rfl⟩
        rw [a2 n hn]
        by_cases ce : n = i
        · subst ce; rw [if_neg (by omega), if_pos (by omega), if_neg c]
        · by_cases c2 : n < i
          · rw [if_pos c2, if_pos (show n < i + 1 by omega)]
          · rw [if_neg c2, if_neg (by omega)])
    (fun k t _ => by
      show X4_takeAsked_2b (X4_takeAsked_2 (nI d) (nI p) k) (nI d) (nI p) (nI 13) t = _
      unfold X4_takeAsked_2b
      rw [if_pos gt12'])
    13 0 FU st rfl (FU_gt (by decide)) ⟨FL.rf, fun n hn => by rw [if_neg (by omega)]⟩
  refine ⟨t, ?_, h1, fun n hn => by rw [h2 n hn, if_pos hn]⟩
  unfold X4_takeAsked
  rw [show (0 : Int32) = nI 0 from rfl]
  exact he
theorem x_fillAsked {st : Sg} {q : Nat → Nat → Int32} {C D re np ns : Nat} {P : Nat → Nat → Nat} (hok : Okd q C D re np ns) (hV : VX st q C D re np ns) (hP : ∀ d, d < D → ∀ n, n < 13 → st.1 (35 + d) n = nI (P d n) ∧ P d n < np) : ∃ st', X4_fillAsked st = some st' ∧ Fr 0 0 27 42 st st' ∧ ∀ d, d ≤ D → ∀ n, n < 13 → st'.2 (27 + d) n = TV q D re ns P (D - d) n := by
  obtain ⟨x1, x2, x3, x4, x5, x6⟩ := id hV
  obtain ⟨o1, o2, o3, o4, o5, o6, o7⟩ := id hok
  obtain ⟨s1, e1, f1, g1⟩ := x_fillEnd (st := st) (b := 25) hok hV
  have F1 : Fr 0 0 27 42 st s1 := f1.fr (by simp) (by simp; omega)
  obtain ⟨t, ⟨h1, h2, h3⟩, he⟩ := loopD (L := fun k v (t : Sg) => X4_fillAsked_12 k v t) (E := fun t => X4_fillAsked_51 t) (fun i (t : Sg) => i ≤ D ∧ Fr 0 0 27 42 st t ∧ ∀ d, i ≤ d → d ≤ D → ∀ n, n < 13 → t.2 (27 + d) n = TV q D re ns P (D - d) n)
    (fun k d t ⟨a1, a2, a3⟩ => by
      have hVt : VX t q C D re np ns := hV.keep (fun o h1 h2 => a2.1 o (by omega))
      have hnx : ∀ n, n < 13 → t.2 (27 + (d + 1)) n = TV q D re ns P (D - 1 - d) n := fun n hn => by
        rw [a3 (d + 1) (by omega) (by omega) n hn, show D - (d + 1) = D - 1 - d by omega]
      obtain ⟨u, ⟨c1, c2⟩, ce⟩ := loopU (L := fun k2 v (u : Sg) => X4_fillAsked_18 (X4_fillAsked_12 k) (nI d) k2 v u) (E := fun u => X4_fillAsked_45 (X4_fillAsked_12 k) (nI d) u) (fun p (u : Sg) => FL [] [27 + d, 41] t u ∧ ∀ n, n < 13 → P d n < p → u.2 (27 + d) n = dayB (cb q d (P d n)) (q 0 (P d n)) ns (FI (ns * (D - 1 - d))) (TV q D re ns P (D - 1 - d)) n) np
        (fun k2 p u hp ⟨b1, b2⟩ => by
          have hVu : VX u q C D re np ns := hVt.keep (fun o h1 h2 => b1.1 o (by simp))
          obtain ⟨u1, i1, i2, i3⟩ := x_rowFor (b := 25) (d := d) (p := p) (by decide) hok hVu (by omega) hp
          obtain ⟨u2, j1, j2, j3⟩ := x_takeAsked (st := u1) (d := d) (p := p) (by omega)
          refine ⟨u2, ⟨(b1.tr (i2.up (by simp) (by simp))).tr (j2.up (by simp) (by simp)), fun n hn hlt => ?_⟩, ?_⟩
          · have hPn := hP d (by omega) n hn
            have e35 : u1.1 (35 + d) n = nI (P d n) := by rw [i2.1 (35 + d) (by simp), b1.1 (35 + d) (by simp), a2.1 (35 + d) (by omega)]; exact hPn.1
            rw [j3 n hn, e35]
            by_cases c : P d n = p
            · rw [if_pos (by rw [c]), i3 n hn, c]
              refine dayB_cg ns _ _ _ (fun m hm => ?_) n hn
              rw [b1.2 (25 + 2 + (d + 1)) (by simp; omega)]
              exact hnx m hm
            · rw [if_neg (fun z => c (nI_inj (by omega) (by omega) z)), i2.2 (27 + d) (by simp; omega)]
              exact b2 n hn (by omega)
          · show X4_fillAsked_18b (X4_fillAsked_12 k) (X4_fillAsked_18 (X4_fillAsked_12 k) (nI d) k2) (nI d) (nI p) u = _
            unfold X4_fillAsked_18b
            rw [hVu.2.2.2.1, if_neg (nI_ge hp (by omega)), i1, bnd1_some, j1, bnd1_some, nm_eq, nI_1])
        (fun k2 u ⟨b1, _⟩ => by
          show X4_fillAsked_18b (X4_fillAsked_12 k) (X4_fillAsked_18 (X4_fillAsked_12 k) (nI d) k2) (nI d) (nI np) u = _
          unfold X4_fillAsked_18b
          rw [b1.1 1 (by simp), hVt.2.2.2.1, if_pos (nI_le (Nat.le_refl np) (by omega))])
        np 0 FU t (Nat.zero_add np) (FU_gt (by omega)) ⟨FL.rf, fun n hn z => by omega⟩
      refine ⟨u, ⟨by omega, a2.tr (c1.fr (by simp) (by simp; omega)), fun d' hd1 hd2 n hn => ?_⟩, ?_⟩
      · by_cases cd : d' = d
        · subst cd
          rw [c2 n hn (hP d' (by omega) n hn).2, show D - d' = (D - 1 - d') + 1 by omega]
          show _ = dayB (cb q (D - 1 - (D - 1 - d')) (P (D - 1 - (D - 1 - d')) n)) (q 0 (P (D - 1 - (D - 1 - d')) n)) ns (FI (ns * (D - 1 - d'))) (TV q D re ns P (D - 1 - d')) n
          rw [show D - 1 - (D - 1 - d') = d' by omega]
        · rw [c1.2 (27 + d') (by simp; omega)]; exact a3 d' (by omega) hd2 n hn
      · show X4_fillAsked_12b (X4_fillAsked_12 k) (nI d) t = _
        unfold X4_fillAsked_12b
        rw [if_neg (nI_pos (by omega)), show (0 : Int32) = nI 0 from rfl]
        refine ce.trans ?_
        show X4_fillAsked_45 (X4_fillAsked_12 k) (nI d) u = _
        unfold X4_fillAsked_45
        rw [nm_eq])
    (fun k t _ => by
      show X4_fillAsked_12b (X4_fillAsked_12 k) (-1) t = _
      unfold X4_fillAsked_12b
      rw [if_pos (by decide)])
    D FU s1 (FU_gt (by omega)) ⟨Nat.le_refl D, F1, fun d h1 h2 n hn => by
      have : d = D := by omega
      subst this
      rw [show 27 + d = 25 + 2 + d by omega, g1 n hn, Nat.sub_self]; rfl⟩
  refine ⟨t, ?_, h2, fun d hd n hn => h3 d (by omega) hd n hn⟩
  unfold X4_fillAsked
  have e : nI D - 1 = nI D + (-1) := by grind
  have hD1 : s1.1 1 1 = nI D := by rw [f1.1 1 (by simp)]; exact x2
  rw [e1, bnd1_some, nm_eq, hD1, e]
  exact he
theorem x_askByPlan {st : Sg} : ∃ st', X4_askByPlan st = some st' ∧ FL AI [] st st' ∧ ∀ d, d < 6 → ∀ n, n < 13 → st'.1 (35 + d) n = st.1 62 d := by
  obtain ⟨t, ⟨h1, h2⟩, he⟩ := loopU (L := fun k v (t : Sg) => X4_askByPlan_2 k v t) (E := fun t => X4_askByPlan_39 t) (fun i (t : Sg) => FL AI [] st t ∧ ∀ d, d < i → ∀ n, n < 13 → t.1 (35 + d) n = st.1 62 d) 6
    (fun k d t hd ⟨a1, a2⟩ => by
      obtain ⟨u, ⟨c1, c2⟩, ce⟩ := loopU (L := fun k2 v (u : Sg) => X4_askByPlan_10 (X4_askByPlan_2 k) (nI d) k2 v u) (E := fun u => X4_askByPlan_33 (X4_askByPlan_2 k) (nI d) u) (fun i (u : Sg) => FL [35 + d] [] t u ∧ ∀ n, n < i → u.1 (35 + d) n = st.1 62 d) 13
        (fun k2 i u hi ⟨b1, b2⟩ => by
          refine ⟨sI u (35 + d) i (st.1 62 d), ⟨b1.tr (sI_fl (by simp)), fun n hn => ?_⟩, ?_⟩
          · rw [sI_at]
            by_cases c : n = i
            · subst c; rw [if_pos ⟨rfl, rfl⟩]
            · rw [if_neg (by omega)]; exact b2 n (by omega)
          · show X4_askByPlan_10b (X4_askByPlan_2 k) (X4_askByPlan_10 (X4_askByPlan_2 k) (nI d) k2) (nI d) (nI i) u = _
            unfold X4_askByPlan_10b
            rw [if_neg (gt12 hi), cx6 hd, cx6 hd, cx13 hi, nm_eq, nm_eq, clI (by omega), clI (by omega), b1.1 62 (by simp; omega), a1.1 62 (by decide), nI_1])
        (fun k2 u _ => by
          show X4_askByPlan_10b (X4_askByPlan_2 k) (X4_askByPlan_10 (X4_askByPlan_2 k) (nI d) k2) (nI d) (nI 13) u = _
          unfold X4_askByPlan_10b
          rw [if_pos gt12'])
        13 0 FU t rfl (FU_gt (by decide)) ⟨FL.rf, fun n hn => by omega⟩
      refine ⟨u, ⟨a1.tr (c1.up (by simp [AI]; omega) (by simp)), fun d' hd' n hn => ?_⟩, ?_⟩
      · by_cases c : d' = d
        · subst c; exact c2 n hn
        · rw [c1.1 (35 + d') (by simp; omega)]; exact a2 d' (by omega) n hn
      · show X4_askByPlan_2b (X4_askByPlan_2 k) (nI d) t = _
        unfold X4_askByPlan_2b
        rw [if_neg (show ¬ (6 : Int32) ≤ nI d from nI_ge (b := 6) hd (by decide)), show (0 : Int32) = nI 0 from rfl]
        refine ce.trans ?_
        show X4_askByPlan_33 (X4_askByPlan_2 k) (nI d) u = _
        unfold X4_askByPlan_33
        rw [nm_eq, nI_1])
    (fun k t _ => by
      show X4_askByPlan_2b (X4_askByPlan_2 k) (nI 6) t = _
      unfold X4_askByPlan_2b
      rw [if_pos (by decide)])
    6 0 FU st rfl (FU_gt (by decide)) ⟨FL.rf, fun f hf => by omega⟩
  refine ⟨t, ?_, h1, h2⟩
  unfold X4_askByPlan
  rw [show (0 : Int32) = nI 0 from rfl]
  exact he
