/-! from the law's entry to its loop -/
theorem inst_0 : Cond.instantiable RX0 1 ∈ TB := tb_in (n := 125) (by decide +kernel) rfl
theorem inst_1 : Cond.instantiable RX1 2 ∈ TB := tb_in (n := 136) (by decide +kernel) rfl
theorem inst_2 : Cond.instantiable RX2 7 ∈ TB := tb_in (n := 169) (by decide +kernel) rfl
theorem inst_3 : Cond.instantiable RX3 11 ∈ TB := tb_in (n := 21) (by decide +kernel) rfl
theorem inst_4 : Cond.instantiable RX4 3 ∈ TB := tb_in (n := 83) (by decide +kernel) rfl
theorem inst_5 : Cond.instantiable RX5 2 ∈ TB := tb_in (n := 152) (by decide +kernel) rfl
theorem inst_6 : Cond.instantiable RX6 3 ∈ TB := tb_in (n := 106) (by decide +kernel) rfl
theorem inst_7 : Cond.instantiable RX7 14 ∈ TB := tb_in (n := 13) (by decide +kernel) rfl
theorem inst_8 : Cond.instantiable RX8 29 ∈ TB := tb_in (n := 567) (by decide +kernel) rfl
theorem arr_K {s : State} {args : Array Value} {ty : FieldType} (h : (Cond.arrayClass ty).before args s = true) : ∃ cA, ArrOfT s cA ty ∧ s.vm.findClass ("[" ++ ty.toString) = some cA := by
  obtain ⟨c, k, comp, h1, h2, h3⟩ := Cond.arrayClass_spec h
  exact ⟨c, fun n z => ⟨fun k h => (by cases h), k, h2, comp, h3⟩, h1⟩
theorem arr_KK {s : State} {args : Array Value} {ty : FieldType} (h : (Cond.arrayOver (.array ty)).before args s = true) : ∃ cA, ArrOfT s cA (.array ty) ∧ s.vm.findClass ("[" ++ (FieldType.array ty).toString) = some cA := by
  obtain ⟨comp, c, k, h1, h2, h3, h4, h5⟩ := Jvm.Stand.arrayOver_specB h
  exact ⟨c, fun n z => ⟨fun k h => (by cases h), k, h3, comp, h4⟩, h5⟩
theorem seg_wd {g : Gx} {ce : Ce} {st : Sg} {N : Nat} : seg g ce st 0 N = wdG N g.2.1 ce st := by
  unfold seg wdG
  refine List.map_congr_left (fun k _ => ?_)
  rw [Nat.zero_add]
set_option maxHeartbeats 8000000 in
set_option maxRecDepth 100000 in
theorem start_of {Rel : Nat → Sg → Sg → Prop} (hSt : StepOK Rel) (h0 : Rel 0 st0X st0M) {p : Program} {e : Env} {s : State} {m : MethodId} {below : List Frame} {meth : Method} {c : Code} (l : Launch) {b L : Nat} {xs : Nat → Int32} (hL : L ≤ 2048) (C0 : lw_At p s m meth c b L xs) : W p l e room_1 s m #[Value.ref b] below meth c s.heap [] 0 0 (lw_Z below #[Value.ref b] s) (entryFrame m ([Value.ref b] : List Value).toArray 4) := by
  obtain ⟨hx, hb, hr, hml, hown, hts0, hX, hbl, hlocks, hgv⟩ := id C0
  have hts : ∀ w ∈ TB, w.before #[Value.ref b] s = true := fun w hw => hts0 w (List.mem_filter.mp hw).1
  have hNB : ∀ w ∈ NB, va_Nw w s := nb_of (fun w hw => hts0 w (List.mem_append_right _ hw))
  have hOV : OV s := ⟨hts0 (.arrayOver (.array .int)) (List.mem_append_right _ (List.mem_of_getElem? (i := 91) (by decide +kernel))), hts0 (.arrayOver (.array .long)) (List.mem_append_right _ (List.mem_of_getElem? (i := 89) (by decide +kernel)))⟩
  obtain ⟨c0, i0, hKn0⟩ := u_known (C := RX0) (T := TX0) (N := 1) (n := 1) hts inT_0 (hts _ inst_0)
  obtain ⟨c1, i1, hKn1⟩ := u_known (C := RX1) (T := TX1) (N := 2) (n := 2) hts inT_1 (hts _ inst_1)
  obtain ⟨c2, i2, hKn2⟩ := u_known (C := RX2) (T := TX2) (N := 7) (n := 7) hts inT_2 (hts _ inst_2)
  obtain ⟨c3, i3, hKn3⟩ := u_known (C := RX3) (T := TX3) (N := 11) (n := 11) hts inT_3 (hts _ inst_3)
  obtain ⟨c4, i4, hKn4⟩ := u_known (C := RX4) (T := TX4) (N := 3) (n := 3) hts inT_4 (hts _ inst_4)
  obtain ⟨c5, i5, hKn5⟩ := u_known (C := RX5) (T := TX5) (N := 2) (n := 2) hts inT_5 (hts _ inst_5)
  obtain ⟨c6, i6, hKn6⟩ := u_known (C := RX6) (T := TX6) (N := 3) (n := 3) hts inT_6 (hts _ inst_6)
  obtain ⟨c7, i7, hKn7⟩ := u_known (C := RX7) (T := TX7) (N := 14) (n := 14) hts inT_7 (hts _ inst_7)
  obtain ⟨c8, i8, hKn8⟩ := u_known (C := RX8) (T := TX8) (N := 29) (n := 29) hts inT_8 (hts _ inst_8)
  obtain ⟨cI, aI, fI⟩ := arr_K (hts _ arrI)
  obtain ⟨cJ, aJ, fJ⟩ := arr_K (hts _ arrJ)
  obtain ⟨cII, aII, fII⟩ := arr_KK hOV.1
  obtain ⟨cJJ, aJJ, fJJ⟩ := arr_KK hOV.2
  obtain ⟨dC, dI, hKc⟩ : ∃ (dC : Nat → ClassId) (dI : Nat → Nat → Nat), ∀ (k : Nat) (q : vw_C), vwCl[k]? = some q → u_Kn s q.1 q.2.1 q.2.2 (dC k) (dI k) := by
    refine ⟨fun k => if k = 0 then c0 else if k = 1 then c1 else if k = 2 then c2 else if k = 3 then c3 else if k = 4 then c4 else if k = 5 then c5 else if k = 6 then c6 else if k = 7 then c7 else c8, fun k => if k = 0 then i0 else if k = 1 then i1 else if k = 2 then i2 else if k = 3 then i3 else if k = 4 then i4 else if k = 5 then i5 else if k = 6 then i6 else if k = 7 then i7 else i8, ?_⟩
    intro k q hq
    match k, hq with
    | 0, hq => cases hq; exact hKn0
    | 1, hq => cases hq; exact hKn1
    | 2, hq => cases hq; exact hKn2
    | 3, hq => cases hq; exact hKn3
    | 4, hq => cases hq; exact hKn4
    | 5, hq => cases hq; exact hKn5
    | 6, hq => cases hq; exact hKn6
    | 7, hq => cases hq; exact hKn7
    | 8, hq => cases hq; exact hKn8
    | k + 9, hq => simp [vwCl] at hq
  obtain ⟨gX, hgX⟩ : ∃ gX : Gx, gX = ((dC, dI), (fun k => s.heap.size + k), cI, cJ, cII, cJJ) := ⟨_, rfl⟩
  obtain ⟨gM, hgM⟩ : ∃ gM : Gx, gM = ((dC, dI), (fun k => s.heap.size + 74 + k), cI, cJ, cII, cJJ) := ⟨_, rfl⟩
  have hK0 : va_K (dC, dI) vwCl [(cI, .int), (cJ, .long), (cII, .array .int), (cJJ, .array .long)] s := by
    refine ⟨hKc, fun k q hq => ?_⟩
    match k, hq with
    | 0, hq => cases hq; exact ⟨aI, fI⟩
    | 1, hq => cases hq; exact ⟨aJ, fJ⟩
    | 2, hq => cases hq; exact ⟨aII, fII⟩
    | 3, hq => cases hq; exact ⟨aJJ, fJJ⟩
    | k + 4, hq => simp at hq
  have hKX : va_K gX.1 vwCl (tysG gX) s := by subst hgX; exact hK0
  have hKM : va_K gM.1 vwCl (tysG gM) s := by subst hgM; exact hK0
  have hg1 : gM.1 = gX.1 := by subst hgX; subst hgM; rfl
  have X : Cx gX p s m #[Value.ref b] meth c cL_law 4 RL ret := ⟨hx, hb, hml, hown, hts, hNB, hKX, hlocks, hr⟩
  have X2 : Cx gM p s m #[Value.ref b] meth c cL_law 4 RL ret := ⟨hx, hb, hml, hown, hts, hNB, hKM, hlocks, hr⟩
  have aX : ∀ k, gX.2.1 k = s.heap.size + k := fun k => by subst hgX; rfl
  have aM : ∀ k, gM.2.1 k = s.heap.size + 74 + k := fun k => by subst hgM; rfl
  have hl := lv_entry ([.ref b]) (n := 4) (Nat.le_of_ble_eq_true rfl)
  rw [lg_entry_eq]
  generalize (lg_sl ([.ref b]) ++ List.replicate (4 - (lg_sl ([.ref b])).length) Slot.unset).toArray = ls at hl ⊢
  have hl : lv_has ls 4 [(0, .ref b)] := hl
  have Y : Hw gX (fun q : Nat => s.heap.size ≤ q) s.heap 0 [] s.heap [] := ⟨fun k q h => by simp at h, ⟨fun i j p q h => by simp at h, fun k q h => by simp at h⟩, va_S.rf, fun _ h => h, by rw [aX]; rfl, fun k => by rw [aX, aX]; rfl⟩
  refine n_new X Y cn_L_7 (Nat.le_of_ble_eq_true rfl) (Nat.le_of_ble_eq_true rfl) dL_law_0 (fun H Y => ?_)
  refine lv_dup hx hb dL_law_3 rfl ?_
  have Y : Hw gX (fun q : Nat => s.heap.size ≤ q) s.heap (0 + 1) ([] ++ [(gX.2.1 0, .inr (7, [.null, .null, .null, .null, .null, .null, .null, .null, .null, .null, .null, .int 0, .int 0, .int 0]))]) H [] := Y
  refine n_call X hOV Y cc_L_9 (mc_X7_0 l) ⟨rfl, rfl, Nat.le_of_ble_eq_true rfl, Nat.le_of_ble_eq_true rfl⟩ hl.1 (Nat.le_of_ble_eq_true rfl) dL_law_4 ⟨Nat.le_of_ble_eq_true rfl, Nat.le_of_ble_eq_true rfl⟩ (fun H locs Y => ?_)
  refine lv_astore_n (lv' := [(1, .ref (gX.2.1 0)), (0, .ref b)]) hx hb dL_law_7 rfl hl (by decide) rfl (fun ls hl => ?_)
  obtain ⟨yP, yD, yS, yA, yz, yg⟩ := Y
  have Y : Hw gM (fun q : Nat => s.heap.size ≤ q) s.heap 0 (seg gX (ceX gX) st0X 0 74) H locs := ⟨by rw [hg1]; exact yP, yD, yS, yA, by rw [yz, aX, aM] <;> rfl, fun k => by rw [aM, aM]; rfl⟩
  refine n_new X2 Y cn_L_10 (Nat.le_of_ble_eq_true rfl) (Nat.le_of_ble_eq_true rfl) dL_law_8 (fun H Y => ?_)
  refine lv_dup hx hb dL_law_11 rfl ?_
  have Y : Hw gM (fun q : Nat => s.heap.size ≤ q) s.heap (0 + 1) (seg gX (ceX gX) st0X 0 74 ++ [(gM.2.1 0, .inr (8, [.int 0, .int 0, .int 0, .null, .int 0, .null, .null, .null, .null, .int 0, .null, .null, .long 0, .null, .null, .null, .null, .null, .null, .null, .int 0, .null, .null, .null, .null, .int 0, .int 0, .null, .null]))]) H locs := Y
  refine n_call X2 hOV Y cc_L_12 (mc_X8_0 l) ⟨rfl, rfl, Nat.le_of_ble_eq_true rfl, Nat.le_of_ble_eq_true rfl⟩ hl.1 (Nat.le_of_ble_eq_true rfl) dL_law_12 ⟨Nat.le_of_ble_eq_true rfl, Nat.le_of_ble_eq_true rfl⟩ (fun H locs Y => ?_)
  refine lv_astore_n (lv' := [(2, .ref (gM.2.1 0)), (1, .ref (gX.2.1 0)), (0, .ref b)]) hx hb dL_law_15 rfl hl (by decide) rfl (fun ls hl => ?_)
  refine lv_iconst (v := 0) hx hb dL_law_16 (by decide) ?_
  refine lv_istore_n (lv' := [(3, .int 0), (2, .ref (gM.2.1 0)), (1, .ref (gX.2.1 0)), (0, .ref b)]) hx hb dL_law_17 rfl hl (by decide) rfl (fun ls hl => ?_)
  obtain ⟨yP, yD, yS, yA, yz, yg⟩ := Y
  rw [seg_wd, seg_wd] at yP yD
  have YX : Hp gX nwX (ceX gX) (fun q : Nat => s.heap.size ≤ q) s.heap st0X H locs := by
    refine ⟨?_, ⟨fun i j x y hi hj hxy => ?_, fun k x hx => ?_⟩, yS, yA⟩
    · rw [← hg1]
      exact fun k q hq => yP k q (by rw [List.getElem?_append_left (List.getElem?_eq_some_iff.mp hq).1]; exact hq)
    · exact yD.1 i j x y (by rw [List.getElem?_append_left (List.getElem?_eq_some_iff.mp hi).1]; exact hi) (by rw [List.getElem?_append_left (List.getElem?_eq_some_iff.mp hj).1]; exact hj) hxy
    · exact yD.2 k x (by rw [List.getElem?_append_left (List.getElem?_eq_some_iff.mp hx).1]; exact hx)
  have hsub : ∀ (k : Nat) (q : Nat × va_E), (wdG nwM gM.2.1 (ceM gM) st0M)[k]? = some q → (wdG nwX gX.2.1 (ceX gX) st0X ++ wdG nwM gM.2.1 (ceM gM) st0M)[(wdG nwX gX.2.1 (ceX gX) st0X).length + k]? = some q := fun k q hq => by
    rw [List.getElem?_append_right (Nat.le_add_right _ _), Nat.add_sub_cancel_left]
    exact hq
  have YM : Hp gM nwM (ceM gM) (fun q : Nat => s.heap.size ≤ q) s.heap st0M H locs := by
    refine ⟨fun k q hq => yP _ q (hsub k q hq), ⟨fun i j x y hi hj hxy => ?_, fun k x hx => yD.2 _ x (hsub k x hx)⟩, yS, yA⟩
    have := yD.1 _ _ x y (hsub i x hi) (hsub j y hj) hxy
    omega
  refine l_loop hSt X X2 hX hbl hlocks hL ⟨?_, ?_⟩ (L + 1) 0 st0X st0M ls H locs (by omega) (by omega) h0 ⟨YX, YM, fun i j hi hj h => ?_⟩ (lv_sub hl [3, 2, 1, 0] rfl)
  · exact Nat.le_of_ble_eq_true rfl
  · exact Nat.le_of_ble_eq_true rfl
  · rw [aX, aM] at h
    have hi' : i < 74 := hi
    omega
