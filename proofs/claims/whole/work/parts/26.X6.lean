/-! lifted by program: SaturdaySale.wipe, SaturdaySale.worst, SaturdaySale.worth -/
section LIFT
variable {p : Program} {l : Launch} {e : Env} {s : State} {m : MethodId} {args : Array Value} {below : List Frame} {meth : Method} {c : Code} {g : Gx} {A : Nat → Prop} {H : Heap} {locs : List Loc} {ls : Array Slot}
def X7_wipe    (st : Sg) : Option (Int32 × Sg) :=
  nm (st.1 67 1) fun v1 =>
  nm (sI st 67 1 0) fun st2 =>
  some (v1, st2)
abbrev rm_X7_wipe : Room := { frames := 0, cells := 0, slots := 0, locals := 0 }
set_option maxHeartbeats 4000000 in
set_option maxRecDepth 100000 in
theorem w_X7_wipe (X : Cx g p s m args meth c cX7_wipe 2 RX7 (some .int))  {st : Sg} {r9 : Int32} {st9 : Sg}  (h : X7_wipe st = some (r9, st9)) (Y : Hp g nwX (ceX g) A s.heap st H locs)  (hl : lv_has ls 2 [(0, .ref (g.2.1 0))]) : W p l e rm_X7_wipe s m args below meth c H locs 0 0 (MQ below (QI g nwX (ceX g) A r9 st9) args s 0 0 A) (F0 m 0 ls []) := by
  have hx := X.1
  have hb := X.2.1
  unfold X7_wipe at h
  refine lv_aload_n hx hb dX7_wipe_0 rfl (lv_at hl 0 rfl) ?_
  refine k_get (v := .ref (g.2.1 67)) X Y fl_7_60 0 (Nat.le_of_ble_eq_true rfl) rfl rfl dX7_wipe_1 ?_
  refine k_get (v := .int (st.1 67 1)) X Y fl_7_203 67 (Nat.le_of_ble_eq_true rfl) rfl rfl dX7_wipe_4 ?_
  obtain ⟨v1, ev1, h⟩ := nm_s h
  refine k_nmI ev1 ?_
  refine lv_istore_n (lv' := [(1, .int v1), (0, .ref (g.2.1 0))]) hx hb dX7_wipe_7 rfl hl (by decide) rfl (fun ls hl => ?_)
  refine lv_aload_n hx hb dX7_wipe_8 rfl (lv_at hl 1 rfl) ?_
  refine k_get (v := .ref (g.2.1 67)) X Y fl_7_60 0 (Nat.le_of_ble_eq_true rfl) rfl rfl dX7_wipe_9 ?_
  refine lv_iconst (v := 0) hx hb dX7_wipe_12 (by decide) ?_
  refine k_putI X Y fl_7_203 67 (Nat.le_of_ble_eq_true rfl) rfl rfl rfl (Nat.le_of_ble_eq_true rfl) rfl dX7_wipe_13 (fun H locs Y => ?_)
  obtain ⟨st2, est2, h⟩ := nm_s h
  have Y : Hp g nwX (ceX g) A s.heap st2 H locs := by rw [est2]; exact Y
  refine lv_iload_n hx hb dX7_wipe_16 rfl (lv_at hl 0 rfl) ?_
  exact k_iretW X Y h dX7_wipe_17
theorem c_X7_wipe (l : Launch) {g : Gx}  {st : Sg} {r9 : Int32} {st9 : Sg} (h : X7_wipe st = some (r9, st9)) : MetI l yX7_wipe cX7_wipe 2 (some .int) rm_X7_wipe g nwX (ceX g) [.ref (g.2.1 0)] st r9 st9 :=
  met_of (Qc := fun A => QI g nwX (ceX g) A r9 st9) (by decide) (Nat.le_of_ble_eq_true rfl) (fun p e s m below meth c A ls X Y hl => w_X7_wipe X h Y hl)
def X7_worst_96  (rc49 : Int32 → Int64 → Int32 → Sg → Option (Int32 × Sg)) (x2 : Int32) (x3 : Int64) (x5 : Int32) (st : Sg) : Option (Int32 × Sg) :=
  nm (x5 + 1) fun v1 =>
  rc49 x2 x3 v1 st
def X7_worst_102   (x2 : Int32) (st : Sg) : Option (Int32 × Sg) :=
  some (x2, st)
def X7_worst_49b  (rc49 : Int32 → Int64 → Int32 → Sg → Option (Int32 × Sg)) (x2 : Int32) (x3 : Int64) (x5 : Int32) (st : Sg) : Option (Int32 × Sg) :=
  if (12 : Int32) < x5 then
    X7_worst_102 x2 st
  else
    cix 0 7 <|
    cix x5 13 <|
    cix 0 7 <|
    cix x5 13 <|
    nm ((st.2 (10 + ((0 : Int32)).toNatClampNeg) x5.toNatClampNeg) - (st.2 (27 + ((0 : Int32)).toNatClampNeg) x5.toNatClampNeg)) fun v6 =>
    if (lg_cmp v6 x3) ≤ (0 : Int32) then
      X7_worst_96 rc49 x2 x3 x5 st
    else
      X7_worst_96 rc49 x5 v6 x5 st
def X7_worst_49    : Nat → Int32 → Int64 → Int32 → Sg → Option (Int32 × Sg)
  | 0, _, _, _, _ => none
  | k + 1, x2, x3, x5, st => X7_worst_49b   (X7_worst_49 k) x2 x3 x5 st
def X7_worst    (st : Sg) : Option (Int32 × Sg) :=
  bnd1 (X7_ruleRefusalOf 1 st) fun v2 =>
  if v2 = (0 : Int32) then
    bnd1 (X7_findBest st) fun st5 =>
    bnd1 (X7_findBoy st5) fun st7 =>
    cix 0 7 <|
    cix 1 13 <|
    cix 0 7 <|
    cix 1 13 <|
    nm ((st7.2 (10 + ((0 : Int32)).toNatClampNeg) (1 : Int32).toNatClampNeg) - (st7.2 (27 + ((0 : Int32)).toNatClampNeg) (1 : Int32).toNatClampNeg)) fun v12 =>
    X7_worst_49 FU 1 v12 2 st7
  else
    some (v2, st)
abbrev rm_X7_worst : Room := { frames := 5, cells := 0, slots := 0, locals := 115 }
set_option maxHeartbeats 4000000 in
set_option maxRecDepth 100000 in
theorem w_X7_worst_96 (X : Cx g p s m args meth c cX7_worst 8 RX7 (some .int)) {x2 : Int32} {x3 : Int64} {x5 : Int32} {st : Sg} {r9 : Int32} {st9 : Sg} (rc49 : Int32 → Int64 → Int32 → Sg → Option (Int32 × Sg)) (hrc49 : ∀ (x2 : Int32) (x3 : Int64) (x5 : Int32) (st : Sg) (ls : Array Slot) (H : Heap) (locs : List Loc), rc49 x2 x3 x5 st = some (r9, st9) → Hp g nwX (ceX g) A s.heap st H locs → lv_has ls 8 [(0, .ref (g.2.1 0)), (2, .int x2), (3, .long x3), (5, .int x5)] → W p l e rm_X7_worst s m args below meth c H locs 0 0 (MQ below (QI g nwX (ceX g) A r9 st9) args s 0 0 A) (F0 m 49 ls [])) (h : X7_worst_96 rc49 x2 x3 x5 st = some (r9, st9)) (Y : Hp g nwX (ceX g) A s.heap st H locs)  (hl : lv_has ls 8 [(0, .ref (g.2.1 0)), (2, .int x2), (3, .long x3), (5, .int x5)]) : W p l e rm_X7_worst s m args below meth c H locs 0 0 (MQ below (QI g nwX (ceX g) A r9 st9) args s 0 0 A) (F0 m 96 ls []) := by
  have hx := X.1
  have hb := X.2.1
  unfold X7_worst_96 at h
  obtain ⟨v1, ev1, h⟩ := nm_s h
  refine lv_iinc (v := v1) (lv' := [(5, .int v1), (0, .ref (g.2.1 0)), (2, .int x2), (3, .long x3)]) hx hb dX7_worst_96 hl (k := 3) rfl (by rw [ev1]; rfl) (by decide) rfl (fun ls hl => ?_)
  refine lv_goto (tgt := 49) hx hb dX7_worst_99 (by decide) ?_
  exact hrc49 x2 x3 v1 st _ _ _ h Y (lv_sub hl [1, 2, 3, 0] rfl)
set_option maxHeartbeats 4000000 in
set_option maxRecDepth 100000 in
theorem w_X7_worst_102 (X : Cx g p s m args meth c cX7_worst 8 RX7 (some .int)) {x2 : Int32} {st : Sg} {r9 : Int32} {st9 : Sg}  (h : X7_worst_102 x2 st = some (r9, st9)) (Y : Hp g nwX (ceX g) A s.heap st H locs)  (hl : lv_has ls 8 [(2, .int x2)]) : W p l e rm_X7_worst s m args below meth c H locs 0 0 (MQ below (QI g nwX (ceX g) A r9 st9) args s 0 0 A) (F0 m 102 ls []) := by
  have hx := X.1
  have hb := X.2.1
  unfold X7_worst_102 at h
  refine lv_iload_n hx hb dX7_worst_102 rfl (lv_at hl 0 rfl) ?_
  exact k_iretW X Y h dX7_worst_103
set_option maxHeartbeats 4000000 in
set_option maxRecDepth 100000 in
theorem w_X7_worst_49b (X : Cx g p s m args meth c cX7_worst 8 RX7 (some .int)) {x2 : Int32} {x3 : Int64} {x5 : Int32} {st : Sg} {r9 : Int32} {st9 : Sg} (rc49 : Int32 → Int64 → Int32 → Sg → Option (Int32 × Sg)) (hrc49 : ∀ (x2 : Int32) (x3 : Int64) (x5 : Int32) (st : Sg) (ls : Array Slot) (H : Heap) (locs : List Loc), rc49 x2 x3 x5 st = some (r9, st9) → Hp g nwX (ceX g) A s.heap st H locs → lv_has ls 8 [(0, .ref (g.2.1 0)), (2, .int x2), (3, .long x3), (5, .int x5)] → W p l e rm_X7_worst s m args below meth c H locs 0 0 (MQ below (QI g nwX (ceX g) A r9 st9) args s 0 0 A) (F0 m 49 ls [])) (h : X7_worst_49b rc49 x2 x3 x5 st = some (r9, st9)) (Y : Hp g nwX (ceX g) A s.heap st H locs)  (hl : lv_has ls 8 [(0, .ref (g.2.1 0)), (2, .int x2), (3, .long x3), (5, .int x5)]) : W p l e rm_X7_worst s m args below meth c H locs 0 0 (MQ below (QI g nwX (ceX g) A r9 st9) args s 0 0 A) (F0 m 49 ls []) := by
  have hx := X.1
  have hb := X.2.1
  unfold X7_worst_49b at h
  refine lv_iload hx hb dX7_worst_49 (lv_at hl 3 rfl) ?_
  refine lv_bipush (v := 12) hx hb dX7_worst_51 (by decide) ?_
  refine lv_icmp_gt (tgt := 102) hx hb dX7_worst_53 (by decide) (fun c1 => ?_) (fun c1 => ?_)
  · have h := ite_t h c1
    exact w_X7_worst_102 X  h Y  (lv_sub hl [1] rfl)
  · have h := ite_f h c1
    refine lv_aload_n hx hb dX7_worst_56 rfl (lv_at hl 0 rfl) ?_
    refine k_get (v := .ref (g.2.1 8)) X Y fl_7_23 0 (Nat.le_of_ble_eq_true rfl) rfl rfl dX7_worst_57 ?_
    refine k_get (v := .ref (g.2.1 9)) X Y fl_7_172 8 (Nat.le_of_ble_eq_true rfl) rfl rfl dX7_worst_60 ?_
    refine lv_iconst (v := 0) hx hb dX7_worst_63 (by decide) ?_
    obtain ⟨i2, h⟩ := cix_s h
    refine k_aaldJ (b := 10) X Y 9 (Nat.le_of_ble_eq_true rfl) (fun _ _ => rfl) i2 dX7_worst_64 ?_
    refine lv_iload hx hb dX7_worst_65 (lv_at hl 3 rfl) ?_
    obtain ⟨i3, h⟩ := cix_s h
    refine k_lald X Y (10 + ((0 : Int32)).toNatClampNeg) (row_lt i2 (Nat.le_of_ble_eq_true rfl)) (rowX_10 _ (vp_lt i2)) i3 dX7_worst_67 ?_
    refine lv_aload_n hx hb dX7_worst_68 rfl (lv_at hl 0 rfl) ?_
    refine k_get (v := .ref (g.2.1 25)) X Y fl_7_27 0 (Nat.le_of_ble_eq_true rfl) rfl rfl dX7_worst_69 ?_
    refine k_get (v := .ref (g.2.1 26)) X Y fl_7_172 25 (Nat.le_of_ble_eq_true rfl) rfl rfl dX7_worst_72 ?_
    refine lv_iconst (v := 0) hx hb dX7_worst_75 (by decide) ?_
    obtain ⟨i4, h⟩ := cix_s h
    refine k_aaldJ (b := 27) X Y 26 (Nat.le_of_ble_eq_true rfl) (fun _ _ => rfl) i4 dX7_worst_76 ?_
    refine lv_iload hx hb dX7_worst_77 (lv_at hl 3 rfl) ?_
    obtain ⟨i5, h⟩ := cix_s h
    refine k_lald X Y (27 + ((0 : Int32)).toNatClampNeg) (row_lt i4 (Nat.le_of_ble_eq_true rfl)) (rowX_27 _ (vp_lt i4)) i5 dX7_worst_79 ?_
    refine lv_lsub hx hb dX7_worst_80 ?_
    obtain ⟨v6, ev6, h⟩ := nm_s h
    refine k_nmJ ev6 ?_
    refine lv_lstore (lv' := [(6, .long v6), (0, .ref (g.2.1 0)), (2, .int x2), (3, .long x3), (5, .int x5)]) hx hb dX7_worst_81 hl (by decide) rfl (fun ls hl => ?_)
    refine lv_lload hx hb dX7_worst_83 (lv_at hl 0 rfl) ?_
    refine lv_lload_n hx hb dX7_worst_85 rfl (lv_at hl 3 rfl) ?_
    refine W.lcmp hx hb dX7_worst_86 ?_
    refine lv_if_le (tgt := 96) hx hb dX7_worst_87 (by decide) (fun c7 => ?_) (fun c7 => ?_)
    · have h := ite_t h c7
      exact w_X7_worst_96 X rc49 hrc49 h Y  (lv_sub hl [1, 2, 3, 4] rfl)
    · have h := ite_f h c7
      refine lv_lload hx hb dX7_worst_90 (lv_at hl 0 rfl) ?_
      refine lv_lstore_n (lv' := [(3, .long v6), (6, .long v6), (0, .ref (g.2.1 0)), (2, .int x2), (5, .int x5)]) hx hb dX7_worst_92 rfl hl (by decide) rfl (fun ls hl => ?_)
      refine lv_iload hx hb dX7_worst_93 (lv_at hl 4 rfl) ?_
      refine lv_istore_n (lv' := [(2, .int x5), (3, .long v6), (6, .long v6), (0, .ref (g.2.1 0)), (5, .int x5)]) hx hb dX7_worst_95 rfl hl (by decide) rfl (fun ls hl => ?_)
      exact w_X7_worst_96 X rc49 hrc49 h Y  (lv_sub hl [3, 0, 1, 4] rfl)
theorem w_X7_worst_49 (X : Cx g p s m args meth c cX7_worst 8 RX7 (some .int))   {r9 : Int32} {st9 : Sg}   : ∀ (k : Nat) (x2 : Int32) (x3 : Int64) (x5 : Int32) (st : Sg) (ls : Array Slot) (H : Heap) (locs : List Loc), X7_worst_49 k x2 x3 x5 st = some (r9, st9) → Hp g nwX (ceX g) A s.heap st H locs → lv_has ls 8 [(0, .ref (g.2.1 0)), (2, .int x2), (3, .long x3), (5, .int x5)] → W p l e rm_X7_worst s m args below meth c H locs 0 0 (MQ below (QI g nwX (ceX g) A r9 st9) args s 0 0 A) (F0 m 49 ls []) := by
  intro k
  induction k with
  | zero =>
    intro x2 x3 x5 st ls H locs h
    exact none_s h
  | succ k ih =>
    intro x2 x3 x5 st ls H locs h Y hl
    exact w_X7_worst_49b X  (X7_worst_49 k) ih h Y  hl
set_option maxHeartbeats 4000000 in
set_option maxRecDepth 100000 in
theorem w_X7_worst (X : Cx g p s m args meth c cX7_worst 8 RX7 (some .int))  {st : Sg} {r9 : Int32} {st9 : Sg}  (h : X7_worst st = some (r9, st9)) (Y : Hp g nwX (ceX g) A s.heap st H locs)  (hl : lv_has ls 8 [(0, .ref (g.2.1 0))]) : W p l e rm_X7_worst s m args below meth c H locs 0 0 (MQ below (QI g nwX (ceX g) A r9 st9) args s 0 0 A) (F0 m 0 ls []) := by
  have hx := X.1
  have hb := X.2.1
  unfold X7_worst at h
  refine lv_aload_n hx hb dX7_worst_0 rfl (lv_at hl 0 rfl) ?_
  refine lv_iconst (v := 1) hx hb dX7_worst_1 (by decide) ?_
  obtain ⟨v2, hc1, h⟩ := bnd1_s h
  refine k_cI Y (k_runV (As := [.int 1]) (rest := []) (o := 0) X Y cl_7_220 (c_X7_ruleRefusalOf l hc1 _) ⟨rfl, rfl, Nat.le_of_ble_eq_true rfl, Nat.le_of_ble_eq_true rfl⟩ (Nat.le_of_ble_eq_true rfl) rfl rfl hl.1 rfl (Nat.le_of_ble_eq_true rfl) dX7_worst_2 ⟨Nat.zero_le _, Nat.zero_le _⟩) (fun H locs Y => ?_)
  refine lv_istore_n (lv' := [(1, .int v2), (0, .ref (g.2.1 0))]) hx hb dX7_worst_5 rfl hl (by decide) rfl (fun ls hl => ?_)
  refine lv_iload_n hx hb dX7_worst_6 rfl (lv_at hl 0 rfl) ?_
  refine lv_if_eq (tgt := 12) hx hb dX7_worst_7 (by decide) (fun c3 => ?_) (fun c3 => ?_)
  · have h := ite_t h c3
    refine lv_aload_n hx hb dX7_worst_12 rfl (lv_at hl 1 rfl) ?_
    obtain ⟨st5, hc4, h⟩ := bnd1_s h
    refine k_cV Y (k_runV (As := []) (rest := []) (o := 0) X Y cl_7_165 (c_X7_findBest l hc4 _) ⟨rfl, rfl, Nat.le_of_ble_eq_true rfl, Nat.le_of_ble_eq_true rfl⟩ (Nat.le_of_ble_eq_true rfl) rfl rfl hl.1 rfl (Nat.le_of_ble_eq_true rfl) dX7_worst_13 ⟨Nat.zero_le _, Nat.zero_le _⟩) (fun H locs Y => ?_)
    refine lv_aload_n hx hb dX7_worst_16 rfl (lv_at hl 1 rfl) ?_
    obtain ⟨st7, hc6, h⟩ := bnd1_s h
    refine k_cV Y (k_runV (As := []) (rest := []) (o := 0) X Y cl_7_227 (c_X7_findBoy l hc6 _) ⟨rfl, rfl, Nat.le_of_ble_eq_true rfl, Nat.le_of_ble_eq_true rfl⟩ (Nat.le_of_ble_eq_true rfl) rfl rfl hl.1 rfl (Nat.le_of_ble_eq_true rfl) dX7_worst_17 ⟨Nat.zero_le _, Nat.zero_le _⟩) (fun H locs Y => ?_)
    refine lv_iconst (v := 1) hx hb dX7_worst_20 (by decide) ?_
    refine lv_istore_n (lv' := [(2, .int 1), (1, .int v2), (0, .ref (g.2.1 0))]) hx hb dX7_worst_21 rfl hl (by decide) rfl (fun ls hl => ?_)
    refine lv_aload_n hx hb dX7_worst_22 rfl (lv_at hl 2 rfl) ?_
    refine k_get (v := .ref (g.2.1 8)) X Y fl_7_23 0 (Nat.le_of_ble_eq_true rfl) rfl rfl dX7_worst_23 ?_
    refine k_get (v := .ref (g.2.1 9)) X Y fl_7_172 8 (Nat.le_of_ble_eq_true rfl) rfl rfl dX7_worst_26 ?_
    refine lv_iconst (v := 0) hx hb dX7_worst_29 (by decide) ?_
    obtain ⟨i8, h⟩ := cix_s h
    refine k_aaldJ (b := 10) X Y 9 (Nat.le_of_ble_eq_true rfl) (fun _ _ => rfl) i8 dX7_worst_30 ?_
    refine lv_iconst (v := 1) hx hb dX7_worst_31 (by decide) ?_
    obtain ⟨i9, h⟩ := cix_s h
    refine k_lald X Y (10 + ((0 : Int32)).toNatClampNeg) (row_lt i8 (Nat.le_of_ble_eq_true rfl)) (rowX_10 _ (vp_lt i8)) i9 dX7_worst_32 ?_
    refine lv_aload_n hx hb dX7_worst_33 rfl (lv_at hl 2 rfl) ?_
    refine k_get (v := .ref (g.2.1 25)) X Y fl_7_27 0 (Nat.le_of_ble_eq_true rfl) rfl rfl dX7_worst_34 ?_
    refine k_get (v := .ref (g.2.1 26)) X Y fl_7_172 25 (Nat.le_of_ble_eq_true rfl) rfl rfl dX7_worst_37 ?_
    refine lv_iconst (v := 0) hx hb dX7_worst_40 (by decide) ?_
    obtain ⟨i10, h⟩ := cix_s h
    refine k_aaldJ (b := 27) X Y 26 (Nat.le_of_ble_eq_true rfl) (fun _ _ => rfl) i10 dX7_worst_41 ?_
    refine lv_iconst (v := 1) hx hb dX7_worst_42 (by decide) ?_
    obtain ⟨i11, h⟩ := cix_s h
    refine k_lald X Y (27 + ((0 : Int32)).toNatClampNeg) (row_lt i10 (Nat.le_of_ble_eq_true rfl)) (rowX_27 _ (vp_lt i10)) i11 dX7_worst_43 ?_
    refine lv_lsub hx hb dX7_worst_44 ?_
    obtain ⟨v12, ev12, h⟩ := nm_s h
    refine k_nmJ ev12 ?_
    refine lv_lstore_n (lv' := [(3, .long v12), (2, .int 1), (1, .int v2), (0, .ref (g.2.1 0))]) hx hb dX7_worst_45 rfl hl (by decide) rfl (fun ls hl => ?_)
    refine lv_iconst (v := 2) hx hb dX7_worst_46 (by decide) ?_
    refine lv_istore (lv' := [(5, .int 2), (3, .long v12), (2, .int 1), (1, .int v2), (0, .ref (g.2.1 0))]) hx hb dX7_worst_47 hl (by decide) rfl (fun ls hl => ?_)
    exact w_X7_worst_49 X   FU 1 v12 2 st7 _ _ _ h Y (lv_sub hl [4, 2, 1, 0] rfl)
  · have h := ite_f h c3
    refine lv_iload_n hx hb dX7_worst_10 rfl (lv_at hl 0 rfl) ?_
    exact k_iretW X Y h dX7_worst_11
theorem c_X7_worst (l : Launch) {g : Gx}  {st : Sg} {r9 : Int32} {st9 : Sg} (h : X7_worst st = some (r9, st9)) : MetI l yX7_worst cX7_worst 8 (some .int) rm_X7_worst g nwX (ceX g) [.ref (g.2.1 0)] st r9 st9 :=
  met_of (Qc := fun A => QI g nwX (ceX g) A r9 st9) (by decide) (Nat.le_of_ble_eq_true rfl) (fun p e s m below meth c A ls X Y hl => w_X7_worst X h Y hl)
def X7_worth_36   (k0 : Int32) (st : Sg) : Option Int32 :=
  some k0
def X7_worth   (x1 : Int32) (x2 : Int32) (st : Sg) : Option Int32 :=
  bnd1 (X3_isSort x1 st) fun v2 =>
  if v2 = (0 : Int32) then
    some (-1)
  else
    bnd1 (X7_isWithin x2 0 5) fun v5 =>
    if v5 = (0 : Int32) then
      X7_worth_36 (-2) st
    else
      bnd1 (X3_worthOn x1 x2 st) fun v8 =>
      X7_worth_36 v8 st
abbrev rm_X7_worth : Room := { frames := 1, cells := 0, slots := 0, locals := 23 }
set_option maxHeartbeats 4000000 in
set_option maxRecDepth 100000 in
theorem w_X7_worth_36 (X : Cx g p s m args meth c cX7_worth 3 RX7 (some .int)) {k0 : Int32} {st : Sg} {r9 : Int32}  (h : X7_worth_36 k0 st = some r9) (Y : Hp g nwX (ceX g) A s.heap st H locs)  (hl : lv_has ls 3 []) : W p l e rm_X7_worth s m args below meth c H locs 0 0 (MQ below (QI g nwX (ceX g) A r9 st) args s 0 0 A) (F0 m 36 ls [.int k0]) := by
  have hx := X.1
  have hb := X.2.1
  unfold X7_worth_36 at h
  exact k_iretR X Y h dX7_worth_36
set_option maxHeartbeats 4000000 in
set_option maxRecDepth 100000 in
theorem w_X7_worth (X : Cx g p s m args meth c cX7_worth 3 RX7 (some .int)) {x1 : Int32} {x2 : Int32} {st : Sg} {r9 : Int32}  (h : X7_worth x1 x2 st = some r9) (Y : Hp g nwX (ceX g) A s.heap st H locs)  (hl : lv_has ls 3 [(0, .ref (g.2.1 0)), (1, .int x1), (2, .int x2)]) : W p l e rm_X7_worth s m args below meth c H locs 0 0 (MQ below (QI g nwX (ceX g) A r9 st) args s 0 0 A) (F0 m 0 ls []) := by
  have hx := X.1
  have hb := X.2.1
  unfold X7_worth at h
  refine lv_aload_n hx hb dX7_worth_0 rfl (lv_at hl 0 rfl) ?_
  refine k_get (v := .ref (g.2.1 1)) X Y fl_7_10 0 (Nat.le_of_ble_eq_true rfl) rfl rfl dX7_worth_1 ?_
  refine lv_iload_n hx hb dX7_worth_4 rfl (lv_at hl 1 rfl) ?_
  obtain ⟨v2, hc1, h⟩ := bnd1_s h
  refine k_cI Y (k_runV (As := [.int x1]) (rest := []) (o := 1) X Y cl_7_118 (c_X3_isSort l hc1 _) ⟨rfl, rfl, Nat.le_of_ble_eq_true rfl, Nat.le_of_ble_eq_true rfl⟩ (Nat.le_of_ble_eq_true rfl) rfl rfl hl.1 rfl (Nat.le_of_ble_eq_true rfl) dX7_worth_5 ⟨Nat.zero_le _, Nat.zero_le _⟩) (fun H locs Y => ?_)
  refine lv_if_ne (tgt := 13) hx hb dX7_worth_8 (by decide) (fun c3 => ?_) (fun c3 => ?_)
  · have h := ite_f h c3
    refine lv_iload_n hx hb dX7_worth_13 rfl (lv_at hl 2 rfl) ?_
    refine lv_iconst (v := 0) hx hb dX7_worth_14 (by decide) ?_
    refine lv_iconst (v := 5) hx hb dX7_worth_15 (by decide) ?_
    obtain ⟨v5, hc4, h⟩ := bnd1_s h
    refine k_cI Y (k_runS (As := [.int x2, .int 0, .int 5]) (rest := []) X Y cl_7_81 (c_X7_isWithin l hc4 _) ⟨rfl, rfl, Nat.le_of_ble_eq_true rfl, Nat.le_of_ble_eq_true rfl⟩ rfl hl.1 rfl (Nat.le_of_ble_eq_true rfl) dX7_worth_16 ⟨Nat.zero_le _, Nat.zero_le _⟩) (fun H locs Y => ?_)
    refine lv_if_eq (tgt := 34) hx hb dX7_worth_19 (by decide) (fun c6 => ?_) (fun c6 => ?_)
    · have h := ite_t h c6
      refine lv_bipush (v := (-2)) hx hb dX7_worth_34 (by decide) ?_
      exact w_X7_worth_36 X  h Y  (lv_sub hl [] rfl)
    · have h := ite_f h c6
      refine lv_aload_n hx hb dX7_worth_22 rfl (lv_at hl 0 rfl) ?_
      refine k_get (v := .ref (g.2.1 1)) X Y fl_7_10 0 (Nat.le_of_ble_eq_true rfl) rfl rfl dX7_worth_23 ?_
      refine lv_iload_n hx hb dX7_worth_26 rfl (lv_at hl 1 rfl) ?_
      refine lv_iload_n hx hb dX7_worth_27 rfl (lv_at hl 2 rfl) ?_
      obtain ⟨v8, hc7, h⟩ := bnd1_s h
      refine k_cI Y (k_runV (As := [.int x1, .int x2]) (rest := []) (o := 1) X Y cl_7_126 (c_X3_worthOn l hc7 _) ⟨rfl, rfl, Nat.le_of_ble_eq_true rfl, Nat.le_of_ble_eq_true rfl⟩ (Nat.le_of_ble_eq_true rfl) rfl rfl hl.1 rfl (Nat.le_of_ble_eq_true rfl) dX7_worth_28 ⟨Nat.zero_le _, Nat.zero_le _⟩) (fun H locs Y => ?_)
      refine lv_goto (tgt := 36) hx hb dX7_worth_31 (by decide) ?_
      exact w_X7_worth_36 X  h Y  (lv_sub hl [] rfl)
  · have h := ite_t h c3
    refine lv_iconst (v := (-1)) hx hb dX7_worth_11 (by decide) ?_
    exact k_iretR X Y h dX7_worth_12
theorem c_X7_worth (l : Launch) {g : Gx} {x1 : Int32} {x2 : Int32} {st : Sg} {r9 : Int32} (h : X7_worth x1 x2 st = some r9) : MetI l yX7_worth cX7_worth 3 (some .int) rm_X7_worth g nwX (ceX g) [.ref (g.2.1 0), .int x1, .int x2] st r9 st :=
  met_of (Qc := fun A => QI g nwX (ceX g) A r9 st) (by decide) (Nat.le_of_ble_eq_true rfl) (fun p e s m below meth c A ls X Y hl => w_X7_worth X h Y hl)
end LIFT
