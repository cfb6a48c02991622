/-! lifted by program: SaturdaySaleModel.keeps, SaturdaySaleModel.kept, SaturdaySaleModel.left, SaturdaySaleModel.made, SaturdaySaleModel.picks, SaturdaySaleModel.plan, SaturdaySaleModel.price, SaturdaySaleModel.rather, SaturdaySaleModel.rule -/
section LIFT
variable {p : Program} {l : Launch} {e : Env} {s : State} {m : MethodId} {args : Array Value} {below : List Frame} {meth : Method} {c : Code} {g : Gx} {A : Nat → Prop} {H : Heap} {locs : List Loc} {ls : Array Slot}
def X8_keeps_19    (st : Sg) : Option (Int64 × Sg) :=
  some ((-1000000000000000002), st)
def X8_keeps_100   (x2 : Int32) (x3 : Int64) (st : Sg) : Option (Int64 × Sg) :=
  bnd1 (X8_power ((st.1 0 9) * (st.1 0 1))) fun v2 =>
  bnd1 (X8_lowest x3 v2 x2) fun v4 =>
  some (v4, st)
def X8_keeps   (x1 : Int32) (x2 : Int32) (st : Sg) : Option (Int64 × Sg) :=
  bnd1 (X8_in (x1.toInt64) 0 4) fun v2 =>
  if v2 = (0 : Int32) then
    X8_keeps_19 st
  else
    bnd1 (X8_isPart x2) fun v5 =>
    if v5 = (0 : Int32) then
      X8_keeps_19 st
    else
      if (st.1 0 4) = (0 : Int32) then
        some ((-1000000000000000003), st)
      else
        if (3 : Int32) ≤ x1 then
          if x1 = (3 : Int32) then
            bnd1 (X8_findBest st) fun st17 =>
            cix (st17.1 0 0) 91 <|
            nm (st17.2 8 (st17.1 0 0).toNatClampNeg) fun v19 =>
            bnd2 (X8_findKept 0 st17) fun v22 st21 =>
            nm (v19 - v22) fun v23 =>
            X8_keeps_100 x2 v23 st21
          else
            bnd1 (X8_layPlan st) fun st11 =>
            bnd1 (X8_meet st11) fun st13 =>
            cix (st13.1 0 0) 13 <|
            nm (st13.2 7 (st13.1 0 0).toNatClampNeg) fun v15 =>
            X8_keeps_100 x2 v15 st13
        else
          bnd2 (X8_findKept x1 st) fun v26 st25 =>
          X8_keeps_100 x2 v26 st25
abbrev rm_X8_keeps : Room := { frames := 4, cells := 0, slots := 0, locals := 100 }
set_option maxHeartbeats 4000000 in
set_option maxRecDepth 100000 in
theorem w_X8_keeps_19 (X : Cx g p s m args meth c cX8_keeps 7 RX8 (some .long))  {st : Sg} {r9 : Int64} {st9 : Sg}  (h : X8_keeps_19 st = some (r9, st9)) (Y : Hp g nwM (ceM g) A s.heap st H locs)  (hl : lv_has ls 7 []) : W p l e rm_X8_keeps s m args below meth c H locs 0 0 (MQ below (QJ g nwM (ceM g) A r9 st9) args s 0 0 A) (F0 m 19 ls []) := by
  have hx := X.1
  have hb := X.2.1
  unfold X8_keeps_19 at h
  refine k_ldc2 X lg_8_141 dX8_keeps_19 ?_
  exact k_lretW X Y h dX8_keeps_22
set_option maxHeartbeats 4000000 in
set_option maxRecDepth 100000 in
theorem w_X8_keeps_100 (X : Cx g p s m args meth c cX8_keeps 7 RX8 (some .long)) {x2 : Int32} {x3 : Int64} {st : Sg} {r9 : Int64} {st9 : Sg}  (h : X8_keeps_100 x2 x3 st = some (r9, st9)) (Y : Hp g nwM (ceM g) A s.heap st H locs)  (hl : lv_has ls 7 [(0, .ref (g.2.1 0)), (2, .int x2), (3, .long x3)]) : W p l e rm_X8_keeps s m args below meth c H locs 0 0 (MQ below (QJ g nwM (ceM g) A r9 st9) args s 0 0 A) (F0 m 100 ls []) := by
  have hx := X.1
  have hb := X.2.1
  unfold X8_keeps_100 at h
  refine lv_lload_n hx hb dX8_keeps_100 rfl (lv_at hl 2 rfl) ?_
  refine lv_aload_n hx hb dX8_keeps_101 rfl (lv_at hl 0 rfl) ?_
  refine k_get (v := .int (st.1 0 9)) X Y fl_8_103 0 (Nat.le_of_ble_eq_true rfl) rfl rfl dX8_keeps_102 ?_
  refine lv_aload_n hx hb dX8_keeps_105 rfl (lv_at hl 0 rfl) ?_
  refine k_get (v := .int (st.1 0 1)) X Y fl_8_78 0 (Nat.le_of_ble_eq_true rfl) rfl rfl dX8_keeps_106 ?_
  refine lv_imul hx hb dX8_keeps_109 ?_
  obtain ⟨v2, hc1, h⟩ := bnd1_s h
  refine k_cJ Y (k_runS (As := [.int ((st.1 0 9) * (st.1 0 1))]) (rest := [.long x3]) X Y cl_8_161 (c_X8_power l hc1 _) ⟨rfl, rfl, Nat.le_of_ble_eq_true rfl, Nat.le_of_ble_eq_true rfl⟩ rfl hl.1 rfl (Nat.le_of_ble_eq_true rfl) dX8_keeps_110 ⟨Nat.zero_le _, Nat.zero_le _⟩) (fun H locs Y => ?_)
  refine lv_iload_n hx hb dX8_keeps_113 rfl (lv_at hl 1 rfl) ?_
  obtain ⟨v4, hc3, h⟩ := bnd1_s h
  refine k_cJ Y (k_runS (As := [.long x3, .long v2, .int x2]) (rest := []) X Y cl_8_151 (c_X8_lowest l hc3 _) ⟨rfl, rfl, Nat.le_of_ble_eq_true rfl, Nat.le_of_ble_eq_true rfl⟩ rfl hl.1 rfl (Nat.le_of_ble_eq_true rfl) dX8_keeps_114 ⟨Nat.zero_le _, Nat.zero_le _⟩) (fun H locs Y => ?_)
  exact k_lretW X Y h dX8_keeps_117
set_option maxHeartbeats 4000000 in
set_option maxRecDepth 100000 in
theorem w_X8_keeps (X : Cx g p s m args meth c cX8_keeps 7 RX8 (some .long)) {x1 : Int32} {x2 : Int32} {st : Sg} {r9 : Int64} {st9 : Sg}  (h : X8_keeps x1 x2 st = some (r9, st9)) (Y : Hp g nwM (ceM g) A s.heap st H locs)  (hl : lv_has ls 7 [(0, .ref (g.2.1 0)), (1, .int x1), (2, .int x2)]) : W p l e rm_X8_keeps s m args below meth c H locs 0 0 (MQ below (QJ g nwM (ceM g) A r9 st9) args s 0 0 A) (F0 m 0 ls []) := by
  have hx := X.1
  have hb := X.2.1
  unfold X8_keeps at h
  refine lv_iload_n hx hb dX8_keeps_0 rfl (lv_at hl 1 rfl) ?_
  refine lv_i2l hx hb dX8_keeps_1 rfl ?_
  refine lv_lconst (v := 0) hx hb dX8_keeps_2 (by decide) ?_
  refine k_ldc2 X lg_8_99 dX8_keeps_3 ?_
  obtain ⟨v2, hc1, h⟩ := bnd1_s h
  refine k_cI Y (k_runS (As := [.long (x1.toInt64), .long 0, .long 4]) (rest := []) X Y cl_8_83 (c_X8_in l hc1 _) ⟨rfl, rfl, Nat.le_of_ble_eq_true rfl, Nat.le_of_ble_eq_true rfl⟩ rfl hl.1 rfl (Nat.le_of_ble_eq_true rfl) dX8_keeps_6 ⟨Nat.zero_le _, Nat.zero_le _⟩) (fun H locs Y => ?_)
  refine lv_if_eq (tgt := 19) hx hb dX8_keeps_9 (by decide) (fun c3 => ?_) (fun c3 => ?_)
  · have h := ite_t h c3
    exact w_X8_keeps_19 X  h Y  (lv_sub hl [] rfl)
  · have h := ite_f h c3
    refine lv_iload_n hx hb dX8_keeps_12 rfl (lv_at hl 2 rfl) ?_
    obtain ⟨v5, hc4, h⟩ := bnd1_s h
    refine k_cI Y (k_runS (As := [.int x2]) (rest := []) X Y cl_8_138 (c_X8_isPart l hc4 _) ⟨rfl, rfl, Nat.le_of_ble_eq_true rfl, Nat.le_of_ble_eq_true rfl⟩ rfl hl.1 rfl (Nat.le_of_ble_eq_true rfl) dX8_keeps_13 ⟨Nat.zero_le _, Nat.zero_le _⟩) (fun H locs Y => ?_)
    refine lv_if_ne (tgt := 23) hx hb dX8_keeps_16 (by decide) (fun c6 => ?_) (fun c6 => ?_)
    · have h := ite_f h c6
      refine lv_aload_n hx hb dX8_keeps_23 rfl (lv_at hl 0 rfl) ?_
      refine k_get (v := .int (st.1 0 4)) X Y fl_8_96 0 (Nat.le_of_ble_eq_true rfl) rfl rfl dX8_keeps_24 ?_
      refine lv_if_ne (tgt := 34) hx hb dX8_keeps_27 (by decide) (fun c7 => ?_) (fun c7 => ?_)
      · have h := ite_f h c7
        refine lv_lconst (v := 0) hx hb dX8_keeps_34 (by decide) ?_
        refine lv_lstore_n (lv' := [(3, .long 0), (0, .ref (g.2.1 0)), (1, .int x1), (2, .int x2)]) hx hb dX8_keeps_35 rfl hl (by decide) rfl (fun ls hl => ?_)
        refine lv_iload_n hx hb dX8_keeps_36 rfl (lv_at hl 2 rfl) ?_
        refine lv_iconst (v := 3) hx hb dX8_keeps_37 (by decide) ?_
        refine lv_icmp_ge (tgt := 50) hx hb dX8_keeps_38 (by decide) (fun c8 => ?_) (fun c8 => ?_)
        · have h := ite_t h c8
          refine lv_iload_n hx hb dX8_keeps_50 rfl (lv_at hl 2 rfl) ?_
          refine lv_iconst (v := 3) hx hb dX8_keeps_51 (by decide) ?_
          refine lv_icmp_ne (tgt := 82) hx hb dX8_keeps_52 (by decide) (fun c9 => ?_) (fun c9 => ?_)
          · have h := ite_f h c9
            refine lv_aload_n hx hb dX8_keeps_82 rfl (lv_at hl 1 rfl) ?_
            obtain ⟨st11, hc10, h⟩ := bnd1_s h
            refine k_cV Y (k_runV (As := []) (rest := []) (o := 0) X Y cl_8_145 (c_X8_layPlan l hc10 _) ⟨rfl, rfl, Nat.le_of_ble_eq_true rfl, Nat.le_of_ble_eq_true rfl⟩ (Nat.le_of_ble_eq_true rfl) rfl rfl hl.1 rfl (Nat.le_of_ble_eq_true rfl) dX8_keeps_83 ⟨Nat.zero_le _, Nat.zero_le _⟩) (fun H locs Y => ?_)
            refine lv_aload_n hx hb dX8_keeps_86 rfl (lv_at hl 1 rfl) ?_
            obtain ⟨st13, hc12, h⟩ := bnd1_s h
            refine k_cV Y (k_runV (As := []) (rest := []) (o := 0) X Y cl_8_172 (c_X8_meet l hc12 _) ⟨rfl, rfl, Nat.le_of_ble_eq_true rfl, Nat.le_of_ble_eq_true rfl⟩ (Nat.le_of_ble_eq_true rfl) rfl rfl hl.1 rfl (Nat.le_of_ble_eq_true rfl) dX8_keeps_87 ⟨Nat.zero_le _, Nat.zero_le _⟩) (fun H locs Y => ?_)
            refine lv_aload_n hx hb dX8_keeps_90 rfl (lv_at hl 1 rfl) ?_
            refine k_get (v := .ref (g.2.1 7)) X Y fl_8_28 0 (Nat.le_of_ble_eq_true rfl) rfl rfl dX8_keeps_91 ?_
            refine lv_aload_n hx hb dX8_keeps_94 rfl (lv_at hl 1 rfl) ?_
            refine k_get (v := .int (st13.1 0 0)) X Y fl_8_75 0 (Nat.le_of_ble_eq_true rfl) rfl rfl dX8_keeps_95 ?_
            obtain ⟨i14, h⟩ := cix_s h
            refine k_lald X Y 7 (Nat.le_of_ble_eq_true rfl) (fun _ _ => rfl) i14 dX8_keeps_98 ?_
            obtain ⟨v15, ev15, h⟩ := nm_s h
            refine k_nmJ ev15 ?_
            refine lv_lstore_n (lv' := [(3, .long v15), (0, .ref (g.2.1 0)), (1, .int x1), (2, .int x2)]) hx hb dX8_keeps_99 rfl hl (by decide) rfl (fun ls hl => ?_)
            exact w_X8_keeps_100 X  h Y  (lv_sub hl [1, 3, 0] rfl)
          · have h := ite_t h c9
            refine lv_aload_n hx hb dX8_keeps_55 rfl (lv_at hl 1 rfl) ?_
            obtain ⟨st17, hc16, h⟩ := bnd1_s h
            refine k_cV Y (k_runV (As := []) (rest := []) (o := 0) X Y cl_8_158 (c_X8_findBest l hc16 _) ⟨rfl, rfl, Nat.le_of_ble_eq_true rfl, Nat.le_of_ble_eq_true rfl⟩ (Nat.le_of_ble_eq_true rfl) rfl rfl hl.1 rfl (Nat.le_of_ble_eq_true rfl) dX8_keeps_56 ⟨Nat.zero_le _, Nat.zero_le _⟩) (fun H locs Y => ?_)
            refine lv_aload_n hx hb dX8_keeps_59 rfl (lv_at hl 1 rfl) ?_
            refine k_get (v := .ref (g.2.1 8)) X Y fl_8_32 0 (Nat.le_of_ble_eq_true rfl) rfl rfl dX8_keeps_60 ?_
            refine lv_aload_n hx hb dX8_keeps_63 rfl (lv_at hl 1 rfl) ?_
            refine k_get (v := .int (st17.1 0 0)) X Y fl_8_75 0 (Nat.le_of_ble_eq_true rfl) rfl rfl dX8_keeps_64 ?_
            obtain ⟨i18, h⟩ := cix_s h
            refine k_lald X Y 8 (Nat.le_of_ble_eq_true rfl) (fun _ _ => rfl) i18 dX8_keeps_67 ?_
            obtain ⟨v19, ev19, h⟩ := nm_s h
            refine k_nmJ ev19 ?_
            refine lv_lstore (lv' := [(5, .long v19), (3, .long 0), (0, .ref (g.2.1 0)), (1, .int x1), (2, .int x2)]) hx hb dX8_keeps_68 hl (by decide) rfl (fun ls hl => ?_)
            refine lv_lload hx hb dX8_keeps_70 (lv_at hl 0 rfl) ?_
            refine lv_aload_n hx hb dX8_keeps_72 rfl (lv_at hl 2 rfl) ?_
            refine lv_iconst (v := 0) hx hb dX8_keeps_73 (by decide) ?_
            obtain ⟨v22, st21, hc20, h⟩ := bnd2_s h
            refine k_cJ Y (k_runV (As := [.int 0]) (rest := [.long v19]) (o := 0) X Y cl_8_178 (c_X8_findKept l hc20 _) ⟨rfl, rfl, Nat.le_of_ble_eq_true rfl, Nat.le_of_ble_eq_true rfl⟩ (Nat.le_of_ble_eq_true rfl) rfl rfl hl.1 rfl (Nat.le_of_ble_eq_true rfl) dX8_keeps_74 ⟨Nat.zero_le _, Nat.zero_le _⟩) (fun H locs Y => ?_)
            refine lv_lsub hx hb dX8_keeps_77 ?_
            obtain ⟨v23, ev23, h⟩ := nm_s h
            refine k_nmJ ev23 ?_
            refine lv_lstore_n (lv' := [(3, .long v23), (5, .long v19), (0, .ref (g.2.1 0)), (1, .int x1), (2, .int x2)]) hx hb dX8_keeps_78 rfl hl (by decide) rfl (fun ls hl => ?_)
            refine lv_goto (tgt := 100) hx hb dX8_keeps_79 (by decide) ?_
            exact w_X8_keeps_100 X  h Y  (lv_sub hl [2, 4, 0] rfl)
        · have h := ite_f h c8
          refine lv_aload_n hx hb dX8_keeps_41 rfl (lv_at hl 1 rfl) ?_
          refine lv_iload_n hx hb dX8_keeps_42 rfl (lv_at hl 2 rfl) ?_
          obtain ⟨v26, st25, hc24, h⟩ := bnd2_s h
          refine k_cJ Y (k_runV (As := [.int x1]) (rest := []) (o := 0) X Y cl_8_178 (c_X8_findKept l hc24 _) ⟨rfl, rfl, Nat.le_of_ble_eq_true rfl, Nat.le_of_ble_eq_true rfl⟩ (Nat.le_of_ble_eq_true rfl) rfl rfl hl.1 rfl (Nat.le_of_ble_eq_true rfl) dX8_keeps_43 ⟨Nat.zero_le _, Nat.zero_le _⟩) (fun H locs Y => ?_)
          refine lv_lstore_n (lv' := [(3, .long v26), (0, .ref (g.2.1 0)), (1, .int x1), (2, .int x2)]) hx hb dX8_keeps_46 rfl hl (by decide) rfl (fun ls hl => ?_)
          refine lv_goto (tgt := 100) hx hb dX8_keeps_47 (by decide) ?_
          exact w_X8_keeps_100 X  h Y  (lv_sub hl [1, 3, 0] rfl)
      · have h := ite_t h c7
        refine k_ldc2 X lg_8_143 dX8_keeps_30 ?_
        exact k_lretW X Y h dX8_keeps_33
    · have h := ite_t h c6
      exact w_X8_keeps_19 X  h Y  (lv_sub hl [] rfl)
theorem c_X8_keeps (l : Launch) {g : Gx} {x1 : Int32} {x2 : Int32} {st : Sg} {r9 : Int64} {st9 : Sg} (h : X8_keeps x1 x2 st = some (r9, st9)) : MetJ l yX8_keeps cX8_keeps 7 (some .long) rm_X8_keeps g nwM (ceM g) [.ref (g.2.1 0), .int x1, .int x2] st r9 st9 :=
  met_of (Qc := fun A => QJ g nwM (ceM g) A r9 st9) (by decide) (Nat.le_of_ble_eq_true rfl) (fun p e s m below meth c A ls X Y hl => w_X8_keeps X h Y hl)
def X8_kept_28    (st : Sg) : Option (Int32 × Sg) :=
  some ((-2), st)
def X8_kept   (x1 : Int32) (x2 : Int32) (st : Sg) : Option (Int32 × Sg) :=
  bnd1 (X8_in (x1.toInt64) 0 2) fun v2 =>
  if v2 = (0 : Int32) then
    X8_kept_28 st
  else
    bnd1 (X8_in (x2.toInt64) 0 (((st.1 0 1) - 1).toInt64)) fun v5 =>
    if v5 = (0 : Int32) then
      X8_kept_28 st
    else
      if (st.1 0 4) = (0 : Int32) then
        some ((-3), st)
      else
        bnd2 (X8_findKept x1 st) fun v10 st9 =>
        cix x2 6 <|
        some (st9.1 13 x2.toNatClampNeg, st9)
abbrev rm_X8_kept : Room := { frames := 4, cells := 0, slots := 0, locals := 100 }
set_option maxHeartbeats 4000000 in
set_option maxRecDepth 100000 in
theorem w_X8_kept_28 (X : Cx g p s m args meth c cX8_kept 3 RX8 (some .int))  {st : Sg} {r9 : Int32} {st9 : Sg}  (h : X8_kept_28 st = some (r9, st9)) (Y : Hp g nwM (ceM g) A s.heap st H locs)  (hl : lv_has ls 3 []) : W p l e rm_X8_kept s m args below meth c H locs 0 0 (MQ below (QI g nwM (ceM g) A r9 st9) args s 0 0 A) (F0 m 28 ls []) := by
  have hx := X.1
  have hb := X.2.1
  unfold X8_kept_28 at h
  refine lv_bipush (v := (-2)) hx hb dX8_kept_28 (by decide) ?_
  exact k_iretW X Y h dX8_kept_30
set_option maxHeartbeats 4000000 in
set_option maxRecDepth 100000 in
theorem w_X8_kept (X : Cx g p s m args meth c cX8_kept 3 RX8 (some .int)) {x1 : Int32} {x2 : Int32} {st : Sg} {r9 : Int32} {st9 : Sg}  (h : X8_kept x1 x2 st = some (r9, st9)) (Y : Hp g nwM (ceM g) A s.heap st H locs)  (hl : lv_has ls 3 [(0, .ref (g.2.1 0)), (1, .int x1), (2, .int x2)]) : W p l e rm_X8_kept s m args below meth c H locs 0 0 (MQ below (QI g nwM (ceM g) A r9 st9) args s 0 0 A) (F0 m 0 ls []) := by
  have hx := X.1
  have hb := X.2.1
  unfold X8_kept at h
  refine lv_iload_n hx hb dX8_kept_0 rfl (lv_at hl 1 rfl) ?_
  refine lv_i2l hx hb dX8_kept_1 rfl ?_
  refine lv_lconst (v := 0) hx hb dX8_kept_2 (by decide) ?_
  refine k_ldc2 X lg_8_81 dX8_kept_3 ?_
  obtain ⟨v2, hc1, h⟩ := bnd1_s h
  refine k_cI Y (k_runS (As := [.long (x1.toInt64), .long 0, .long 2]) (rest := []) X Y cl_8_83 (c_X8_in l hc1 _) ⟨rfl, rfl, Nat.le_of_ble_eq_true rfl, Nat.le_of_ble_eq_true rfl⟩ rfl hl.1 rfl (Nat.le_of_ble_eq_true rfl) dX8_kept_6 ⟨Nat.zero_le _, Nat.zero_le _⟩) (fun H locs Y => ?_)
  refine lv_if_eq (tgt := 28) hx hb dX8_kept_9 (by decide) (fun c3 => ?_) (fun c3 => ?_)
  · have h := ite_t h c3
    exact w_X8_kept_28 X  h Y  (lv_sub hl [] rfl)
  · have h := ite_f h c3
    refine lv_iload_n hx hb dX8_kept_12 rfl (lv_at hl 2 rfl) ?_
    refine lv_i2l hx hb dX8_kept_13 rfl ?_
    refine lv_lconst (v := 0) hx hb dX8_kept_14 (by decide) ?_
    refine lv_aload_n hx hb dX8_kept_15 rfl (lv_at hl 0 rfl) ?_
    refine k_get (v := .int (st.1 0 1)) X Y fl_8_78 0 (Nat.le_of_ble_eq_true rfl) rfl rfl dX8_kept_16 ?_
    refine lv_iconst (v := 1) hx hb dX8_kept_19 (by decide) ?_
    refine lv_isub hx hb dX8_kept_20 ?_
    refine lv_i2l hx hb dX8_kept_21 rfl ?_
    obtain ⟨v5, hc4, h⟩ := bnd1_s h
    refine k_cI Y (k_runS (As := [.long (x2.toInt64), .long 0, .long (((st.1 0 1) - 1).toInt64)]) (rest := []) X Y cl_8_83 (c_X8_in l hc4 _) ⟨rfl, rfl, Nat.le_of_ble_eq_true rfl, Nat.le_of_ble_eq_true rfl⟩ rfl hl.1 rfl (Nat.le_of_ble_eq_true rfl) dX8_kept_22 ⟨Nat.zero_le _, Nat.zero_le _⟩) (fun H locs Y => ?_)
    refine lv_if_ne (tgt := 31) hx hb dX8_kept_25 (by decide) (fun c6 => ?_) (fun c6 => ?_)
    · have h := ite_f h c6
      refine lv_aload_n hx hb dX8_kept_31 rfl (lv_at hl 0 rfl) ?_
      refine k_get (v := .int (st.1 0 4)) X Y fl_8_96 0 (Nat.le_of_ble_eq_true rfl) rfl rfl dX8_kept_32 ?_
      refine lv_if_ne (tgt := 41) hx hb dX8_kept_35 (by decide) (fun c7 => ?_) (fun c7 => ?_)
      · have h := ite_f h c7
        refine lv_aload_n hx hb dX8_kept_41 rfl (lv_at hl 0 rfl) ?_
        refine lv_iload_n hx hb dX8_kept_42 rfl (lv_at hl 1 rfl) ?_
        obtain ⟨v10, st9, hc8, h⟩ := bnd2_s h
        refine k_cJ Y (k_runV (As := [.int x1]) (rest := []) (o := 0) X Y cl_8_178 (c_X8_findKept l hc8 _) ⟨rfl, rfl, Nat.le_of_ble_eq_true rfl, Nat.le_of_ble_eq_true rfl⟩ (Nat.le_of_ble_eq_true rfl) rfl rfl hl.1 rfl (Nat.le_of_ble_eq_true rfl) dX8_kept_43 ⟨Nat.zero_le _, Nat.zero_le _⟩) (fun H locs Y => ?_)
        refine lv_pop2_2 hx hb dX8_kept_46 rfl ?_
        refine lv_aload_n hx hb dX8_kept_47 rfl (lv_at hl 0 rfl) ?_
        refine k_get (v := .ref (g.2.1 13)) X Y fl_8_47 0 (Nat.le_of_ble_eq_true rfl) rfl rfl dX8_kept_48 ?_
        refine lv_iload_n hx hb dX8_kept_51 rfl (lv_at hl 2 rfl) ?_
        obtain ⟨i11, h⟩ := cix_s h
        refine k_iald X Y 13 (Nat.le_of_ble_eq_true rfl) (fun _ _ => rfl) i11 dX8_kept_52 ?_
        exact k_iretW X Y h dX8_kept_53
      · have h := ite_t h c7
        refine lv_bipush (v := (-3)) hx hb dX8_kept_38 (by decide) ?_
        exact k_iretW X Y h dX8_kept_40
    · have h := ite_t h c6
      exact w_X8_kept_28 X  h Y  (lv_sub hl [] rfl)
theorem c_X8_kept (l : Launch) {g : Gx} {x1 : Int32} {x2 : Int32} {st : Sg} {r9 : Int32} {st9 : Sg} (h : X8_kept x1 x2 st = some (r9, st9)) : MetI l yX8_kept cX8_kept 3 (some .int) rm_X8_kept g nwM (ceM g) [.ref (g.2.1 0), .int x1, .int x2] st r9 st9 :=
  met_of (Qc := fun A => QI g nwM (ceM g) A r9 st9) (by decide) (Nat.le_of_ble_eq_true rfl) (fun p e s m below meth c A ls X Y hl => w_X8_kept X h Y hl)
def X8_left_21    (st : Sg) : Option (Int64 × Sg) :=
  some ((-1000000000000000002), st)
def X8_left   (x1 : Int32) (x2 : Int32) (st : Sg) : Option (Int64 × Sg) :=
  bnd1 (X8_in (x1.toInt64) 0 ((st.1 0 0).toInt64)) fun v2 =>
  if v2 = (0 : Int32) then
    X8_left_21 st
  else
    bnd1 (X8_isPart x2) fun v5 =>
    if v5 = (0 : Int32) then
      X8_left_21 st
    else
      if (st.1 0 4) = (0 : Int32) then
        some ((-1000000000000000003), st)
      else
        bnd1 (X8_layPlan st) fun st9 =>
        bnd1 (X8_findOdds (st9.1 0 1) st9) fun st11 =>
        cix x1 13 <|
        bnd1 (X8_lowest (st11.2 12 x1.toNatClampNeg) (st11.2 0 12) x2) fun v14 =>
        some (v14, st11)
abbrev rm_X8_left : Room := { frames := 2, cells := 0, slots := 0, locals := 50 }
set_option maxHeartbeats 4000000 in
set_option maxRecDepth 100000 in
theorem w_X8_left_21 (X : Cx g p s m args meth c cX8_left 3 RX8 (some .long))  {st : Sg} {r9 : Int64} {st9 : Sg}  (h : X8_left_21 st = some (r9, st9)) (Y : Hp g nwM (ceM g) A s.heap st H locs)  (hl : lv_has ls 3 []) : W p l e rm_X8_left s m args below meth c H locs 0 0 (MQ below (QJ g nwM (ceM g) A r9 st9) args s 0 0 A) (F0 m 21 ls []) := by
  have hx := X.1
  have hb := X.2.1
  unfold X8_left_21 at h
  refine k_ldc2 X lg_8_141 dX8_left_21 ?_
  exact k_lretW X Y h dX8_left_24
set_option maxHeartbeats 4000000 in
set_option maxRecDepth 100000 in
theorem w_X8_left (X : Cx g p s m args meth c cX8_left 3 RX8 (some .long)) {x1 : Int32} {x2 : Int32} {st : Sg} {r9 : Int64} {st9 : Sg}  (h : X8_left x1 x2 st = some (r9, st9)) (Y : Hp g nwM (ceM g) A s.heap st H locs)  (hl : lv_has ls 3 [(0, .ref (g.2.1 0)), (1, .int x1), (2, .int x2)]) : W p l e rm_X8_left s m args below meth c H locs 0 0 (MQ below (QJ g nwM (ceM g) A r9 st9) args s 0 0 A) (F0 m 0 ls []) := by
  have hx := X.1
  have hb := X.2.1
  unfold X8_left at h
  refine lv_iload_n hx hb dX8_left_0 rfl (lv_at hl 1 rfl) ?_
  refine lv_i2l hx hb dX8_left_1 rfl ?_
  refine lv_lconst (v := 0) hx hb dX8_left_2 (by decide) ?_
  refine lv_aload_n hx hb dX8_left_3 rfl (lv_at hl 0 rfl) ?_
  refine k_get (v := .int (st.1 0 0)) X Y fl_8_75 0 (Nat.le_of_ble_eq_true rfl) rfl rfl dX8_left_4 ?_
  refine lv_i2l hx hb dX8_left_7 rfl ?_
  obtain ⟨v2, hc1, h⟩ := bnd1_s h
  refine k_cI Y (k_runS (As := [.long (x1.toInt64), .long 0, .long ((st.1 0 0).toInt64)]) (rest := []) X Y cl_8_83 (c_X8_in l hc1 _) ⟨rfl, rfl, Nat.le_of_ble_eq_true rfl, Nat.le_of_ble_eq_true rfl⟩ rfl hl.1 rfl (Nat.le_of_ble_eq_true rfl) dX8_left_8 ⟨Nat.zero_le _, Nat.zero_le _⟩) (fun H locs Y => ?_)
  refine lv_if_eq (tgt := 21) hx hb dX8_left_11 (by decide) (fun c3 => ?_) (fun c3 => ?_)
  · have h := ite_t h c3
    exact w_X8_left_21 X  h Y  (lv_sub hl [] rfl)
  · have h := ite_f h c3
    refine lv_iload_n hx hb dX8_left_14 rfl (lv_at hl 2 rfl) ?_
    obtain ⟨v5, hc4, h⟩ := bnd1_s h
    refine k_cI Y (k_runS (As := [.int x2]) (rest := []) X Y cl_8_138 (c_X8_isPart l hc4 _) ⟨rfl, rfl, Nat.le_of_ble_eq_true rfl, Nat.le_of_ble_eq_true rfl⟩ rfl hl.1 rfl (Nat.le_of_ble_eq_true rfl) dX8_left_15 ⟨Nat.zero_le _, Nat.zero_le _⟩) (fun H locs Y => ?_)
    refine lv_if_ne (tgt := 25) hx hb dX8_left_18 (by decide) (fun c6 => ?_) (fun c6 => ?_)
    · have h := ite_f h c6
      refine lv_aload_n hx hb dX8_left_25 rfl (lv_at hl 0 rfl) ?_
      refine k_get (v := .int (st.1 0 4)) X Y fl_8_96 0 (Nat.le_of_ble_eq_true rfl) rfl rfl dX8_left_26 ?_
      refine lv_if_ne (tgt := 36) hx hb dX8_left_29 (by decide) (fun c7 => ?_) (fun c7 => ?_)
      · have h := ite_f h c7
        refine lv_aload_n hx hb dX8_left_36 rfl (lv_at hl 0 rfl) ?_
        obtain ⟨st9, hc8, h⟩ := bnd1_s h
        refine k_cV Y (k_runV (As := []) (rest := []) (o := 0) X Y cl_8_145 (c_X8_layPlan l hc8 _) ⟨rfl, rfl, Nat.le_of_ble_eq_true rfl, Nat.le_of_ble_eq_true rfl⟩ (Nat.le_of_ble_eq_true rfl) rfl rfl hl.1 rfl (Nat.le_of_ble_eq_true rfl) dX8_left_37 ⟨Nat.zero_le _, Nat.zero_le _⟩) (fun H locs Y => ?_)
        refine lv_aload_n hx hb dX8_left_40 rfl (lv_at hl 0 rfl) ?_
        refine lv_aload_n hx hb dX8_left_41 rfl (lv_at hl 0 rfl) ?_
        refine k_get (v := .int (st9.1 0 1)) X Y fl_8_78 0 (Nat.le_of_ble_eq_true rfl) rfl rfl dX8_left_42 ?_
        obtain ⟨st11, hc10, h⟩ := bnd1_s h
        refine k_cV Y (k_runV (As := [.int (st9.1 0 1)]) (rest := []) (o := 0) X Y cl_8_155 (c_X8_findOdds l hc10 _) ⟨rfl, rfl, Nat.le_of_ble_eq_true rfl, Nat.le_of_ble_eq_true rfl⟩ (Nat.le_of_ble_eq_true rfl) rfl rfl hl.1 rfl (Nat.le_of_ble_eq_true rfl) dX8_left_45 ⟨Nat.zero_le _, Nat.zero_le _⟩) (fun H locs Y => ?_)
        refine lv_aload_n hx hb dX8_left_48 rfl (lv_at hl 0 rfl) ?_
        refine k_get (v := .ref (g.2.1 12)) X Y fl_8_44 0 (Nat.le_of_ble_eq_true rfl) rfl rfl dX8_left_49 ?_
        refine lv_iload_n hx hb dX8_left_52 rfl (lv_at hl 1 rfl) ?_
        obtain ⟨i12, h⟩ := cix_s h
        refine k_lald X Y 12 (Nat.le_of_ble_eq_true rfl) (fun _ _ => rfl) i12 dX8_left_53 ?_
        refine lv_aload_n hx hb dX8_left_54 rfl (lv_at hl 0 rfl) ?_
        refine k_get (v := .long (st11.2 0 12)) X Y fl_8_120 0 (Nat.le_of_ble_eq_true rfl) rfl rfl dX8_left_55 ?_
        refine lv_iload_n hx hb dX8_left_58 rfl (lv_at hl 2 rfl) ?_
        obtain ⟨v14, hc13, h⟩ := bnd1_s h
        refine k_cJ Y (k_runS (As := [.long (st11.2 12 x1.toNatClampNeg), .long (st11.2 0 12), .int x2]) (rest := []) X Y cl_8_151 (c_X8_lowest l hc13 _) ⟨rfl, rfl, Nat.le_of_ble_eq_true rfl, Nat.le_of_ble_eq_true rfl⟩ rfl hl.1 rfl (Nat.le_of_ble_eq_true rfl) dX8_left_59 ⟨Nat.zero_le _, Nat.zero_le _⟩) (fun H locs Y => ?_)
        exact k_lretW X Y h dX8_left_62
      · have h := ite_t h c7
        refine k_ldc2 X lg_8_143 dX8_left_32 ?_
        exact k_lretW X Y h dX8_left_35
    · have h := ite_t h c6
      exact w_X8_left_21 X  h Y  (lv_sub hl [] rfl)
theorem c_X8_left (l : Launch) {g : Gx} {x1 : Int32} {x2 : Int32} {st : Sg} {r9 : Int64} {st9 : Sg} (h : X8_left x1 x2 st = some (r9, st9)) : MetJ l yX8_left cX8_left 3 (some .long) rm_X8_left g nwM (ceM g) [.ref (g.2.1 0), .int x1, .int x2] st r9 st9 :=
  met_of (Qc := fun A => QJ g nwM (ceM g) A r9 st9) (by decide) (Nat.le_of_ble_eq_true rfl) (fun p e s m below meth c A ls X Y hl => w_X8_left X h Y hl)
def X8_made_96  (rc48 : Int32 → Int32 → Sg → Option (Int32 × Sg)) (k0 : Int32) (x1 : Int32) (x2 : Int64) (x5 : Int32) (st : Sg) : Option (Int32 × Sg) :=
  nm (x5 + 1) fun v1 =>
  rc48 k0 v1 st
def X8_made_104   (x4 : Int32) (st : Sg) : Option (Int32 × Sg) :=
  some (x4, st)
def X8_made_48b  (rc48 : Int32 → Int32 → Sg → Option (Int32 × Sg)) (x1 : Int32) (x2 : Int64) (x4 : Int32) (x5 : Int32) (st : Sg) : Option (Int32 × Sg) :=
  if (12 : Int32) < x5 then
    X8_made_104 x4 st
  else
    cix x5 91 <|
    cix x4 91 <|
    if (lg_cmp ((st.2 8 x5.toNatClampNeg) - (((x1 * x5).toInt64) * x2)) ((st.2 8 x4.toNatClampNeg) - (((x1 * x4).toInt64) * x2))) ≤ (0 : Int32) then
      X8_made_96 rc48 x4 x1 x2 x5 st
    else
      X8_made_96 rc48 x5 x1 x2 x5 st
def X8_made_48   (x1 : Int32) (x2 : Int64) : Nat → Int32 → Int32 → Sg → Option (Int32 × Sg)
  | 0, _, _, _ => none
  | k + 1, x4, x5, st => X8_made_48b   (X8_made_48 x1 x2 k) x1 x2 x4 x5 st
def X8_made   (x1 : Int32) (st : Sg) : Option (Int32 × Sg) :=
  bnd1 (X8_in (x1.toInt64) 0 99) fun v2 =>
  if v2 = (0 : Int32) then
    some ((-2), st)
  else
    if (st.1 0 4) = (0 : Int32) then
      some ((-3), st)
    else
      bnd1 (X8_findBest st) fun st6 =>
      bnd1 (X8_power ((st6.1 0 9) * (st6.1 0 1))) fun v8 =>
      X8_made_48 x1 v8 FU 0 1 st6
abbrev rm_X8_made : Room := { frames := 3, cells := 0, slots := 0, locals := 72 }
set_option maxHeartbeats 4000000 in
set_option maxRecDepth 100000 in
theorem w_X8_made_96 (X : Cx g p s m args meth c cX8_made 6 RX8 (some .int)) {k0 : Int32} {x1 : Int32} {x2 : Int64} {x5 : Int32} {st : Sg} {r9 : Int32} {st9 : Sg} (rc48 : Int32 → Int32 → Sg → Option (Int32 × Sg)) (hrc48 : ∀ (x4 : Int32) (x5 : Int32) (st : Sg) (ls : Array Slot) (H : Heap) (locs : List Loc), rc48 x4 x5 st = some (r9, st9) → Hp g nwM (ceM g) A s.heap st H locs → lv_has ls 6 [(0, .ref (g.2.1 0)), (1, .int x1), (2, .long x2), (4, .int x4), (5, .int x5)] → W p l e rm_X8_made s m args below meth c H locs 0 0 (MQ below (QI g nwM (ceM g) A r9 st9) args s 0 0 A) (F0 m 48 ls [])) (h : X8_made_96 rc48 k0 x1 x2 x5 st = some (r9, st9)) (Y : Hp g nwM (ceM g) A s.heap st H locs)  (hl : lv_has ls 6 [(0, .ref (g.2.1 0)), (1, .int x1), (2, .long x2), (5, .int x5)]) : W p l e rm_X8_made s m args below meth c H locs 0 0 (MQ below (QI g nwM (ceM g) A r9 st9) args s 0 0 A) (F0 m 96 ls [.int k0]) := by
  have hx := X.1
  have hb := X.2.1
  unfold X8_made_96 at h
  refine lv_istore (lv' := [(4, .int k0), (0, .ref (g.2.1 0)), (1, .int x1), (2, .long x2), (5, .int x5)]) hx hb dX8_made_96 hl (by decide) rfl (fun ls hl => ?_)
  obtain ⟨v1, ev1, h⟩ := nm_s h
  refine lv_iinc (v := v1) (lv' := [(5, .int v1), (4, .int k0), (0, .ref (g.2.1 0)), (1, .int x1), (2, .long x2)]) hx hb dX8_made_98 hl (k := 4) rfl (by rw [ev1]; rfl) (by decide) rfl (fun ls hl => ?_)
  refine lv_goto (tgt := 48) hx hb dX8_made_101 (by decide) ?_
  exact hrc48 k0 v1 st _ _ _ h Y (lv_sub hl [2, 3, 4, 1, 0] rfl)
set_option maxHeartbeats 4000000 in
set_option maxRecDepth 100000 in
theorem w_X8_made_104 (X : Cx g p s m args meth c cX8_made 6 RX8 (some .int)) {x4 : Int32} {st : Sg} {r9 : Int32} {st9 : Sg}  (h : X8_made_104 x4 st = some (r9, st9)) (Y : Hp g nwM (ceM g) A s.heap st H locs)  (hl : lv_has ls 6 [(4, .int x4)]) : W p l e rm_X8_made s m args below meth c H locs 0 0 (MQ below (QI g nwM (ceM g) A r9 st9) args s 0 0 A) (F0 m 104 ls []) := by
  have hx := X.1
  have hb := X.2.1
  unfold X8_made_104 at h
  refine lv_iload hx hb dX8_made_104 (lv_at hl 0 rfl) ?_
  exact k_iretW X Y h dX8_made_106
set_option maxHeartbeats 4000000 in
set_option maxRecDepth 100000 in
theorem w_X8_made_48b (X : Cx g p s m args meth c cX8_made 6 RX8 (some .int)) {x1 : Int32} {x2 : Int64} {x4 : Int32} {x5 : Int32} {st : Sg} {r9 : Int32} {st9 : Sg} (rc48 : Int32 → Int32 → Sg → Option (Int32 × Sg)) (hrc48 : ∀ (x4 : Int32) (x5 : Int32) (st : Sg) (ls : Array Slot) (H : Heap) (locs : List Loc), rc48 x4 x5 st = some (r9, st9) → Hp g nwM (ceM g) A s.heap st H locs → lv_has ls 6 [(0, .ref (g.2.1 0)), (1, .int x1), (2, .long x2), (4, .int x4), (5, .int x5)] → W p l e rm_X8_made s m args below meth c H locs 0 0 (MQ below (QI g nwM (ceM g) A r9 st9) args s 0 0 A) (F0 m 48 ls [])) (h : X8_made_48b rc48 x1 x2 x4 x5 st = some (r9, st9)) (Y : Hp g nwM (ceM g) A s.heap st H locs)  (hl : lv_has ls 6 [(0, .ref (g.2.1 0)), (1, .int x1), (2, .long x2), (4, .int x4), (5, .int x5)]) : W p l e rm_X8_made s m args below meth c H locs 0 0 (MQ below (QI g nwM (ceM g) A r9 st9) args s 0 0 A) (F0 m 48 ls []) := by
  have hx := X.1
  have hb := X.2.1
  unfold X8_made_48b at h
  refine lv_iload hx hb dX8_made_48 (lv_at hl 4 rfl) ?_
  refine lv_bipush (v := 12) hx hb dX8_made_50 (by decide) ?_
  refine lv_icmp_gt (tgt := 104) hx hb dX8_made_52 (by decide) (fun c1 => ?_) (fun c1 => ?_)
  · have h := ite_t h c1
    exact w_X8_made_104 X  h Y  (lv_sub hl [3] rfl)
  · have h := ite_f h c1
    refine lv_aload_n hx hb dX8_made_55 rfl (lv_at hl 0 rfl) ?_
    refine k_get (v := .ref (g.2.1 8)) X Y fl_8_32 0 (Nat.le_of_ble_eq_true rfl) rfl rfl dX8_made_56 ?_
    refine lv_iload hx hb dX8_made_59 (lv_at hl 4 rfl) ?_
    obtain ⟨i2, h⟩ := cix_s h
    refine k_lald X Y 8 (Nat.le_of_ble_eq_true rfl) (fun _ _ => rfl) i2 dX8_made_61 ?_
    refine lv_iload_n hx hb dX8_made_62 rfl (lv_at hl 1 rfl) ?_
    refine lv_iload hx hb dX8_made_63 (lv_at hl 4 rfl) ?_
    refine lv_imul hx hb dX8_made_65 ?_
    refine lv_i2l hx hb dX8_made_66 rfl ?_
    refine lv_lload_n hx hb dX8_made_67 rfl (lv_at hl 2 rfl) ?_
    refine lv_lmul hx hb dX8_made_68 ?_
    refine lv_lsub hx hb dX8_made_69 ?_
    refine lv_aload_n hx hb dX8_made_70 rfl (lv_at hl 0 rfl) ?_
    refine k_get (v := .ref (g.2.1 8)) X Y fl_8_32 0 (Nat.le_of_ble_eq_true rfl) rfl rfl dX8_made_71 ?_
    refine lv_iload hx hb dX8_made_74 (lv_at hl 3 rfl) ?_
    obtain ⟨i3, h⟩ := cix_s h
    refine k_lald X Y 8 (Nat.le_of_ble_eq_true rfl) (fun _ _ => rfl) i3 dX8_made_76 ?_
    refine lv_iload_n hx hb dX8_made_77 rfl (lv_at hl 1 rfl) ?_
    refine lv_iload hx hb dX8_made_78 (lv_at hl 3 rfl) ?_
    refine lv_imul hx hb dX8_made_80 ?_
    refine lv_i2l hx hb dX8_made_81 rfl ?_
    refine lv_lload_n hx hb dX8_made_82 rfl (lv_at hl 2 rfl) ?_
    refine lv_lmul hx hb dX8_made_83 ?_
    refine lv_lsub hx hb dX8_made_84 ?_
    refine W.lcmp hx hb dX8_made_85 ?_
    refine lv_if_le (tgt := 94) hx hb dX8_made_86 (by decide) (fun c4 => ?_) (fun c4 => ?_)
    · have h := ite_t h c4
      refine lv_iload hx hb dX8_made_94 (lv_at hl 3 rfl) ?_
      exact w_X8_made_96 X rc48 hrc48 h Y  (lv_sub hl [0, 1, 2, 4] rfl)
    · have h := ite_f h c4
      refine lv_iload hx hb dX8_made_89 (lv_at hl 4 rfl) ?_
      refine lv_goto (tgt := 96) hx hb dX8_made_91 (by decide) ?_
      exact w_X8_made_96 X rc48 hrc48 h Y  (lv_sub hl [0, 1, 2, 4] rfl)
theorem w_X8_made_48 (X : Cx g p s m args meth c cX8_made 6 RX8 (some .int)) {x1 : Int32} {x2 : Int64}  {r9 : Int32} {st9 : Sg}   : ∀ (k : Nat) (x4 : Int32) (x5 : Int32) (st : Sg) (ls : Array Slot) (H : Heap) (locs : List Loc), X8_made_48 x1 x2 k x4 x5 st = some (r9, st9) → Hp g nwM (ceM g) A s.heap st H locs → lv_has ls 6 [(0, .ref (g.2.1 0)), (1, .int x1), (2, .long x2), (4, .int x4), (5, .int x5)] → W p l e rm_X8_made s m args below meth c H locs 0 0 (MQ below (QI g nwM (ceM g) A r9 st9) args s 0 0 A) (F0 m 48 ls []) := by
  intro k
  induction k with
  | zero =>
    intro x4 x5 st ls H locs h
    exact none_s h
  | succ k ih =>
    intro x4 x5 st ls H locs h Y hl
    exact w_X8_made_48b X  (X8_made_48 x1 x2 k) ih h Y  hl
set_option maxHeartbeats 4000000 in
set_option maxRecDepth 100000 in
theorem w_X8_made (X : Cx g p s m args meth c cX8_made 6 RX8 (some .int)) {x1 : Int32} {st : Sg} {r9 : Int32} {st9 : Sg}  (h : X8_made x1 st = some (r9, st9)) (Y : Hp g nwM (ceM g) A s.heap st H locs)  (hl : lv_has ls 6 [(0, .ref (g.2.1 0)), (1, .int x1)]) : W p l e rm_X8_made s m args below meth c H locs 0 0 (MQ below (QI g nwM (ceM g) A r9 st9) args s 0 0 A) (F0 m 0 ls []) := by
  have hx := X.1
  have hb := X.2.1
  unfold X8_made at h
  refine lv_iload_n hx hb dX8_made_0 rfl (lv_at hl 1 rfl) ?_
  refine lv_i2l hx hb dX8_made_1 rfl ?_
  refine lv_lconst (v := 0) hx hb dX8_made_2 (by decide) ?_
  refine k_ldc2 X lg_8_91 dX8_made_3 ?_
  obtain ⟨v2, hc1, h⟩ := bnd1_s h
  refine k_cI Y (k_runS (As := [.long (x1.toInt64), .long 0, .long 99]) (rest := []) X Y cl_8_83 (c_X8_in l hc1 _) ⟨rfl, rfl, Nat.le_of_ble_eq_true rfl, Nat.le_of_ble_eq_true rfl⟩ rfl hl.1 rfl (Nat.le_of_ble_eq_true rfl) dX8_made_6 ⟨Nat.zero_le _, Nat.zero_le _⟩) (fun H locs Y => ?_)
  refine lv_if_ne (tgt := 15) hx hb dX8_made_9 (by decide) (fun c3 => ?_) (fun c3 => ?_)
  · have h := ite_f h c3
    refine lv_aload_n hx hb dX8_made_15 rfl (lv_at hl 0 rfl) ?_
    refine k_get (v := .int (st.1 0 4)) X Y fl_8_96 0 (Nat.le_of_ble_eq_true rfl) rfl rfl dX8_made_16 ?_
    refine lv_if_ne (tgt := 25) hx hb dX8_made_19 (by decide) (fun c4 => ?_) (fun c4 => ?_)
    · have h := ite_f h c4
      refine lv_aload_n hx hb dX8_made_25 rfl (lv_at hl 0 rfl) ?_
      obtain ⟨st6, hc5, h⟩ := bnd1_s h
      refine k_cV Y (k_runV (As := []) (rest := []) (o := 0) X Y cl_8_158 (c_X8_findBest l hc5 _) ⟨rfl, rfl, Nat.le_of_ble_eq_true rfl, Nat.le_of_ble_eq_true rfl⟩ (Nat.le_of_ble_eq_true rfl) rfl rfl hl.1 rfl (Nat.le_of_ble_eq_true rfl) dX8_made_26 ⟨Nat.zero_le _, Nat.zero_le _⟩) (fun H locs Y => ?_)
      refine lv_aload_n hx hb dX8_made_29 rfl (lv_at hl 0 rfl) ?_
      refine k_get (v := .int (st6.1 0 9)) X Y fl_8_103 0 (Nat.le_of_ble_eq_true rfl) rfl rfl dX8_made_30 ?_
      refine lv_aload_n hx hb dX8_made_33 rfl (lv_at hl 0 rfl) ?_
      refine k_get (v := .int (st6.1 0 1)) X Y fl_8_78 0 (Nat.le_of_ble_eq_true rfl) rfl rfl dX8_made_34 ?_
      refine lv_imul hx hb dX8_made_37 ?_
      obtain ⟨v8, hc7, h⟩ := bnd1_s h
      refine k_cJ Y (k_runS (As := [.int ((st6.1 0 9) * (st6.1 0 1))]) (rest := []) X Y cl_8_161 (c_X8_power l hc7 _) ⟨rfl, rfl, Nat.le_of_ble_eq_true rfl, Nat.le_of_ble_eq_true rfl⟩ rfl hl.1 rfl (Nat.le_of_ble_eq_true rfl) dX8_made_38 ⟨Nat.zero_le _, Nat.zero_le _⟩) (fun H locs Y => ?_)
      refine lv_lstore_n (lv' := [(2, .long v8), (0, .ref (g.2.1 0)), (1, .int x1)]) hx hb dX8_made_41 rfl hl (by decide) rfl (fun ls hl => ?_)
      refine lv_iconst (v := 0) hx hb dX8_made_42 (by decide) ?_
      refine lv_istore (lv' := [(4, .int 0), (2, .long v8), (0, .ref (g.2.1 0)), (1, .int x1)]) hx hb dX8_made_43 hl (by decide) rfl (fun ls hl => ?_)
      refine lv_iconst (v := 1) hx hb dX8_made_45 (by decide) ?_
      refine lv_istore (lv' := [(5, .int 1), (4, .int 0), (2, .long v8), (0, .ref (g.2.1 0)), (1, .int x1)]) hx hb dX8_made_46 hl (by decide) rfl (fun ls hl => ?_)
      exact w_X8_made_48 X   FU 0 1 st6 _ _ _ h Y (lv_sub hl [3, 4, 2, 1, 0] rfl)
    · have h := ite_t h c4
      refine lv_bipush (v := (-3)) hx hb dX8_made_22 (by decide) ?_
      exact k_iretW X Y h dX8_made_24
  · have h := ite_t h c3
    refine lv_bipush (v := (-2)) hx hb dX8_made_12 (by decide) ?_
    exact k_iretW X Y h dX8_made_14
theorem c_X8_made (l : Launch) {g : Gx} {x1 : Int32} {st : Sg} {r9 : Int32} {st9 : Sg} (h : X8_made x1 st = some (r9, st9)) : MetI l yX8_made cX8_made 6 (some .int) rm_X8_made g nwM (ceM g) [.ref (g.2.1 0), .int x1] st r9 st9 :=
  met_of (Qc := fun A => QI g nwM (ceM g) A r9 st9) (by decide) (Nat.le_of_ble_eq_true rfl) (fun p e s m below meth c A ls X Y hl => w_X8_made X h Y hl)
def X8_picks   (x1 : Int32) (x2 : Int32) (st : Sg) : Option (Int32 × Sg) :=
  bnd1 (X8_isSort x1 st) fun v2 =>
  if v2 = (0 : Int32) then
    some ((-1), st)
  else
    bnd1 (X8_in (x2.toInt64) 0 (((st.1 0 1) - 1).toInt64)) fun v5 =>
    if v5 = (0 : Int32) then
      some ((-2), st)
    else
      if (st.1 0 4) = (0 : Int32) then
        some ((-3), st)
      else
        cix x1 3 <|
        if (0 : Int32) ≤ (st.1 5 x1.toNatClampNeg) then
          bnd1 (X8_layPlan st) fun st11 =>
          bnd1 (X8_pickOf x1 x2 st11) fun v13 =>
          some (v13, st11)
        else
          some ((-5), st)
abbrev rm_X8_picks : Room := { frames := 2, cells := 0, slots := 0, locals := 49 }
set_option maxHeartbeats 4000000 in
set_option maxRecDepth 100000 in
theorem w_X8_picks (X : Cx g p s m args meth c cX8_picks 3 RX8 (some .int)) {x1 : Int32} {x2 : Int32} {st : Sg} {r9 : Int32} {st9 : Sg}  (h : X8_picks x1 x2 st = some (r9, st9)) (Y : Hp g nwM (ceM g) A s.heap st H locs)  (hl : lv_has ls 3 [(0, .ref (g.2.1 0)), (1, .int x1), (2, .int x2)]) : W p l e rm_X8_picks s m args below meth c H locs 0 0 (MQ below (QI g nwM (ceM g) A r9 st9) args s 0 0 A) (F0 m 0 ls []) := by
  have hx := X.1
  have hb := X.2.1
  unfold X8_picks at h
  refine lv_aload_n hx hb dX8_picks_0 rfl (lv_at hl 0 rfl) ?_
  refine lv_iload_n hx hb dX8_picks_1 rfl (lv_at hl 1 rfl) ?_
  obtain ⟨v2, hc1, h⟩ := bnd1_s h
  refine k_cI Y (k_runV (As := [.int x1]) (rest := []) (o := 0) X Y cl_8_106 (c_X8_isSort l hc1 _) ⟨rfl, rfl, Nat.le_of_ble_eq_true rfl, Nat.le_of_ble_eq_true rfl⟩ (Nat.le_of_ble_eq_true rfl) rfl rfl hl.1 rfl (Nat.le_of_ble_eq_true rfl) dX8_picks_2 ⟨Nat.zero_le _, Nat.zero_le _⟩) (fun H locs Y => ?_)
  refine lv_if_ne (tgt := 10) hx hb dX8_picks_5 (by decide) (fun c3 => ?_) (fun c3 => ?_)
  · have h := ite_f h c3
    refine lv_iload_n hx hb dX8_picks_10 rfl (lv_at hl 2 rfl) ?_
    refine lv_i2l hx hb dX8_picks_11 rfl ?_
    refine lv_lconst (v := 0) hx hb dX8_picks_12 (by decide) ?_
    refine lv_aload_n hx hb dX8_picks_13 rfl (lv_at hl 0 rfl) ?_
    refine k_get (v := .int (st.1 0 1)) X Y fl_8_78 0 (Nat.le_of_ble_eq_true rfl) rfl rfl dX8_picks_14 ?_
    refine lv_iconst (v := 1) hx hb dX8_picks_17 (by decide) ?_
    refine lv_isub hx hb dX8_picks_18 ?_
    refine lv_i2l hx hb dX8_picks_19 rfl ?_
    obtain ⟨v5, hc4, h⟩ := bnd1_s h
    refine k_cI Y (k_runS (As := [.long (x2.toInt64), .long 0, .long (((st.1 0 1) - 1).toInt64)]) (rest := []) X Y cl_8_83 (c_X8_in l hc4 _) ⟨rfl, rfl, Nat.le_of_ble_eq_true rfl, Nat.le_of_ble_eq_true rfl⟩ rfl hl.1 rfl (Nat.le_of_ble_eq_true rfl) dX8_picks_20 ⟨Nat.zero_le _, Nat.zero_le _⟩) (fun H locs Y => ?_)
    refine lv_if_ne (tgt := 29) hx hb dX8_picks_23 (by decide) (fun c6 => ?_) (fun c6 => ?_)
    · have h := ite_f h c6
      refine lv_aload_n hx hb dX8_picks_29 rfl (lv_at hl 0 rfl) ?_
      refine k_get (v := .int (st.1 0 4)) X Y fl_8_96 0 (Nat.le_of_ble_eq_true rfl) rfl rfl dX8_picks_30 ?_
      refine lv_if_ne (tgt := 39) hx hb dX8_picks_33 (by decide) (fun c7 => ?_) (fun c7 => ?_)
      · have h := ite_f h c7
        refine lv_aload_n hx hb dX8_picks_39 rfl (lv_at hl 0 rfl) ?_
        refine k_get (v := .ref (g.2.1 5)) X Y fl_8_22 0 (Nat.le_of_ble_eq_true rfl) rfl rfl dX8_picks_40 ?_
        refine lv_iload_n hx hb dX8_picks_43 rfl (lv_at hl 1 rfl) ?_
        obtain ⟨i8, h⟩ := cix_s h
        refine k_iald X Y 5 (Nat.le_of_ble_eq_true rfl) (fun _ _ => rfl) i8 dX8_picks_44 ?_
        refine lv_if_ge (tgt := 51) hx hb dX8_picks_45 (by decide) (fun c9 => ?_) (fun c9 => ?_)
        · have h := ite_t h c9
          refine lv_aload_n hx hb dX8_picks_51 rfl (lv_at hl 0 rfl) ?_
          obtain ⟨st11, hc10, h⟩ := bnd1_s h
          refine k_cV Y (k_runV (As := []) (rest := []) (o := 0) X Y cl_8_145 (c_X8_layPlan l hc10 _) ⟨rfl, rfl, Nat.le_of_ble_eq_true rfl, Nat.le_of_ble_eq_true rfl⟩ (Nat.le_of_ble_eq_true rfl) rfl rfl hl.1 rfl (Nat.le_of_ble_eq_true rfl) dX8_picks_52 ⟨Nat.zero_le _, Nat.zero_le _⟩) (fun H locs Y => ?_)
          refine lv_aload_n hx hb dX8_picks_55 rfl (lv_at hl 0 rfl) ?_
          refine lv_iload_n hx hb dX8_picks_56 rfl (lv_at hl 1 rfl) ?_
          refine lv_iload_n hx hb dX8_picks_57 rfl (lv_at hl 2 rfl) ?_
          obtain ⟨v13, hc12, h⟩ := bnd1_s h
          refine k_cI Y (k_runV (As := [.int x1, .int x2]) (rest := []) (o := 0) X Y cl_8_165 (c_X8_pickOf l hc12 _) ⟨rfl, rfl, Nat.le_of_ble_eq_true rfl, Nat.le_of_ble_eq_true rfl⟩ (Nat.le_of_ble_eq_true rfl) rfl rfl hl.1 rfl (Nat.le_of_ble_eq_true rfl) dX8_picks_58 ⟨Nat.zero_le _, Nat.zero_le _⟩) (fun H locs Y => ?_)
          exact k_iretW X Y h dX8_picks_61
        · have h := ite_f h c9
          refine lv_bipush (v := (-5)) hx hb dX8_picks_48 (by decide) ?_
          exact k_iretW X Y h dX8_picks_50
      · have h := ite_t h c7
        refine lv_bipush (v := (-3)) hx hb dX8_picks_36 (by decide) ?_
        exact k_iretW X Y h dX8_picks_38
    · have h := ite_t h c6
      refine lv_bipush (v := (-2)) hx hb dX8_picks_26 (by decide) ?_
      exact k_iretW X Y h dX8_picks_28
  · have h := ite_t h c3
    refine lv_iconst (v := (-1)) hx hb dX8_picks_8 (by decide) ?_
    exact k_iretW X Y h dX8_picks_9
theorem c_X8_picks (l : Launch) {g : Gx} {x1 : Int32} {x2 : Int32} {st : Sg} {r9 : Int32} {st9 : Sg} (h : X8_picks x1 x2 st = some (r9, st9)) : MetI l yX8_picks cX8_picks 3 (some .int) rm_X8_picks g nwM (ceM g) [.ref (g.2.1 0), .int x1, .int x2] st r9 st9 :=
  met_of (Qc := fun A => QI g nwM (ceM g) A r9 st9) (by decide) (Nat.le_of_ble_eq_true rfl) (fun p e s m below meth c A ls X Y hl => w_X8_picks X h Y hl)
def X8_plan   (x1 : Int32) (x2 : Int32) (st : Sg) : Option (Int32 × Sg) :=
  bnd1 (X8_in (x2.toInt64) 0 (((st.1 0 4) - 1).toInt64)) fun v2 =>
  if v2 = (0 : Int32) then
    some ((-1), st)
  else
    bnd1 (X8_in (x1.toInt64) 0 5) fun v5 =>
    if v5 = (0 : Int32) then
      some ((-2), st)
    else
      cix x1 6 <|
      nm (st.1 6 x1.toNatClampNeg) fun v8 =>
      cix x1 6 <|
      nm (sI st 6 x1.toNatClampNeg x2) fun st10 =>
      some (v8, st10)
abbrev rm_X8_plan : Room := { frames := 1, cells := 0, slots := 0, locals := 25 }
set_option maxHeartbeats 4000000 in
set_option maxRecDepth 100000 in
theorem w_X8_plan (X : Cx g p s m args meth c cX8_plan 4 RX8 (some .int)) {x1 : Int32} {x2 : Int32} {st : Sg} {r9 : Int32} {st9 : Sg}  (h : X8_plan x1 x2 st = some (r9, st9)) (Y : Hp g nwM (ceM g) A s.heap st H locs)  (hl : lv_has ls 4 [(0, .ref (g.2.1 0)), (1, .int x1), (2, .int x2)]) : W p l e rm_X8_plan s m args below meth c H locs 0 0 (MQ below (QI g nwM (ceM g) A r9 st9) args s 0 0 A) (F0 m 0 ls []) := by
  have hx := X.1
  have hb := X.2.1
  unfold X8_plan at h
  refine lv_iload_n hx hb dX8_plan_0 rfl (lv_at hl 2 rfl) ?_
  refine lv_i2l hx hb dX8_plan_1 rfl ?_
  refine lv_lconst (v := 0) hx hb dX8_plan_2 (by decide) ?_
  refine lv_aload_n hx hb dX8_plan_3 rfl (lv_at hl 0 rfl) ?_
  refine k_get (v := .int (st.1 0 4)) X Y fl_8_96 0 (Nat.le_of_ble_eq_true rfl) rfl rfl dX8_plan_4 ?_
  refine lv_iconst (v := 1) hx hb dX8_plan_7 (by decide) ?_
  refine lv_isub hx hb dX8_plan_8 ?_
  refine lv_i2l hx hb dX8_plan_9 rfl ?_
  obtain ⟨v2, hc1, h⟩ := bnd1_s h
  refine k_cI Y (k_runS (As := [.long (x2.toInt64), .long 0, .long (((st.1 0 4) - 1).toInt64)]) (rest := []) X Y cl_8_83 (c_X8_in l hc1 _) ⟨rfl, rfl, Nat.le_of_ble_eq_true rfl, Nat.le_of_ble_eq_true rfl⟩ rfl hl.1 rfl (Nat.le_of_ble_eq_true rfl) dX8_plan_10 ⟨Nat.zero_le _, Nat.zero_le _⟩) (fun H locs Y => ?_)
  refine lv_if_ne (tgt := 18) hx hb dX8_plan_13 (by decide) (fun c3 => ?_) (fun c3 => ?_)
  · have h := ite_f h c3
    refine lv_iload_n hx hb dX8_plan_18 rfl (lv_at hl 1 rfl) ?_
    refine lv_i2l hx hb dX8_plan_19 rfl ?_
    refine lv_lconst (v := 0) hx hb dX8_plan_20 (by decide) ?_
    refine k_ldc2 X lg_8_114 dX8_plan_21 ?_
    obtain ⟨v5, hc4, h⟩ := bnd1_s h
    refine k_cI Y (k_runS (As := [.long (x1.toInt64), .long 0, .long 5]) (rest := []) X Y cl_8_83 (c_X8_in l hc4 _) ⟨rfl, rfl, Nat.le_of_ble_eq_true rfl, Nat.le_of_ble_eq_true rfl⟩ rfl hl.1 rfl (Nat.le_of_ble_eq_true rfl) dX8_plan_24 ⟨Nat.zero_le _, Nat.zero_le _⟩) (fun H locs Y => ?_)
    refine lv_if_ne (tgt := 33) hx hb dX8_plan_27 (by decide) (fun c6 => ?_) (fun c6 => ?_)
    · have h := ite_f h c6
      refine lv_aload_n hx hb dX8_plan_33 rfl (lv_at hl 0 rfl) ?_
      refine k_get (v := .ref (g.2.1 6)) X Y fl_8_25 0 (Nat.le_of_ble_eq_true rfl) rfl rfl dX8_plan_34 ?_
      refine lv_iload_n hx hb dX8_plan_37 rfl (lv_at hl 1 rfl) ?_
      obtain ⟨i7, h⟩ := cix_s h
      refine k_iald X Y 6 (Nat.le_of_ble_eq_true rfl) (fun _ _ => rfl) i7 dX8_plan_38 ?_
      obtain ⟨v8, ev8, h⟩ := nm_s h
      refine k_nmI ev8 ?_
      refine lv_istore_n (lv' := [(3, .int v8), (0, .ref (g.2.1 0)), (1, .int x1), (2, .int x2)]) hx hb dX8_plan_39 rfl hl (by decide) rfl (fun ls hl => ?_)
      refine lv_aload_n hx hb dX8_plan_40 rfl (lv_at hl 1 rfl) ?_
      refine k_get (v := .ref (g.2.1 6)) X Y fl_8_25 0 (Nat.le_of_ble_eq_true rfl) rfl rfl dX8_plan_41 ?_
      refine lv_iload_n hx hb dX8_plan_44 rfl (lv_at hl 2 rfl) ?_
      refine lv_iload_n hx hb dX8_plan_45 rfl (lv_at hl 3 rfl) ?_
      obtain ⟨i9, h⟩ := cix_s h
      refine k_iast X Y 6 (Nat.le_of_ble_eq_true rfl) (fun _ _ => rfl) i9 dX8_plan_46 (fun H locs Y => ?_)
      obtain ⟨st10, est10, h⟩ := nm_s h
      have Y : Hp g nwM (ceM g) A s.heap st10 H locs := by rw [est10]; exact Y
      refine lv_iload_n hx hb dX8_plan_47 rfl (lv_at hl 0 rfl) ?_
      exact k_iretW X Y h dX8_plan_48
    · have h := ite_t h c6
      refine lv_bipush (v := (-2)) hx hb dX8_plan_30 (by decide) ?_
      exact k_iretW X Y h dX8_plan_32
  · have h := ite_t h c3
    refine lv_iconst (v := (-1)) hx hb dX8_plan_16 (by decide) ?_
    exact k_iretW X Y h dX8_plan_17
theorem c_X8_plan (l : Launch) {g : Gx} {x1 : Int32} {x2 : Int32} {st : Sg} {r9 : Int32} {st9 : Sg} (h : X8_plan x1 x2 st = some (r9, st9)) : MetI l yX8_plan cX8_plan 4 (some .int) rm_X8_plan g nwM (ceM g) [.ref (g.2.1 0), .int x1, .int x2] st r9 st9 :=
  met_of (Qc := fun A => QI g nwM (ceM g) A r9 st9) (by decide) (Nat.le_of_ble_eq_true rfl) (fun p e s m below meth c A ls X Y hl => w_X8_plan X h Y hl)
def X8_price_30   (k0 : Int64) (k1 : Int64) (k2 : Int64) (x1 : Int32) (st : Sg) : Option (Int32 × Sg) :=
  bnd1 (X8_in k0 k1 k2) fun v2 =>
  if v2 = (0 : Int32) then
    some ((-2), st)
  else
    if (st.1 0 4) = (5 : Int32) then
      some ((-4), st)
    else
      cix (st.1 0 4) 5 <|
      nm (sI st 1 (st.1 0 4).toNatClampNeg x1) fun st6 =>
      nm (sI st6 0 4 ((st6.1 0 4) + 1)) fun st7 =>
      some ((st7.1 0 4) - 1, st7)
def X8_price   (x1 : Int32) (st : Sg) : Option (Int32 × Sg) :=
  if (st.1 0 4) = (0 : Int32) then
    X8_price_30 (x1.toInt64) 1 99 x1 st
  else
    cix ((st.1 0 4) - 1) 5 <|
    X8_price_30 (x1.toInt64) 1 (((st.1 1 ((st.1 0 4) - 1).toNatClampNeg) - 1).toInt64) x1 st
abbrev rm_X8_price : Room := { frames := 1, cells := 0, slots := 0, locals := 25 }
set_option maxHeartbeats 4000000 in
set_option maxRecDepth 100000 in
theorem w_X8_price_30 (X : Cx g p s m args meth c cX8_price 2 RX8 (some .int)) {k0 : Int64} {k1 : Int64} {k2 : Int64} {x1 : Int32} {st : Sg} {r9 : Int32} {st9 : Sg}  (h : X8_price_30 k0 k1 k2 x1 st = some (r9, st9)) (Y : Hp g nwM (ceM g) A s.heap st H locs)  (hl : lv_has ls 2 [(0, .ref (g.2.1 0)), (1, .int x1)]) : W p l e rm_X8_price s m args below meth c H locs 0 0 (MQ below (QI g nwM (ceM g) A r9 st9) args s 0 0 A) (F0 m 30 ls [.long k2, .long k1, .long k0]) := by
  have hx := X.1
  have hb := X.2.1
  unfold X8_price_30 at h
  obtain ⟨v2, hc1, h⟩ := bnd1_s h
  refine k_cI Y (k_runS (As := [.long k0, .long k1, .long k2]) (rest := []) X Y cl_8_83 (c_X8_in l hc1 _) ⟨rfl, rfl, Nat.le_of_ble_eq_true rfl, Nat.le_of_ble_eq_true rfl⟩ rfl hl.1 rfl (Nat.le_of_ble_eq_true rfl) dX8_price_30 ⟨Nat.zero_le _, Nat.zero_le _⟩) (fun H locs Y => ?_)
  refine lv_if_ne (tgt := 39) hx hb dX8_price_33 (by decide) (fun c3 => ?_) (fun c3 => ?_)
  · have h := ite_f h c3
    refine lv_aload_n hx hb dX8_price_39 rfl (lv_at hl 0 rfl) ?_
    refine k_get (v := .int (st.1 0 4)) X Y fl_8_96 0 (Nat.le_of_ble_eq_true rfl) rfl rfl dX8_price_40 ?_
    refine lv_iconst (v := 5) hx hb dX8_price_43 (by decide) ?_
    refine lv_icmp_ne (tgt := 50) hx hb dX8_price_44 (by decide) (fun c4 => ?_) (fun c4 => ?_)
    · have h := ite_f h c4
      refine lv_aload_n hx hb dX8_price_50 rfl (lv_at hl 0 rfl) ?_
      refine k_get (v := .ref (g.2.1 1)) X Y fl_8_7 0 (Nat.le_of_ble_eq_true rfl) rfl rfl dX8_price_51 ?_
      refine lv_aload_n hx hb dX8_price_54 rfl (lv_at hl 0 rfl) ?_
      refine k_get (v := .int (st.1 0 4)) X Y fl_8_96 0 (Nat.le_of_ble_eq_true rfl) rfl rfl dX8_price_55 ?_
      refine lv_iload_n hx hb dX8_price_58 rfl (lv_at hl 1 rfl) ?_
      obtain ⟨i5, h⟩ := cix_s h
      refine k_iast X Y 1 (Nat.le_of_ble_eq_true rfl) (fun _ _ => rfl) i5 dX8_price_59 (fun H locs Y => ?_)
      obtain ⟨st6, est6, h⟩ := nm_s h
      have Y : Hp g nwM (ceM g) A s.heap st6 H locs := by rw [est6]; exact Y
      refine lv_aload_n hx hb dX8_price_60 rfl (lv_at hl 0 rfl) ?_
      refine lv_dup hx hb dX8_price_61 rfl ?_
      refine k_get (v := .int (st6.1 0 4)) X Y fl_8_96 0 (Nat.le_of_ble_eq_true rfl) rfl rfl dX8_price_62 ?_
      refine lv_iconst (v := 1) hx hb dX8_price_65 (by decide) ?_
      refine lv_iadd hx hb dX8_price_66 ?_
      refine k_putI X Y fl_8_96 0 (Nat.le_of_ble_eq_true rfl) rfl rfl rfl (Nat.le_of_ble_eq_true rfl) rfl dX8_price_67 (fun H locs Y => ?_)
      obtain ⟨st7, est7, h⟩ := nm_s h
      have Y : Hp g nwM (ceM g) A s.heap st7 H locs := by rw [est7]; exact Y
      refine lv_aload_n hx hb dX8_price_70 rfl (lv_at hl 0 rfl) ?_
      refine k_get (v := .int (st7.1 0 4)) X Y fl_8_96 0 (Nat.le_of_ble_eq_true rfl) rfl rfl dX8_price_71 ?_
      refine lv_iconst (v := 1) hx hb dX8_price_74 (by decide) ?_
      refine lv_isub hx hb dX8_price_75 ?_
      exact k_iretW X Y h dX8_price_76
    · have h := ite_t h c4
      refine lv_bipush (v := (-4)) hx hb dX8_price_47 (by decide) ?_
      exact k_iretW X Y h dX8_price_49
  · have h := ite_t h c3
    refine lv_bipush (v := (-2)) hx hb dX8_price_36 (by decide) ?_
    exact k_iretW X Y h dX8_price_38
set_option maxHeartbeats 4000000 in
set_option maxRecDepth 100000 in
theorem w_X8_price (X : Cx g p s m args meth c cX8_price 2 RX8 (some .int)) {x1 : Int32} {st : Sg} {r9 : Int32} {st9 : Sg}  (h : X8_price x1 st = some (r9, st9)) (Y : Hp g nwM (ceM g) A s.heap st H locs)  (hl : lv_has ls 2 [(0, .ref (g.2.1 0)), (1, .int x1)]) : W p l e rm_X8_price s m args below meth c H locs 0 0 (MQ below (QI g nwM (ceM g) A r9 st9) args s 0 0 A) (F0 m 0 ls []) := by
  have hx := X.1
  have hb := X.2.1
  unfold X8_price at h
  refine lv_iload_n hx hb dX8_price_0 rfl (lv_at hl 1 rfl) ?_
  refine lv_i2l hx hb dX8_price_1 rfl ?_
  refine lv_lconst (v := 1) hx hb dX8_price_2 (by decide) ?_
  refine lv_aload_n hx hb dX8_price_3 rfl (lv_at hl 0 rfl) ?_
  refine k_get (v := .int (st.1 0 4)) X Y fl_8_96 0 (Nat.le_of_ble_eq_true rfl) rfl rfl dX8_price_4 ?_
  refine lv_if_ne (tgt := 16) hx hb dX8_price_7 (by decide) (fun c1 => ?_) (fun c1 => ?_)
  · have h := ite_f h c1
    refine lv_aload_n hx hb dX8_price_16 rfl (lv_at hl 0 rfl) ?_
    refine k_get (v := .ref (g.2.1 1)) X Y fl_8_7 0 (Nat.le_of_ble_eq_true rfl) rfl rfl dX8_price_17 ?_
    refine lv_aload_n hx hb dX8_price_20 rfl (lv_at hl 0 rfl) ?_
    refine k_get (v := .int (st.1 0 4)) X Y fl_8_96 0 (Nat.le_of_ble_eq_true rfl) rfl rfl dX8_price_21 ?_
    refine lv_iconst (v := 1) hx hb dX8_price_24 (by decide) ?_
    refine lv_isub hx hb dX8_price_25 ?_
    obtain ⟨i2, h⟩ := cix_s h
    refine k_iald X Y 1 (Nat.le_of_ble_eq_true rfl) (fun _ _ => rfl) i2 dX8_price_26 ?_
    refine lv_iconst (v := 1) hx hb dX8_price_27 (by decide) ?_
    refine lv_isub hx hb dX8_price_28 ?_
    refine lv_i2l hx hb dX8_price_29 rfl ?_
    exact w_X8_price_30 X  h Y  (lv_sub hl [0, 1] rfl)
  · have h := ite_t h c1
    refine k_ldc2 X lg_8_91 dX8_price_10 ?_
    refine lv_goto (tgt := 30) hx hb dX8_price_13 (by decide) ?_
    exact w_X8_price_30 X  h Y  (lv_sub hl [0, 1] rfl)
theorem c_X8_price (l : Launch) {g : Gx} {x1 : Int32} {st : Sg} {r9 : Int32} {st9 : Sg} (h : X8_price x1 st = some (r9, st9)) : MetI l yX8_price cX8_price 2 (some .int) rm_X8_price g nwM (ceM g) [.ref (g.2.1 0), .int x1] st r9 st9 :=
  met_of (Qc := fun A => QI g nwM (ceM g) A r9 st9) (by decide) (Nat.le_of_ble_eq_true rfl) (fun p e s m below meth c A ls X Y hl => w_X8_price X h Y hl)
def X8_rather_110   (x1 : Int32) (x2 : Int32) (st : Sg) : Option (Int32 × Sg) :=
  some ((100 * x1) + x2, st)
def X8_rather_117  (rc50 : Int32 → Sg → Option (Int32 × Sg)) (rc70 : Int32 → Sg → Option (Int32 × Sg)) (x1 : Int32) (x2 : Int32) (st : Sg) : Option (Int32 × Sg) :=
  nm (x2 + 1) fun v1 =>
  rc70 v1 st
def X8_rather_123  (rc50 : Int32 → Sg → Option (Int32 × Sg)) (x1 : Int32) (st : Sg) : Option (Int32 × Sg) :=
  nm (x1 + 1) fun v1 =>
  rc50 v1 st
def X8_rather_70b  (rc50 : Int32 → Sg → Option (Int32 × Sg)) (rc70 : Int32 → Sg → Option (Int32 × Sg)) (x1 : Int32) (x2 : Int32) (st : Sg) : Option (Int32 × Sg) :=
  if (st.1 0 0) < x2 then
    X8_rather_123 rc50 x1 st
  else
    cix x2 13 <|
    if (lg_cmp (st.2 12 x2.toNatClampNeg) 0) ≤ (0 : Int32) then
      X8_rather_117 rc50 rc70 x1 x2 st
    else
      cix ((13 * x1) + x2) 91 <|
      cix x2 13 <|
      if (lg_cmp (st.2 8 ((13 * x1) + x2).toNatClampNeg) (st.2 7 x2.toNatClampNeg)) ≤ (0 : Int32) then
        X8_rather_117 rc50 rc70 x1 x2 st
      else
        X8_rather_110 x1 x2 st
def X8_rather_70  (rc50 : Int32 → Sg → Option (Int32 × Sg)) (x1 : Int32) : Nat → Int32 → Sg → Option (Int32 × Sg)
  | 0, _, _ => none
  | k + 1, x2, st => X8_rather_70b  rc50 (X8_rather_70 rc50 x1 k) x1 x2 st
def X8_rather_129    (st : Sg) : Option (Int32 × Sg) :=
  some ((-6), st)
def X8_rather_50b  (rc50 : Int32 → Sg → Option (Int32 × Sg)) (x1 : Int32) (st : Sg) : Option (Int32 × Sg) :=
  if (st.1 0 1) ≤ x1 then
    X8_rather_129 st
  else
    bnd1 (X8_findOdds x1 st) fun st3 =>
    bnd1 (X8_bringFrom x1 st3) fun st5 =>
    X8_rather_70 rc50 x1 FU 0 st5
def X8_rather_50    : Nat → Int32 → Sg → Option (Int32 × Sg)
  | 0, _, _ => none
  | k + 1, x1, st => X8_rather_50b   (X8_rather_50 k) x1 st
def X8_rather_48    (st : Sg) : Option (Int32 × Sg) :=
  X8_rather_50 FU 0 st
def X8_rather_22b  (rc22 : Int32 → Sg → Option (Int32 × Sg)) (x1 : Int32) (st : Sg) : Option (Int32 × Sg) :=
  if (st.1 0 1) ≤ x1 then
    X8_rather_48 st
  else
    cix x1 6 <|
    cix x1 6 <|
    nm (sI st 11 x1.toNatClampNeg (st.1 13 x1.toNatClampNeg)) fun st4 =>
    nm (x1 + 1) fun v5 =>
    rc22 v5 st4
def X8_rather_22    : Nat → Int32 → Sg → Option (Int32 × Sg)
  | 0, _, _ => none
  | k + 1, x1, st => X8_rather_22b   (X8_rather_22 k) x1 st
def X8_rather    (st : Sg) : Option (Int32 × Sg) :=
  if (st.1 0 4) = (0 : Int32) then
    some ((-3), st)
  else
    bnd1 (X8_findBest st) fun st3 =>
    bnd2 (X8_findKept 0 st3) fun v6 st5 =>
    X8_rather_22 FU 0 st5
abbrev rm_X8_rather : Room := { frames := 4, cells := 0, slots := 0, locals := 100 }
set_option maxHeartbeats 4000000 in
set_option maxRecDepth 100000 in
theorem w_X8_rather_110 (X : Cx g p s m args meth c cX8_rather 3 RX8 (some .int)) {x1 : Int32} {x2 : Int32} {st : Sg} {r9 : Int32} {st9 : Sg}  (h : X8_rather_110 x1 x2 st = some (r9, st9)) (Y : Hp g nwM (ceM g) A s.heap st H locs)  (hl : lv_has ls 3 [(1, .int x1), (2, .int x2)]) : W p l e rm_X8_rather s m args below meth c H locs 0 0 (MQ below (QI g nwM (ceM g) A r9 st9) args s 0 0 A) (F0 m 110 ls []) := by
  have hx := X.1
  have hb := X.2.1
  unfold X8_rather_110 at h
  refine lv_bipush (v := 100) hx hb dX8_rather_110 (by decide) ?_
  refine lv_iload_n hx hb dX8_rather_112 rfl (lv_at hl 0 rfl) ?_
  refine lv_imul hx hb dX8_rather_113 ?_
  refine lv_iload_n hx hb dX8_rather_114 rfl (lv_at hl 1 rfl) ?_
  refine lv_iadd hx hb dX8_rather_115 ?_
  exact k_iretW X Y h dX8_rather_116
set_option maxHeartbeats 4000000 in
set_option maxRecDepth 100000 in
theorem w_X8_rather_117 (X : Cx g p s m args meth c cX8_rather 3 RX8 (some .int)) {x1 : Int32} {x2 : Int32} {st : Sg} {r9 : Int32} {st9 : Sg} (rc50 : Int32 → Sg → Option (Int32 × Sg)) (hrc50 : ∀ (x1 : Int32) (st : Sg) (ls : Array Slot) (H : Heap) (locs : List Loc), rc50 x1 st = some (r9, st9) → Hp g nwM (ceM g) A s.heap st H locs → lv_has ls 3 [(0, .ref (g.2.1 0)), (1, .int x1)] → W p l e rm_X8_rather s m args below meth c H locs 0 0 (MQ below (QI g nwM (ceM g) A r9 st9) args s 0 0 A) (F0 m 50 ls [])) (rc70 : Int32 → Sg → Option (Int32 × Sg)) (hrc70 : ∀ (x2 : Int32) (st : Sg) (ls : Array Slot) (H : Heap) (locs : List Loc), rc70 x2 st = some (r9, st9) → Hp g nwM (ceM g) A s.heap st H locs → lv_has ls 3 [(0, .ref (g.2.1 0)), (1, .int x1), (2, .int x2)] → W p l e rm_X8_rather s m args below meth c H locs 0 0 (MQ below (QI g nwM (ceM g) A r9 st9) args s 0 0 A) (F0 m 70 ls [])) (h : X8_rather_117 rc50 rc70 x1 x2 st = some (r9, st9)) (Y : Hp g nwM (ceM g) A s.heap st H locs)  (hl : lv_has ls 3 [(0, .ref (g.2.1 0)), (1, .int x1), (2, .int x2)]) : W p l e rm_X8_rather s m args below meth c H locs 0 0 (MQ below (QI g nwM (ceM g) A r9 st9) args s 0 0 A) (F0 m 117 ls []) := by
  have hx := X.1
  have hb := X.2.1
  unfold X8_rather_117 at h
  obtain ⟨v1, ev1, h⟩ := nm_s h
  refine lv_iinc (v := v1) (lv' := [(2, .int v1), (0, .ref (g.2.1 0)), (1, .int x1)]) hx hb dX8_rather_117 hl (k := 2) rfl (by rw [ev1]; rfl) (by decide) rfl (fun ls hl => ?_)
  refine lv_goto (tgt := 70) hx hb dX8_rather_120 (by decide) ?_
  exact hrc70 v1 st _ _ _ h Y (lv_sub hl [1, 2, 0] rfl)
set_option maxHeartbeats 4000000 in
set_option maxRecDepth 100000 in
theorem w_X8_rather_123 (X : Cx g p s m args meth c cX8_rather 3 RX8 (some .int)) {x1 : Int32} {st : Sg} {r9 : Int32} {st9 : Sg} (rc50 : Int32 → Sg → Option (Int32 × Sg)) (hrc50 : ∀ (x1 : Int32) (st : Sg) (ls : Array Slot) (H : Heap) (locs : List Loc), rc50 x1 st = some (r9, st9) → Hp g nwM (ceM g) A s.heap st H locs → lv_has ls 3 [(0, .ref (g.2.1 0)), (1, .int x1)] → W p l e rm_X8_rather s m args below meth c H locs 0 0 (MQ below (QI g nwM (ceM g) A r9 st9) args s 0 0 A) (F0 m 50 ls [])) (h : X8_rather_123 rc50 x1 st = some (r9, st9)) (Y : Hp g nwM (ceM g) A s.heap st H locs)  (hl : lv_has ls 3 [(0, .ref (g.2.1 0)), (1, .int x1)]) : W p l e rm_X8_rather s m args below meth c H locs 0 0 (MQ below (QI g nwM (ceM g) A r9 st9) args s 0 0 A) (F0 m 123 ls []) := by
  have hx := X.1
  have hb := X.2.1
  unfold X8_rather_123 at h
  obtain ⟨v1, ev1, h⟩ := nm_s h
  refine lv_iinc (v := v1) (lv' := [(1, .int v1), (0, .ref (g.2.1 0))]) hx hb dX8_rather_123 hl (k := 1) rfl (by rw [ev1]; rfl) (by decide) rfl (fun ls hl => ?_)
  refine lv_goto (tgt := 50) hx hb dX8_rather_126 (by decide) ?_
  exact hrc50 v1 st _ _ _ h Y (lv_sub hl [1, 0] rfl)
set_option maxHeartbeats 4000000 in
set_option maxRecDepth 100000 in
theorem w_X8_rather_70b (X : Cx g p s m args meth c cX8_rather 3 RX8 (some .int)) {x1 : Int32} {x2 : Int32} {st : Sg} {r9 : Int32} {st9 : Sg} (rc50 : Int32 → Sg → Option (Int32 × Sg)) (hrc50 : ∀ (x1 : Int32) (st : Sg) (ls : Array Slot) (H : Heap) (locs : List Loc), rc50 x1 st = some (r9, st9) → Hp g nwM (ceM g) A s.heap st H locs → lv_has ls 3 [(0, .ref (g.2.1 0)), (1, .int x1)] → W p l e rm_X8_rather s m args below meth c H locs 0 0 (MQ below (QI g nwM (ceM g) A r9 st9) args s 0 0 A) (F0 m 50 ls [])) (rc70 : Int32 → Sg → Option (Int32 × Sg)) (hrc70 : ∀ (x2 : Int32) (st : Sg) (ls : Array Slot) (H : Heap) (locs : List Loc), rc70 x2 st = some (r9, st9) → Hp g nwM (ceM g) A s.heap st H locs → lv_has ls 3 [(0, .ref (g.2.1 0)), (1, .int x1), (2, .int x2)] → W p l e rm_X8_rather s m args below meth c H locs 0 0 (MQ below (QI g nwM (ceM g) A r9 st9) args s 0 0 A) (F0 m 70 ls [])) (h : X8_rather_70b rc50 rc70 x1 x2 st = some (r9, st9)) (Y : Hp g nwM (ceM g) A s.heap st H locs)  (hl : lv_has ls 3 [(0, .ref (g.2.1 0)), (1, .int x1), (2, .int x2)]) : W p l e rm_X8_rather s m args below meth c H locs 0 0 (MQ below (QI g nwM (ceM g) A r9 st9) args s 0 0 A) (F0 m 70 ls []) := by
  have hx := X.1
  have hb := X.2.1
  unfold X8_rather_70b at h
  refine lv_iload_n hx hb dX8_rather_70 rfl (lv_at hl 2 rfl) ?_
  refine lv_aload_n hx hb dX8_rather_71 rfl (lv_at hl 0 rfl) ?_
  refine k_get (v := .int (st.1 0 0)) X Y fl_8_75 0 (Nat.le_of_ble_eq_true rfl) rfl rfl dX8_rather_72 ?_
  refine lv_icmp_gt (tgt := 123) hx hb dX8_rather_75 (by decide) (fun c1 => ?_) (fun c1 => ?_)
  · have h := ite_t h c1
    exact w_X8_rather_123 X rc50 hrc50 h Y  (lv_sub hl [0, 1] rfl)
  · have h := ite_f h c1
    refine lv_aload_n hx hb dX8_rather_78 rfl (lv_at hl 0 rfl) ?_
    refine k_get (v := .ref (g.2.1 12)) X Y fl_8_44 0 (Nat.le_of_ble_eq_true rfl) rfl rfl dX8_rather_79 ?_
    refine lv_iload_n hx hb dX8_rather_82 rfl (lv_at hl 2 rfl) ?_
    obtain ⟨i2, h⟩ := cix_s h
    refine k_lald X Y 12 (Nat.le_of_ble_eq_true rfl) (fun _ _ => rfl) i2 dX8_rather_83 ?_
    refine lv_lconst (v := 0) hx hb dX8_rather_84 (by decide) ?_
    refine W.lcmp hx hb dX8_rather_85 ?_
    refine lv_if_le (tgt := 117) hx hb dX8_rather_86 (by decide) (fun c3 => ?_) (fun c3 => ?_)
    · have h := ite_t h c3
      exact w_X8_rather_117 X rc50 hrc50 rc70 hrc70 h Y  (lv_sub hl [0, 1, 2] rfl)
    · have h := ite_f h c3
      refine lv_aload_n hx hb dX8_rather_89 rfl (lv_at hl 0 rfl) ?_
      refine k_get (v := .ref (g.2.1 8)) X Y fl_8_32 0 (Nat.le_of_ble_eq_true rfl) rfl rfl dX8_rather_90 ?_
      refine lv_bipush (v := 13) hx hb dX8_rather_93 (by decide) ?_
      refine lv_iload_n hx hb dX8_rather_95 rfl (lv_at hl 1 rfl) ?_
      refine lv_imul hx hb dX8_rather_96 ?_
      refine lv_iload_n hx hb dX8_rather_97 rfl (lv_at hl 2 rfl) ?_
      refine lv_iadd hx hb dX8_rather_98 ?_
      obtain ⟨i4, h⟩ := cix_s h
      refine k_lald X Y 8 (Nat.le_of_ble_eq_true rfl) (fun _ _ => rfl) i4 dX8_rather_99 ?_
      refine lv_aload_n hx hb dX8_rather_100 rfl (lv_at hl 0 rfl) ?_
      refine k_get (v := .ref (g.2.1 7)) X Y fl_8_28 0 (Nat.le_of_ble_eq_true rfl) rfl rfl dX8_rather_101 ?_
      refine lv_iload_n hx hb dX8_rather_104 rfl (lv_at hl 2 rfl) ?_
      obtain ⟨i5, h⟩ := cix_s h
      refine k_lald X Y 7 (Nat.le_of_ble_eq_true rfl) (fun _ _ => rfl) i5 dX8_rather_105 ?_
      refine W.lcmp hx hb dX8_rather_106 ?_
      refine lv_if_le (tgt := 117) hx hb dX8_rather_107 (by decide) (fun c6 => ?_) (fun c6 => ?_)
      · have h := ite_t h c6
        exact w_X8_rather_117 X rc50 hrc50 rc70 hrc70 h Y  (lv_sub hl [0, 1, 2] rfl)
      · have h := ite_f h c6
        exact w_X8_rather_110 X  h Y  (lv_sub hl [1, 2] rfl)
theorem w_X8_rather_70 (X : Cx g p s m args meth c cX8_rather 3 RX8 (some .int)) {x1 : Int32}  {r9 : Int32} {st9 : Sg} (rc50 : Int32 → Sg → Option (Int32 × Sg)) (hrc50 : ∀ (x1 : Int32) (st : Sg) (ls : Array Slot) (H : Heap) (locs : List Loc), rc50 x1 st = some (r9, st9) → Hp g nwM (ceM g) A s.heap st H locs → lv_has ls 3 [(0, .ref (g.2.1 0)), (1, .int x1)] → W p l e rm_X8_rather s m args below meth c H locs 0 0 (MQ below (QI g nwM (ceM g) A r9 st9) args s 0 0 A) (F0 m 50 ls []))  : ∀ (k : Nat) (x2 : Int32) (st : Sg) (ls : Array Slot) (H : Heap) (locs : List Loc), X8_rather_70 rc50 x1 k x2 st = some (r9, st9) → Hp g nwM (ceM g) A s.heap st H locs → lv_has ls 3 [(0, .ref (g.2.1 0)), (1, .int x1), (2, .int x2)] → W p l e rm_X8_rather s m args below meth c H locs 0 0 (MQ below (QI g nwM (ceM g) A r9 st9) args s 0 0 A) (F0 m 70 ls []) := by
  intro k
  induction k with
  | zero =>
    intro x2 st ls H locs h
    exact none_s h
  | succ k ih =>
    intro x2 st ls H locs h Y hl
    exact w_X8_rather_70b X rc50 hrc50 (X8_rather_70 rc50 x1 k) ih h Y  hl
set_option maxHeartbeats 4000000 in
set_option maxRecDepth 100000 in
theorem w_X8_rather_129 (X : Cx g p s m args meth c cX8_rather 3 RX8 (some .int))  {st : Sg} {r9 : Int32} {st9 : Sg}  (h : X8_rather_129 st = some (r9, st9)) (Y : Hp g nwM (ceM g) A s.heap st H locs)  (hl : lv_has ls 3 []) : W p l e rm_X8_rather s m args below meth c H locs 0 0 (MQ below (QI g nwM (ceM g) A r9 st9) args s 0 0 A) (F0 m 129 ls []) := by
  have hx := X.1
  have hb := X.2.1
  unfold X8_rather_129 at h
  refine lv_bipush (v := (-6)) hx hb dX8_rather_129 (by decide) ?_
  exact k_iretW X Y h dX8_rather_131
set_option maxHeartbeats 4000000 in
set_option maxRecDepth 100000 in
theorem w_X8_rather_50b (X : Cx g p s m args meth c cX8_rather 3 RX8 (some .int)) {x1 : Int32} {st : Sg} {r9 : Int32} {st9 : Sg} (rc50 : Int32 → Sg → Option (Int32 × Sg)) (hrc50 : ∀ (x1 : Int32) (st : Sg) (ls : Array Slot) (H : Heap) (locs : List Loc), rc50 x1 st = some (r9, st9) → Hp g nwM (ceM g) A s.heap st H locs → lv_has ls 3 [(0, .ref (g.2.1 0)), (1, .int x1)] → W p l e rm_X8_rather s m args below meth c H locs 0 0 (MQ below (QI g nwM (ceM g) A r9 st9) args s 0 0 A) (F0 m 50 ls [])) (h : X8_rather_50b rc50 x1 st = some (r9, st9)) (Y : Hp g nwM (ceM g) A s.heap st H locs)  (hl : lv_has ls 3 [(0, .ref (g.2.1 0)), (1, .int x1)]) : W p l e rm_X8_rather s m args below meth c H locs 0 0 (MQ below (QI g nwM (ceM g) A r9 st9) args s 0 0 A) (F0 m 50 ls []) := by
  have hx := X.1
  have hb := X.2.1
  unfold X8_rather_50b at h
  refine lv_iload_n hx hb dX8_rather_50 rfl (lv_at hl 1 rfl) ?_
  refine lv_aload_n hx hb dX8_rather_51 rfl (lv_at hl 0 rfl) ?_
  refine k_get (v := .int (st.1 0 1)) X Y fl_8_78 0 (Nat.le_of_ble_eq_true rfl) rfl rfl dX8_rather_52 ?_
  refine lv_icmp_ge (tgt := 129) hx hb dX8_rather_55 (by decide) (fun c1 => ?_) (fun c1 => ?_)
  · have h := ite_t h c1
    exact w_X8_rather_129 X  h Y  (lv_sub hl [] rfl)
  · have h := ite_f h c1
    refine lv_aload_n hx hb dX8_rather_58 rfl (lv_at hl 0 rfl) ?_
    refine lv_iload_n hx hb dX8_rather_59 rfl (lv_at hl 1 rfl) ?_
    obtain ⟨st3, hc2, h⟩ := bnd1_s h
    refine k_cV Y (k_runV (As := [.int x1]) (rest := []) (o := 0) X Y cl_8_155 (c_X8_findOdds l hc2 _) ⟨rfl, rfl, Nat.le_of_ble_eq_true rfl, Nat.le_of_ble_eq_true rfl⟩ (Nat.le_of_ble_eq_true rfl) rfl rfl hl.1 rfl (Nat.le_of_ble_eq_true rfl) dX8_rather_60 ⟨Nat.zero_le _, Nat.zero_le _⟩) (fun H locs Y => ?_)
    refine lv_aload_n hx hb dX8_rather_63 rfl (lv_at hl 0 rfl) ?_
    refine lv_iload_n hx hb dX8_rather_64 rfl (lv_at hl 1 rfl) ?_
    obtain ⟨st5, hc4, h⟩ := bnd1_s h
    refine k_cV Y (k_runV (As := [.int x1]) (rest := []) (o := 0) X Y cl_8_148 (c_X8_bringFrom l hc4 _) ⟨rfl, rfl, Nat.le_of_ble_eq_true rfl, Nat.le_of_ble_eq_true rfl⟩ (Nat.le_of_ble_eq_true rfl) rfl rfl hl.1 rfl (Nat.le_of_ble_eq_true rfl) dX8_rather_65 ⟨Nat.zero_le _, Nat.zero_le _⟩) (fun H locs Y => ?_)
    refine lv_iconst (v := 0) hx hb dX8_rather_68 (by decide) ?_
    refine lv_istore_n (lv' := [(2, .int 0), (0, .ref (g.2.1 0)), (1, .int x1)]) hx hb dX8_rather_69 rfl hl (by decide) rfl (fun ls hl => ?_)
    exact w_X8_rather_70 X rc50 hrc50  FU 0 st5 _ _ _ h Y (lv_sub hl [1, 2, 0] rfl)
theorem w_X8_rather_50 (X : Cx g p s m args meth c cX8_rather 3 RX8 (some .int))   {r9 : Int32} {st9 : Sg}   : ∀ (k : Nat) (x1 : Int32) (st : Sg) (ls : Array Slot) (H : Heap) (locs : List Loc), X8_rather_50 k x1 st = some (r9, st9) → Hp g nwM (ceM g) A s.heap st H locs → lv_has ls 3 [(0, .ref (g.2.1 0)), (1, .int x1)] → W p l e rm_X8_rather s m args below meth c H locs 0 0 (MQ below (QI g nwM (ceM g) A r9 st9) args s 0 0 A) (F0 m 50 ls []) := by
  intro k
  induction k with
  | zero =>
    intro x1 st ls H locs h
    exact none_s h
  | succ k ih =>
    intro x1 st ls H locs h Y hl
    exact w_X8_rather_50b X  (X8_rather_50 k) ih h Y  hl
set_option maxHeartbeats 4000000 in
set_option maxRecDepth 100000 in
theorem w_X8_rather_48 (X : Cx g p s m args meth c cX8_rather 3 RX8 (some .int))  {st : Sg} {r9 : Int32} {st9 : Sg}  (h : X8_rather_48 st = some (r9, st9)) (Y : Hp g nwM (ceM g) A s.heap st H locs)  (hl : lv_has ls 3 [(0, .ref (g.2.1 0))]) : W p l e rm_X8_rather s m args below meth c H locs 0 0 (MQ below (QI g nwM (ceM g) A r9 st9) args s 0 0 A) (F0 m 48 ls []) := by
  have hx := X.1
  have hb := X.2.1
  unfold X8_rather_48 at h
  refine lv_iconst (v := 0) hx hb dX8_rather_48 (by decide) ?_
  refine lv_istore_n (lv' := [(1, .int 0), (0, .ref (g.2.1 0))]) hx hb dX8_rather_49 rfl hl (by decide) rfl (fun ls hl => ?_)
  exact w_X8_rather_50 X   FU 0 st _ _ _ h Y (lv_sub hl [1, 0] rfl)
set_option maxHeartbeats 4000000 in
set_option maxRecDepth 100000 in
theorem w_X8_rather_22b (X : Cx g p s m args meth c cX8_rather 3 RX8 (some .int)) {x1 : Int32} {st : Sg} {r9 : Int32} {st9 : Sg} (rc22 : Int32 → Sg → Option (Int32 × Sg)) (hrc22 : ∀ (x1 : Int32) (st : Sg) (ls : Array Slot) (H : Heap) (locs : List Loc), rc22 x1 st = some (r9, st9) → Hp g nwM (ceM g) A s.heap st H locs → lv_has ls 3 [(0, .ref (g.2.1 0)), (1, .int x1)] → W p l e rm_X8_rather s m args below meth c H locs 0 0 (MQ below (QI g nwM (ceM g) A r9 st9) args s 0 0 A) (F0 m 22 ls [])) (h : X8_rather_22b rc22 x1 st = some (r9, st9)) (Y : Hp g nwM (ceM g) A s.heap st H locs)  (hl : lv_has ls 3 [(0, .ref (g.2.1 0)), (1, .int x1)]) : W p l e rm_X8_rather s m args below meth c H locs 0 0 (MQ below (QI g nwM (ceM g) A r9 st9) args s 0 0 A) (F0 m 22 ls []) := by
  have hx := X.1
  have hb := X.2.1
  unfold X8_rather_22b at h
  refine lv_iload_n hx hb dX8_rather_22 rfl (lv_at hl 1 rfl) ?_
  refine lv_aload_n hx hb dX8_rather_23 rfl (lv_at hl 0 rfl) ?_
  refine k_get (v := .int (st.1 0 1)) X Y fl_8_78 0 (Nat.le_of_ble_eq_true rfl) rfl rfl dX8_rather_24 ?_
  refine lv_icmp_ge (tgt := 48) hx hb dX8_rather_27 (by decide) (fun c1 => ?_) (fun c1 => ?_)
  · have h := ite_t h c1
    exact w_X8_rather_48 X  h Y  (lv_sub hl [0] rfl)
  · have h := ite_f h c1
    refine lv_aload_n hx hb dX8_rather_30 rfl (lv_at hl 0 rfl) ?_
    refine k_get (v := .ref (g.2.1 11)) X Y fl_8_41 0 (Nat.le_of_ble_eq_true rfl) rfl rfl dX8_rather_31 ?_
    refine lv_iload_n hx hb dX8_rather_34 rfl (lv_at hl 1 rfl) ?_
    refine lv_aload_n hx hb dX8_rather_35 rfl (lv_at hl 0 rfl) ?_
    refine k_get (v := .ref (g.2.1 13)) X Y fl_8_47 0 (Nat.le_of_ble_eq_true rfl) rfl rfl dX8_rather_36 ?_
    refine lv_iload_n hx hb dX8_rather_39 rfl (lv_at hl 1 rfl) ?_
    obtain ⟨i2, h⟩ := cix_s h
    refine k_iald X Y 13 (Nat.le_of_ble_eq_true rfl) (fun _ _ => rfl) i2 dX8_rather_40 ?_
    obtain ⟨i3, h⟩ := cix_s h
    refine k_iast X Y 11 (Nat.le_of_ble_eq_true rfl) (fun _ _ => rfl) i3 dX8_rather_41 (fun H locs Y => ?_)
    obtain ⟨st4, est4, h⟩ := nm_s h
    have Y : Hp g nwM (ceM g) A s.heap st4 H locs := by rw [est4]; exact Y
    obtain ⟨v5, ev5, h⟩ := nm_s h
    refine lv_iinc (v := v5) (lv' := [(1, .int v5), (0, .ref (g.2.1 0))]) hx hb dX8_rather_42 hl (k := 1) rfl (by rw [ev5]; rfl) (by decide) rfl (fun ls hl => ?_)
    refine lv_goto (tgt := 22) hx hb dX8_rather_45 (by decide) ?_
    exact hrc22 v5 st4 _ _ _ h Y (lv_sub hl [1, 0] rfl)
theorem w_X8_rather_22 (X : Cx g p s m args meth c cX8_rather 3 RX8 (some .int))   {r9 : Int32} {st9 : Sg}   : ∀ (k : Nat) (x1 : Int32) (st : Sg) (ls : Array Slot) (H : Heap) (locs : List Loc), X8_rather_22 k x1 st = some (r9, st9) → Hp g nwM (ceM g) A s.heap st H locs → lv_has ls 3 [(0, .ref (g.2.1 0)), (1, .int x1)] → W p l e rm_X8_rather s m args below meth c H locs 0 0 (MQ below (QI g nwM (ceM g) A r9 st9) args s 0 0 A) (F0 m 22 ls []) := by
  intro k
  induction k with
  | zero =>
    intro x1 st ls H locs h
    exact none_s h
  | succ k ih =>
    intro x1 st ls H locs h Y hl
    exact w_X8_rather_22b X  (X8_rather_22 k) ih h Y  hl
set_option maxHeartbeats 4000000 in
set_option maxRecDepth 100000 in
theorem w_X8_rather (X : Cx g p s m args meth c cX8_rather 3 RX8 (some .int))  {st : Sg} {r9 : Int32} {st9 : Sg}  (h : X8_rather st = some (r9, st9)) (Y : Hp g nwM (ceM g) A s.heap st H locs)  (hl : lv_has ls 3 [(0, .ref (g.2.1 0))]) : W p l e rm_X8_rather s m args below meth c H locs 0 0 (MQ below (QI g nwM (ceM g) A r9 st9) args s 0 0 A) (F0 m 0 ls []) := by
  have hx := X.1
  have hb := X.2.1
  unfold X8_rather at h
  refine lv_aload_n hx hb dX8_rather_0 rfl (lv_at hl 0 rfl) ?_
  refine k_get (v := .int (st.1 0 4)) X Y fl_8_96 0 (Nat.le_of_ble_eq_true rfl) rfl rfl dX8_rather_1 ?_
  refine lv_if_ne (tgt := 10) hx hb dX8_rather_4 (by decide) (fun c1 => ?_) (fun c1 => ?_)
  · have h := ite_f h c1
    refine lv_aload_n hx hb dX8_rather_10 rfl (lv_at hl 0 rfl) ?_
    obtain ⟨st3, hc2, h⟩ := bnd1_s h
    refine k_cV Y (k_runV (As := []) (rest := []) (o := 0) X Y cl_8_158 (c_X8_findBest l hc2 _) ⟨rfl, rfl, Nat.le_of_ble_eq_true rfl, Nat.le_of_ble_eq_true rfl⟩ (Nat.le_of_ble_eq_true rfl) rfl rfl hl.1 rfl (Nat.le_of_ble_eq_true rfl) dX8_rather_11 ⟨Nat.zero_le _, Nat.zero_le _⟩) (fun H locs Y => ?_)
    refine lv_aload_n hx hb dX8_rather_14 rfl (lv_at hl 0 rfl) ?_
    refine lv_iconst (v := 0) hx hb dX8_rather_15 (by decide) ?_
    obtain ⟨v6, st5, hc4, h⟩ := bnd2_s h
    refine k_cJ Y (k_runV (As := [.int 0]) (rest := []) (o := 0) X Y cl_8_178 (c_X8_findKept l hc4 _) ⟨rfl, rfl, Nat.le_of_ble_eq_true rfl, Nat.le_of_ble_eq_true rfl⟩ (Nat.le_of_ble_eq_true rfl) rfl rfl hl.1 rfl (Nat.le_of_ble_eq_true rfl) dX8_rather_16 ⟨Nat.zero_le _, Nat.zero_le _⟩) (fun H locs Y => ?_)
    refine lv_pop2_2 hx hb dX8_rather_19 rfl ?_
    refine lv_iconst (v := 0) hx hb dX8_rather_20 (by decide) ?_
    refine lv_istore_n (lv' := [(1, .int 0), (0, .ref (g.2.1 0))]) hx hb dX8_rather_21 rfl hl (by decide) rfl (fun ls hl => ?_)
    exact w_X8_rather_22 X   FU 0 st5 _ _ _ h Y (lv_sub hl [1, 0] rfl)
  · have h := ite_t h c1
    refine lv_bipush (v := (-3)) hx hb dX8_rather_7 (by decide) ?_
    exact k_iretW X Y h dX8_rather_9
theorem c_X8_rather (l : Launch) {g : Gx}  {st : Sg} {r9 : Int32} {st9 : Sg} (h : X8_rather st = some (r9, st9)) : MetI l yX8_rather cX8_rather 3 (some .int) rm_X8_rather g nwM (ceM g) [.ref (g.2.1 0)] st r9 st9 :=
  met_of (Qc := fun A => QI g nwM (ceM g) A r9 st9) (by decide) (Nat.le_of_ble_eq_true rfl) (fun p e s m below meth c A ls X Y hl => w_X8_rather X h Y hl)
def X8_rule_143  (rc19 : Int32 → Int32 → Sg → Option (Int32 × Sg)) (x1 : Int32) (x2 : Int32) (st : Sg) : Option (Int32 × Sg) :=
  nm (x2 + 1) fun v1 =>
  rc19 x1 v1 st
def X8_rule_149   (x1 : Int32) (st : Sg) : Option (Int32 × Sg) :=
  nm (sI st 0 26 x1) fun st1 =>
  nm (sI st1 0 20 0) fun st2 =>
  some (st2.1 0 25, st2)
def X8_rule_19b  (rc19 : Int32 → Int32 → Sg → Option (Int32 × Sg)) (x1 : Int32) (x2 : Int32) (st : Sg) : Option (Int32 × Sg) :=
  if (st.1 0 20) ≤ x2 then
    X8_rule_149 x1 st
  else
    cix x2 40 <|
    nm (st.1 14 x2.toNatClampNeg) fun v3 =>
    bnd1 (X8_in (v3.toInt64) 48 57) fun v5 =>
    if v5 = (0 : Int32) then
      if v3 = (58 : Int32) then
        cix (st.1 0 25) 8 <|
        nm (sI st 17 (st.1 0 25).toNatClampNeg x1) fun st20 =>
        X8_rule_143 rc19 0 x2 st20
      else
        if v3 = (59 : Int32) then
          cix (st.1 0 25) 8 <|
          nm (sI st 18 (st.1 0 25).toNatClampNeg x1) fun st17 =>
          nm (sI st17 0 25 ((st17.1 0 25) + 1)) fun st18 =>
          X8_rule_143 rc19 0 x2 st18
        else
          bnd1 (X8_isHow v3) fun v10 =>
          if v10 = (0 : Int32) then
            cix (st.1 0 25) 8 <|
            nm (sI st 15 (st.1 0 25).toNatClampNeg v3) fun st13 =>
            X8_rule_143 rc19 x1 x2 st13
          else
            cix (st.1 0 25) 8 <|
            nm (sI st 16 (st.1 0 25).toNatClampNeg v3) fun st15 =>
            X8_rule_143 rc19 x1 x2 st15
    else
      nm (((10 * x1) + v3) - 48) fun v21 =>
      X8_rule_143 rc19 v21 x2 st
def X8_rule_19    : Nat → Int32 → Int32 → Sg → Option (Int32 × Sg)
  | 0, _, _, _ => none
  | k + 1, x1, x2, st => X8_rule_19b   (X8_rule_19 k) x1 x2 st
def X8_rule    (st : Sg) : Option (Int32 × Sg) :=
  bnd1 (X8_fault st) fun v2 =>
  if v2 < (0 : Int32) then
    nm (sI st 0 25 0) fun st4 =>
    X8_rule_19 FU 0 0 st4
  else
    some ((-5), st)
abbrev rm_X8_rule : Room := { frames := 3, cells := 0, slots := 0, locals := 70 }
set_option maxHeartbeats 4000000 in
set_option maxRecDepth 100000 in
theorem w_X8_rule_143 (X : Cx g p s m args meth c cX8_rule 4 RX8 (some .int)) {x1 : Int32} {x2 : Int32} {st : Sg} {r9 : Int32} {st9 : Sg} (rc19 : Int32 → Int32 → Sg → Option (Int32 × Sg)) (hrc19 : ∀ (x1 : Int32) (x2 : Int32) (st : Sg) (ls : Array Slot) (H : Heap) (locs : List Loc), rc19 x1 x2 st = some (r9, st9) → Hp g nwM (ceM g) A s.heap st H locs → lv_has ls 4 [(0, .ref (g.2.1 0)), (1, .int x1), (2, .int x2)] → W p l e rm_X8_rule s m args below meth c H locs 0 0 (MQ below (QI g nwM (ceM g) A r9 st9) args s 0 0 A) (F0 m 19 ls [])) (h : X8_rule_143 rc19 x1 x2 st = some (r9, st9)) (Y : Hp g nwM (ceM g) A s.heap st H locs)  (hl : lv_has ls 4 [(0, .ref (g.2.1 0)), (1, .int x1), (2, .int x2)]) : W p l e rm_X8_rule s m args below meth c H locs 0 0 (MQ below (QI g nwM (ceM g) A r9 st9) args s 0 0 A) (F0 m 143 ls []) := by
  have hx := X.1
  have hb := X.2.1
  unfold X8_rule_143 at h
  obtain ⟨v1, ev1, h⟩ := nm_s h
  refine lv_iinc (v := v1) (lv' := [(2, .int v1), (0, .ref (g.2.1 0)), (1, .int x1)]) hx hb dX8_rule_143 hl (k := 2) rfl (by rw [ev1]; rfl) (by decide) rfl (fun ls hl => ?_)
  refine lv_goto (tgt := 19) hx hb dX8_rule_146 (by decide) ?_
  exact hrc19 x1 v1 st _ _ _ h Y (lv_sub hl [1, 2, 0] rfl)
set_option maxHeartbeats 4000000 in
set_option maxRecDepth 100000 in
theorem w_X8_rule_149 (X : Cx g p s m args meth c cX8_rule 4 RX8 (some .int)) {x1 : Int32} {st : Sg} {r9 : Int32} {st9 : Sg}  (h : X8_rule_149 x1 st = some (r9, st9)) (Y : Hp g nwM (ceM g) A s.heap st H locs)  (hl : lv_has ls 4 [(0, .ref (g.2.1 0)), (1, .int x1)]) : W p l e rm_X8_rule s m args below meth c H locs 0 0 (MQ below (QI g nwM (ceM g) A r9 st9) args s 0 0 A) (F0 m 149 ls []) := by
  have hx := X.1
  have hb := X.2.1
  unfold X8_rule_149 at h
  refine lv_aload_n hx hb dX8_rule_149 rfl (lv_at hl 0 rfl) ?_
  refine lv_iload_n hx hb dX8_rule_150 rfl (lv_at hl 1 rfl) ?_
  refine k_putI X Y fl_8_65 0 (Nat.le_of_ble_eq_true rfl) rfl rfl rfl (Nat.le_of_ble_eq_true rfl) rfl dX8_rule_151 (fun H locs Y => ?_)
  obtain ⟨st1, est1, h⟩ := nm_s h
  have Y : Hp g nwM (ceM g) A s.heap st1 H locs := by rw [est1]; exact Y
  refine lv_aload_n hx hb dX8_rule_154 rfl (lv_at hl 0 rfl) ?_
  refine lv_iconst (v := 0) hx hb dX8_rule_155 (by decide) ?_
  refine k_putI X Y fl_8_185 0 (Nat.le_of_ble_eq_true rfl) rfl rfl rfl (Nat.le_of_ble_eq_true rfl) rfl dX8_rule_156 (fun H locs Y => ?_)
  obtain ⟨st2, est2, h⟩ := nm_s h
  have Y : Hp g nwM (ceM g) A s.heap st2 H locs := by rw [est2]; exact Y
  refine lv_aload_n hx hb dX8_rule_159 rfl (lv_at hl 0 rfl) ?_
  refine k_get (v := .int (st2.1 0 25)) X Y fl_8_204 0 (Nat.le_of_ble_eq_true rfl) rfl rfl dX8_rule_160 ?_
  exact k_iretW X Y h dX8_rule_163
set_option maxHeartbeats 4000000 in
set_option maxRecDepth 100000 in
theorem w_X8_rule_19b (X : Cx g p s m args meth c cX8_rule 4 RX8 (some .int)) {x1 : Int32} {x2 : Int32} {st : Sg} {r9 : Int32} {st9 : Sg} (rc19 : Int32 → Int32 → Sg → Option (Int32 × Sg)) (hrc19 : ∀ (x1 : Int32) (x2 : Int32) (st : Sg) (ls : Array Slot) (H : Heap) (locs : List Loc), rc19 x1 x2 st = some (r9, st9) → Hp g nwM (ceM g) A s.heap st H locs → lv_has ls 4 [(0, .ref (g.2.1 0)), (1, .int x1), (2, .int x2)] → W p l e rm_X8_rule s m args below meth c H locs 0 0 (MQ below (QI g nwM (ceM g) A r9 st9) args s 0 0 A) (F0 m 19 ls [])) (h : X8_rule_19b rc19 x1 x2 st = some (r9, st9)) (Y : Hp g nwM (ceM g) A s.heap st H locs)  (hl : lv_has ls 4 [(0, .ref (g.2.1 0)), (1, .int x1), (2, .int x2)]) : W p l e rm_X8_rule s m args below meth c H locs 0 0 (MQ below (QI g nwM (ceM g) A r9 st9) args s 0 0 A) (F0 m 19 ls []) := by
  have hx := X.1
  have hb := X.2.1
  unfold X8_rule_19b at h
  refine lv_iload_n hx hb dX8_rule_19 rfl (lv_at hl 2 rfl) ?_
  refine lv_aload_n hx hb dX8_rule_20 rfl (lv_at hl 0 rfl) ?_
  refine k_get (v := .int (st.1 0 20)) X Y fl_8_185 0 (Nat.le_of_ble_eq_true rfl) rfl rfl dX8_rule_21 ?_
  refine lv_icmp_ge (tgt := 149) hx hb dX8_rule_24 (by decide) (fun c1 => ?_) (fun c1 => ?_)
  · have h := ite_t h c1
    exact w_X8_rule_149 X  h Y  (lv_sub hl [0, 1] rfl)
  · have h := ite_f h c1
    refine lv_aload_n hx hb dX8_rule_27 rfl (lv_at hl 0 rfl) ?_
    refine k_get (v := .ref (g.2.1 14)) X Y fl_8_50 0 (Nat.le_of_ble_eq_true rfl) rfl rfl dX8_rule_28 ?_
    refine lv_iload_n hx hb dX8_rule_31 rfl (lv_at hl 2 rfl) ?_
    obtain ⟨i2, h⟩ := cix_s h
    refine k_iald X Y 14 (Nat.le_of_ble_eq_true rfl) (fun _ _ => rfl) i2 dX8_rule_32 ?_
    obtain ⟨v3, ev3, h⟩ := nm_s h
    refine k_nmI ev3 ?_
    refine lv_istore_n (lv' := [(3, .int v3), (0, .ref (g.2.1 0)), (1, .int x1), (2, .int x2)]) hx hb dX8_rule_33 rfl hl (by decide) rfl (fun ls hl => ?_)
    refine lv_iload_n hx hb dX8_rule_34 rfl (lv_at hl 0 rfl) ?_
    refine lv_i2l hx hb dX8_rule_35 rfl ?_
    refine k_ldc2 X lg_8_188 dX8_rule_36 ?_
    refine k_ldc2 X lg_8_190 dX8_rule_39 ?_
    obtain ⟨v5, hc4, h⟩ := bnd1_s h
    refine k_cI Y (k_runS (As := [.long (v3.toInt64), .long 48, .long 57]) (rest := []) X Y cl_8_83 (c_X8_in l hc4 _) ⟨rfl, rfl, Nat.le_of_ble_eq_true rfl, Nat.le_of_ble_eq_true rfl⟩ rfl hl.1 rfl (Nat.le_of_ble_eq_true rfl) dX8_rule_42 ⟨Nat.zero_le _, Nat.zero_le _⟩) (fun H locs Y => ?_)
    refine lv_if_eq (tgt := 61) hx hb dX8_rule_45 (by decide) (fun c6 => ?_) (fun c6 => ?_)
    · have h := ite_t h c6
      refine lv_iload_n hx hb dX8_rule_61 rfl (lv_at hl 0 rfl) ?_
      refine lv_bipush (v := 58) hx hb dX8_rule_62 (by decide) ?_
      refine lv_icmp_ne (tgt := 82) hx hb dX8_rule_64 (by decide) (fun c7 => ?_) (fun c7 => ?_)
      · have h := ite_f h c7
        refine lv_iload_n hx hb dX8_rule_82 rfl (lv_at hl 0 rfl) ?_
        refine lv_bipush (v := 59) hx hb dX8_rule_83 (by decide) ?_
        refine lv_icmp_ne (tgt := 113) hx hb dX8_rule_85 (by decide) (fun c8 => ?_) (fun c8 => ?_)
        · have h := ite_f h c8
          refine lv_iload_n hx hb dX8_rule_113 rfl (lv_at hl 0 rfl) ?_
          obtain ⟨v10, hc9, h⟩ := bnd1_s h
          refine k_cI Y (k_runS (As := [.int v3]) (rest := []) X Y cl_8_194 (c_X8_isHow l hc9 _) ⟨rfl, rfl, Nat.le_of_ble_eq_true rfl, Nat.le_of_ble_eq_true rfl⟩ rfl hl.1 rfl (Nat.le_of_ble_eq_true rfl) dX8_rule_114 ⟨Nat.zero_le _, Nat.zero_le _⟩) (fun H locs Y => ?_)
          refine lv_if_eq (tgt := 133) hx hb dX8_rule_117 (by decide) (fun c11 => ?_) (fun c11 => ?_)
          · have h := ite_t h c11
            refine lv_aload_n hx hb dX8_rule_133 rfl (lv_at hl 1 rfl) ?_
            refine k_get (v := .ref (g.2.1 15)) X Y fl_8_53 0 (Nat.le_of_ble_eq_true rfl) rfl rfl dX8_rule_134 ?_
            refine lv_aload_n hx hb dX8_rule_137 rfl (lv_at hl 1 rfl) ?_
            refine k_get (v := .int (st.1 0 25)) X Y fl_8_204 0 (Nat.le_of_ble_eq_true rfl) rfl rfl dX8_rule_138 ?_
            refine lv_iload_n hx hb dX8_rule_141 rfl (lv_at hl 0 rfl) ?_
            obtain ⟨i12, h⟩ := cix_s h
            refine k_iast X Y 15 (Nat.le_of_ble_eq_true rfl) (fun _ _ => rfl) i12 dX8_rule_142 (fun H locs Y => ?_)
            obtain ⟨st13, est13, h⟩ := nm_s h
            have Y : Hp g nwM (ceM g) A s.heap st13 H locs := by rw [est13]; exact Y
            exact w_X8_rule_143 X rc19 hrc19 h Y  (lv_sub hl [1, 2, 3] rfl)
          · have h := ite_f h c11
            refine lv_aload_n hx hb dX8_rule_120 rfl (lv_at hl 1 rfl) ?_
            refine k_get (v := .ref (g.2.1 16)) X Y fl_8_56 0 (Nat.le_of_ble_eq_true rfl) rfl rfl dX8_rule_121 ?_
            refine lv_aload_n hx hb dX8_rule_124 rfl (lv_at hl 1 rfl) ?_
            refine k_get (v := .int (st.1 0 25)) X Y fl_8_204 0 (Nat.le_of_ble_eq_true rfl) rfl rfl dX8_rule_125 ?_
            refine lv_iload_n hx hb dX8_rule_128 rfl (lv_at hl 0 rfl) ?_
            obtain ⟨i14, h⟩ := cix_s h
            refine k_iast X Y 16 (Nat.le_of_ble_eq_true rfl) (fun _ _ => rfl) i14 dX8_rule_129 (fun H locs Y => ?_)
            obtain ⟨st15, est15, h⟩ := nm_s h
            have Y : Hp g nwM (ceM g) A s.heap st15 H locs := by rw [est15]; exact Y
            refine lv_goto (tgt := 143) hx hb dX8_rule_130 (by decide) ?_
            exact w_X8_rule_143 X rc19 hrc19 h Y  (lv_sub hl [1, 2, 3] rfl)
        · have h := ite_t h c8
          refine lv_aload_n hx hb dX8_rule_88 rfl (lv_at hl 1 rfl) ?_
          refine k_get (v := .ref (g.2.1 18)) X Y fl_8_62 0 (Nat.le_of_ble_eq_true rfl) rfl rfl dX8_rule_89 ?_
          refine lv_aload_n hx hb dX8_rule_92 rfl (lv_at hl 1 rfl) ?_
          refine k_get (v := .int (st.1 0 25)) X Y fl_8_204 0 (Nat.le_of_ble_eq_true rfl) rfl rfl dX8_rule_93 ?_
          refine lv_iload_n hx hb dX8_rule_96 rfl (lv_at hl 2 rfl) ?_
          obtain ⟨i16, h⟩ := cix_s h
          refine k_iast X Y 18 (Nat.le_of_ble_eq_true rfl) (fun _ _ => rfl) i16 dX8_rule_97 (fun H locs Y => ?_)
          obtain ⟨st17, est17, h⟩ := nm_s h
          have Y : Hp g nwM (ceM g) A s.heap st17 H locs := by rw [est17]; exact Y
          refine lv_aload_n hx hb dX8_rule_98 rfl (lv_at hl 1 rfl) ?_
          refine lv_dup hx hb dX8_rule_99 rfl ?_
          refine k_get (v := .int (st17.1 0 25)) X Y fl_8_204 0 (Nat.le_of_ble_eq_true rfl) rfl rfl dX8_rule_100 ?_
          refine lv_iconst (v := 1) hx hb dX8_rule_103 (by decide) ?_
          refine lv_iadd hx hb dX8_rule_104 ?_
          refine k_putI X Y fl_8_204 0 (Nat.le_of_ble_eq_true rfl) rfl rfl rfl (Nat.le_of_ble_eq_true rfl) rfl dX8_rule_105 (fun H locs Y => ?_)
          obtain ⟨st18, est18, h⟩ := nm_s h
          have Y : Hp g nwM (ceM g) A s.heap st18 H locs := by rw [est18]; exact Y
          refine lv_iconst (v := 0) hx hb dX8_rule_108 (by decide) ?_
          refine lv_istore_n (lv' := [(1, .int 0), (3, .int v3), (0, .ref (g.2.1 0)), (2, .int x2)]) hx hb dX8_rule_109 rfl hl (by decide) rfl (fun ls hl => ?_)
          refine lv_goto (tgt := 143) hx hb dX8_rule_110 (by decide) ?_
          exact w_X8_rule_143 X rc19 hrc19 h Y  (lv_sub hl [2, 0, 3] rfl)
      · have h := ite_t h c7
        refine lv_aload_n hx hb dX8_rule_67 rfl (lv_at hl 1 rfl) ?_
        refine k_get (v := .ref (g.2.1 17)) X Y fl_8_59 0 (Nat.le_of_ble_eq_true rfl) rfl rfl dX8_rule_68 ?_
        refine lv_aload_n hx hb dX8_rule_71 rfl (lv_at hl 1 rfl) ?_
        refine k_get (v := .int (st.1 0 25)) X Y fl_8_204 0 (Nat.le_of_ble_eq_true rfl) rfl rfl dX8_rule_72 ?_
        refine lv_iload_n hx hb dX8_rule_75 rfl (lv_at hl 2 rfl) ?_
        obtain ⟨i19, h⟩ := cix_s h
        refine k_iast X Y 17 (Nat.le_of_ble_eq_true rfl) (fun _ _ => rfl) i19 dX8_rule_76 (fun H locs Y => ?_)
        obtain ⟨st20, est20, h⟩ := nm_s h
        have Y : Hp g nwM (ceM g) A s.heap st20 H locs := by rw [est20]; exact Y
        refine lv_iconst (v := 0) hx hb dX8_rule_77 (by decide) ?_
        refine lv_istore_n (lv' := [(1, .int 0), (3, .int v3), (0, .ref (g.2.1 0)), (2, .int x2)]) hx hb dX8_rule_78 rfl hl (by decide) rfl (fun ls hl => ?_)
        refine lv_goto (tgt := 143) hx hb dX8_rule_79 (by decide) ?_
        exact w_X8_rule_143 X rc19 hrc19 h Y  (lv_sub hl [2, 0, 3] rfl)
    · have h := ite_f h c6
      refine lv_bipush (v := 10) hx hb dX8_rule_48 (by decide) ?_
      refine lv_iload_n hx hb dX8_rule_50 rfl (lv_at hl 2 rfl) ?_
      refine lv_imul hx hb dX8_rule_51 ?_
      refine lv_iload_n hx hb dX8_rule_52 rfl (lv_at hl 0 rfl) ?_
      refine lv_iadd hx hb dX8_rule_53 ?_
      refine lv_bipush (v := 48) hx hb dX8_rule_54 (by decide) ?_
      refine lv_isub hx hb dX8_rule_56 ?_
      obtain ⟨v21, ev21, h⟩ := nm_s h
      refine k_nmI ev21 ?_
      refine lv_istore_n (lv' := [(1, .int v21), (3, .int v3), (0, .ref (g.2.1 0)), (2, .int x2)]) hx hb dX8_rule_57 rfl hl (by decide) rfl (fun ls hl => ?_)
      refine lv_goto (tgt := 143) hx hb dX8_rule_58 (by decide) ?_
      exact w_X8_rule_143 X rc19 hrc19 h Y  (lv_sub hl [2, 0, 3] rfl)
theorem w_X8_rule_19 (X : Cx g p s m args meth c cX8_rule 4 RX8 (some .int))   {r9 : Int32} {st9 : Sg}   : ∀ (k : Nat) (x1 : Int32) (x2 : Int32) (st : Sg) (ls : Array Slot) (H : Heap) (locs : List Loc), X8_rule_19 k x1 x2 st = some (r9, st9) → Hp g nwM (ceM g) A s.heap st H locs → lv_has ls 4 [(0, .ref (g.2.1 0)), (1, .int x1), (2, .int x2)] → W p l e rm_X8_rule s m args below meth c H locs 0 0 (MQ below (QI g nwM (ceM g) A r9 st9) args s 0 0 A) (F0 m 19 ls []) := by
  intro k
  induction k with
  | zero =>
    intro x1 x2 st ls H locs h
    exact none_s h
  | succ k ih =>
    intro x1 x2 st ls H locs h Y hl
    exact w_X8_rule_19b X  (X8_rule_19 k) ih h Y  hl
set_option maxHeartbeats 4000000 in
set_option maxRecDepth 100000 in
theorem w_X8_rule (X : Cx g p s m args meth c cX8_rule 4 RX8 (some .int))  {st : Sg} {r9 : Int32} {st9 : Sg}  (h : X8_rule st = some (r9, st9)) (Y : Hp g nwM (ceM g) A s.heap st H locs)  (hl : lv_has ls 4 [(0, .ref (g.2.1 0))]) : W p l e rm_X8_rule s m args below meth c H locs 0 0 (MQ below (QI g nwM (ceM g) A r9 st9) args s 0 0 A) (F0 m 0 ls []) := by
  have hx := X.1
  have hb := X.2.1
  unfold X8_rule at h
  refine lv_aload_n hx hb dX8_rule_0 rfl (lv_at hl 0 rfl) ?_
  obtain ⟨v2, hc1, h⟩ := bnd1_s h
  refine k_cI Y (k_runV (As := []) (rest := []) (o := 0) X Y cl_8_200 (c_X8_fault l hc1 _) ⟨rfl, rfl, Nat.le_of_ble_eq_true rfl, Nat.le_of_ble_eq_true rfl⟩ (Nat.le_of_ble_eq_true rfl) rfl rfl hl.1 rfl (Nat.le_of_ble_eq_true rfl) dX8_rule_1 ⟨Nat.zero_le _, Nat.zero_le _⟩) (fun H locs Y => ?_)
  refine lv_if_lt (tgt := 10) hx hb dX8_rule_4 (by decide) (fun c3 => ?_) (fun c3 => ?_)
  · have h := ite_t h c3
    refine lv_aload_n hx hb dX8_rule_10 rfl (lv_at hl 0 rfl) ?_
    refine lv_iconst (v := 0) hx hb dX8_rule_11 (by decide) ?_
    refine k_putI X Y fl_8_204 0 (Nat.le_of_ble_eq_true rfl) rfl rfl rfl (Nat.le_of_ble_eq_true rfl) rfl dX8_rule_12 (fun H locs Y => ?_)
    obtain ⟨st4, est4, h⟩ := nm_s h
    have Y : Hp g nwM (ceM g) A s.heap st4 H locs := by rw [est4]; exact Y
    refine lv_iconst (v := 0) hx hb dX8_rule_15 (by decide) ?_
    refine lv_istore_n (lv' := [(1, .int 0), (0, .ref (g.2.1 0))]) hx hb dX8_rule_16 rfl hl (by decide) rfl (fun ls hl => ?_)
    refine lv_iconst (v := 0) hx hb dX8_rule_17 (by decide) ?_
    refine lv_istore_n (lv' := [(2, .int 0), (1, .int 0), (0, .ref (g.2.1 0))]) hx hb dX8_rule_18 rfl hl (by decide) rfl (fun ls hl => ?_)
    exact w_X8_rule_19 X   FU 0 0 st4 _ _ _ h Y (lv_sub hl [2, 1, 0] rfl)
  · have h := ite_f h c3
    refine lv_bipush (v := (-5)) hx hb dX8_rule_7 (by decide) ?_
    exact k_iretW X Y h dX8_rule_9
theorem c_X8_rule (l : Launch) {g : Gx}  {st : Sg} {r9 : Int32} {st9 : Sg} (h : X8_rule st = some (r9, st9)) : MetI l yX8_rule cX8_rule 4 (some .int) rm_X8_rule g nwM (ceM g) [.ref (g.2.1 0)] st r9 st9 :=
  met_of (Qc := fun A => QI g nwM (ceM g) A r9 st9) (by decide) (Nat.le_of_ble_eq_true rfl) (fun p e s m below meth c A ls X Y hl => w_X8_rule X h Y hl)
end LIFT
