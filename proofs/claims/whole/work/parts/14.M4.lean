/-! lifted by program: SaturdaySaleModel.say, SaturdaySaleModel.set, SaturdaySaleModel.sort, SaturdaySaleModel.state, SaturdaySaleModel.told, SaturdaySaleModel.wipe, SaturdaySaleModel.worst, SaturdaySaleModel.worth -/
section LIFT
variable {p : Program} {l : Launch} {e : Env} {s : State} {m : MethodId} {args : Array Value} {below : List Frame} {meth : Method} {c : Code} {g : Gx} {A : Nat → Prop} {H : Heap} {locs : List Loc} {ls : Array Slot}
def X8_say   (x1 : Int32) (st : Sg) : Option (Int32 × Sg) :=
  bnd1 (X8_in (x1.toInt64) 33 126) fun v2 =>
  if v2 = (0 : Int32) then
    some ((-2), st)
  else
    if (st.1 0 20) = (40 : Int32) then
      some ((-4), st)
    else
      cix (st.1 0 20) 40 <|
      nm (sI st 14 (st.1 0 20).toNatClampNeg x1) fun st6 =>
      nm (sI st6 0 20 ((st6.1 0 20) + 1)) fun st7 =>
      some (st7.1 0 20, st7)
abbrev rm_X8_say : Room := { frames := 1, cells := 0, slots := 0, locals := 25 }
set_option maxHeartbeats 4000000 in
set_option maxRecDepth 100000 in
theorem w_X8_say (X : Cx g p s m args meth c cX8_say 2 RX8 (some .int)) {x1 : Int32} {st : Sg} {r9 : Int32} {st9 : Sg}  (h : X8_say x1 st = some (r9, st9)) (Y : Hp g nwM (ceM g) A s.heap st H locs)  (hl : lv_has ls 2 [(0, .ref (g.2.1 0)), (1, .int x1)]) : W p l e rm_X8_say s m args below meth c H locs 0 0 (MQ below (QI g nwM (ceM g) A r9 st9) args s 0 0 A) (F0 m 0 ls []) := by
  have hx := X.1
  have hb := X.2.1
  unfold X8_say at h
  refine lv_iload_n hx hb dX8_say_0 rfl (lv_at hl 1 rfl) ?_
  refine lv_i2l hx hb dX8_say_1 rfl ?_
  refine k_ldc2 X lg_8_181 dX8_say_2 ?_
  refine k_ldc2 X lg_8_183 dX8_say_5 ?_
  obtain ⟨v2, hc1, h⟩ := bnd1_s h
  refine k_cI Y (k_runS (As := [.long (x1.toInt64), .long 33, .long 126]) (rest := []) X Y cl_8_83 (c_X8_in l hc1 _) ⟨rfl, rfl, Nat.le_of_ble_eq_true rfl, Nat.le_of_ble_eq_true rfl⟩ rfl hl.1 rfl (Nat.le_of_ble_eq_true rfl) dX8_say_8 ⟨Nat.zero_le _, Nat.zero_le _⟩) (fun H locs Y => ?_)
  refine lv_if_ne (tgt := 17) hx hb dX8_say_11 (by decide) (fun c3 => ?_) (fun c3 => ?_)
  · have h := ite_f h c3
    refine lv_aload_n hx hb dX8_say_17 rfl (lv_at hl 0 rfl) ?_
    refine k_get (v := .int (st.1 0 20)) X Y fl_8_185 0 (Nat.le_of_ble_eq_true rfl) rfl rfl dX8_say_18 ?_
    refine lv_bipush (v := 40) hx hb dX8_say_21 (by decide) ?_
    refine lv_icmp_ne (tgt := 29) hx hb dX8_say_23 (by decide) (fun c4 => ?_) (fun c4 => ?_)
    · have h := ite_f h c4
      refine lv_aload_n hx hb dX8_say_29 rfl (lv_at hl 0 rfl) ?_
      refine k_get (v := .ref (g.2.1 14)) X Y fl_8_50 0 (Nat.le_of_ble_eq_true rfl) rfl rfl dX8_say_30 ?_
      refine lv_aload_n hx hb dX8_say_33 rfl (lv_at hl 0 rfl) ?_
      refine k_get (v := .int (st.1 0 20)) X Y fl_8_185 0 (Nat.le_of_ble_eq_true rfl) rfl rfl dX8_say_34 ?_
      refine lv_iload_n hx hb dX8_say_37 rfl (lv_at hl 1 rfl) ?_
      obtain ⟨i5, h⟩ := cix_s h
      refine k_iast X Y 14 (Nat.le_of_ble_eq_true rfl) (fun _ _ => rfl) i5 dX8_say_38 (fun H locs Y => ?_)
      obtain ⟨st6, est6, h⟩ := nm_s h
      have Y : Hp g nwM (ceM g) A s.heap st6 H locs := by rw [est6]; exact Y
      refine lv_aload_n hx hb dX8_say_39 rfl (lv_at hl 0 rfl) ?_
      refine lv_dup hx hb dX8_say_40 rfl ?_
      refine k_get (v := .int (st6.1 0 20)) X Y fl_8_185 0 (Nat.le_of_ble_eq_true rfl) rfl rfl dX8_say_41 ?_
      refine lv_iconst (v := 1) hx hb dX8_say_44 (by decide) ?_
      refine lv_iadd hx hb dX8_say_45 ?_
      refine k_putI X Y fl_8_185 0 (Nat.le_of_ble_eq_true rfl) rfl rfl rfl (Nat.le_of_ble_eq_true rfl) rfl dX8_say_46 (fun H locs Y => ?_)
      obtain ⟨st7, est7, h⟩ := nm_s h
      have Y : Hp g nwM (ceM g) A s.heap st7 H locs := by rw [est7]; exact Y
      refine lv_aload_n hx hb dX8_say_49 rfl (lv_at hl 0 rfl) ?_
      refine k_get (v := .int (st7.1 0 20)) X Y fl_8_185 0 (Nat.le_of_ble_eq_true rfl) rfl rfl dX8_say_50 ?_
      exact k_iretW X Y h dX8_say_53
    · have h := ite_t h c4
      refine lv_bipush (v := (-4)) hx hb dX8_say_26 (by decide) ?_
      exact k_iretW X Y h dX8_say_28
  · have h := ite_t h c3
    refine lv_bipush (v := (-2)) hx hb dX8_say_14 (by decide) ?_
    exact k_iretW X Y h dX8_say_16
theorem c_X8_say (l : Launch) {g : Gx} {x1 : Int32} {st : Sg} {r9 : Int32} {st9 : Sg} (h : X8_say x1 st = some (r9, st9)) : MetI l yX8_say cX8_say 2 (some .int) rm_X8_say g nwM (ceM g) [.ref (g.2.1 0), .int x1] st r9 st9 :=
  met_of (Qc := fun A => QI g nwM (ceM g) A r9 st9) (by decide) (Nat.le_of_ble_eq_true rfl) (fun p e s m below meth c A ls X Y hl => w_X8_say X h Y hl)
def X8_set_54    (st : Sg) : Option (Int32 × Sg) :=
  some ((-2), st)
def X8_set_115   (x3 : Int32) (st : Sg) : Option (Int32 × Sg) :=
  some (x3, st)
def X8_set_84   (k0 : Int32) (x1 : Int32) (x2 : Int32) (st : Sg) : Option (Int32 × Sg) :=
  if x1 = (0 : Int32) then
    nm (sI st 0 0 x2) fun st5 =>
    X8_set_115 k0 st5
  else
    if x1 = (1 : Int32) then
      nm (sI st 0 1 x2) fun st4 =>
      X8_set_115 k0 st4
    else
      nm (sI st 0 2 x2) fun st3 =>
      X8_set_115 k0 st3
def X8_set_48   (k0 : Int64) (k1 : Int64) (k2 : Int64) (x1 : Int32) (x2 : Int32) (st : Sg) : Option (Int32 × Sg) :=
  bnd1 (X8_in k0 k1 k2) fun v2 =>
  if v2 = (0 : Int32) then
    X8_set_54 st
  else
    if x1 = (0 : Int32) then
      X8_set_84 (st.1 0 0) x1 x2 st
    else
      if x1 = (1 : Int32) then
        X8_set_84 (st.1 0 1) x1 x2 st
      else
        X8_set_84 (st.1 0 2) x1 x2 st
def X8_set_24   (k0 : Int64) (k1 : Int64) (x1 : Int32) (x2 : Int32) (st : Sg) : Option (Int32 × Sg) :=
  if x1 = (0 : Int32) then
    X8_set_48 k0 k1 12 x1 x2 st
  else
    if x1 = (1 : Int32) then
      X8_set_48 k0 k1 6 x1 x2 st
    else
      X8_set_48 k0 k1 99 x1 x2 st
def X8_set   (x1 : Int32) (x2 : Int32) (st : Sg) : Option (Int32 × Sg) :=
  bnd1 (X8_in (x1.toInt64) 0 2) fun v2 =>
  if v2 = (0 : Int32) then
    X8_set_54 st
  else
    if x1 = (1 : Int32) then
      X8_set_24 (x2.toInt64) 1 x1 x2 st
    else
      X8_set_24 (x2.toInt64) 0 x1 x2 st
abbrev rm_X8_set : Room := { frames := 1, cells := 0, slots := 0, locals := 25 }
set_option maxHeartbeats 4000000 in
set_option maxRecDepth 100000 in
theorem w_X8_set_54 (X : Cx g p s m args meth c cX8_set 4 RX8 (some .int))  {st : Sg} {r9 : Int32} {st9 : Sg}  (h : X8_set_54 st = some (r9, st9)) (Y : Hp g nwM (ceM g) A s.heap st H locs)  (hl : lv_has ls 4 []) : W p l e rm_X8_set s m args below meth c H locs 0 0 (MQ below (QI g nwM (ceM g) A r9 st9) args s 0 0 A) (F0 m 54 ls []) := by
  have hx := X.1
  have hb := X.2.1
  unfold X8_set_54 at h
  refine lv_bipush (v := (-2)) hx hb dX8_set_54 (by decide) ?_
  exact k_iretW X Y h dX8_set_56
set_option maxHeartbeats 4000000 in
set_option maxRecDepth 100000 in
theorem w_X8_set_115 (X : Cx g p s m args meth c cX8_set 4 RX8 (some .int)) {x3 : Int32} {st : Sg} {r9 : Int32} {st9 : Sg}  (h : X8_set_115 x3 st = some (r9, st9)) (Y : Hp g nwM (ceM g) A s.heap st H locs)  (hl : lv_has ls 4 [(3, .int x3)]) : W p l e rm_X8_set s m args below meth c H locs 0 0 (MQ below (QI g nwM (ceM g) A r9 st9) args s 0 0 A) (F0 m 115 ls []) := by
  have hx := X.1
  have hb := X.2.1
  unfold X8_set_115 at h
  refine lv_iload_n hx hb dX8_set_115 rfl (lv_at hl 0 rfl) ?_
  exact k_iretW X Y h dX8_set_116
set_option maxHeartbeats 4000000 in
set_option maxRecDepth 100000 in
theorem w_X8_set_84 (X : Cx g p s m args meth c cX8_set 4 RX8 (some .int)) {k0 : Int32} {x1 : Int32} {x2 : Int32} {st : Sg} {r9 : Int32} {st9 : Sg}  (h : X8_set_84 k0 x1 x2 st = some (r9, st9)) (Y : Hp g nwM (ceM g) A s.heap st H locs)  (hl : lv_has ls 4 [(0, .ref (g.2.1 0)), (1, .int x1), (2, .int x2)]) : W p l e rm_X8_set s m args below meth c H locs 0 0 (MQ below (QI g nwM (ceM g) A r9 st9) args s 0 0 A) (F0 m 84 ls [.int k0]) := by
  have hx := X.1
  have hb := X.2.1
  unfold X8_set_84 at h
  refine lv_istore_n (lv' := [(3, .int k0), (0, .ref (g.2.1 0)), (1, .int x1), (2, .int x2)]) hx hb dX8_set_84 rfl hl (by decide) rfl (fun ls hl => ?_)
  refine lv_iload_n hx hb dX8_set_85 rfl (lv_at hl 2 rfl) ?_
  refine lv_if_ne (tgt := 97) hx hb dX8_set_86 (by decide) (fun c1 => ?_) (fun c1 => ?_)
  · have h := ite_f h c1
    refine lv_iload_n hx hb dX8_set_97 rfl (lv_at hl 2 rfl) ?_
    refine lv_iconst (v := 1) hx hb dX8_set_98 (by decide) ?_
    refine lv_icmp_ne (tgt := 110) hx hb dX8_set_99 (by decide) (fun c2 => ?_) (fun c2 => ?_)
    · have h := ite_f h c2
      refine lv_aload_n hx hb dX8_set_110 rfl (lv_at hl 1 rfl) ?_
      refine lv_iload_n hx hb dX8_set_111 rfl (lv_at hl 3 rfl) ?_
      refine k_putI X Y fl_8_93 0 (Nat.le_of_ble_eq_true rfl) rfl rfl rfl (Nat.le_of_ble_eq_true rfl) rfl dX8_set_112 (fun H locs Y => ?_)
      obtain ⟨st3, est3, h⟩ := nm_s h
      have Y : Hp g nwM (ceM g) A s.heap st3 H locs := by rw [est3]; exact Y
      exact w_X8_set_115 X  h Y  (lv_sub hl [0] rfl)
    · have h := ite_t h c2
      refine lv_aload_n hx hb dX8_set_102 rfl (lv_at hl 1 rfl) ?_
      refine lv_iload_n hx hb dX8_set_103 rfl (lv_at hl 3 rfl) ?_
      refine k_putI X Y fl_8_78 0 (Nat.le_of_ble_eq_true rfl) rfl rfl rfl (Nat.le_of_ble_eq_true rfl) rfl dX8_set_104 (fun H locs Y => ?_)
      obtain ⟨st4, est4, h⟩ := nm_s h
      have Y : Hp g nwM (ceM g) A s.heap st4 H locs := by rw [est4]; exact Y
      refine lv_goto (tgt := 115) hx hb dX8_set_107 (by decide) ?_
      exact w_X8_set_115 X  h Y  (lv_sub hl [0] rfl)
  · have h := ite_t h c1
    refine lv_aload_n hx hb dX8_set_89 rfl (lv_at hl 1 rfl) ?_
    refine lv_iload_n hx hb dX8_set_90 rfl (lv_at hl 3 rfl) ?_
    refine k_putI X Y fl_8_75 0 (Nat.le_of_ble_eq_true rfl) rfl rfl rfl (Nat.le_of_ble_eq_true rfl) rfl dX8_set_91 (fun H locs Y => ?_)
    obtain ⟨st5, est5, h⟩ := nm_s h
    have Y : Hp g nwM (ceM g) A s.heap st5 H locs := by rw [est5]; exact Y
    refine lv_goto (tgt := 115) hx hb dX8_set_94 (by decide) ?_
    exact w_X8_set_115 X  h Y  (lv_sub hl [0] rfl)
set_option maxHeartbeats 4000000 in
set_option maxRecDepth 100000 in
theorem w_X8_set_48 (X : Cx g p s m args meth c cX8_set 4 RX8 (some .int)) {k0 : Int64} {k1 : Int64} {k2 : Int64} {x1 : Int32} {x2 : Int32} {st : Sg} {r9 : Int32} {st9 : Sg}  (h : X8_set_48 k0 k1 k2 x1 x2 st = some (r9, st9)) (Y : Hp g nwM (ceM g) A s.heap st H locs)  (hl : lv_has ls 4 [(0, .ref (g.2.1 0)), (1, .int x1), (2, .int x2)]) : W p l e rm_X8_set s m args below meth c H locs 0 0 (MQ below (QI g nwM (ceM g) A r9 st9) args s 0 0 A) (F0 m 48 ls [.long k2, .long k1, .long k0]) := by
  have hx := X.1
  have hb := X.2.1
  unfold X8_set_48 at h
  obtain ⟨v2, hc1, h⟩ := bnd1_s h
  refine k_cI Y (k_runS (As := [.long k0, .long k1, .long k2]) (rest := []) X Y cl_8_83 (c_X8_in l hc1 _) ⟨rfl, rfl, Nat.le_of_ble_eq_true rfl, Nat.le_of_ble_eq_true rfl⟩ rfl hl.1 rfl (Nat.le_of_ble_eq_true rfl) dX8_set_48 ⟨Nat.zero_le _, Nat.zero_le _⟩) (fun H locs Y => ?_)
  refine lv_if_ne (tgt := 57) hx hb dX8_set_51 (by decide) (fun c3 => ?_) (fun c3 => ?_)
  · have h := ite_f h c3
    refine lv_iload_n hx hb dX8_set_57 rfl (lv_at hl 1 rfl) ?_
    refine lv_if_ne (tgt := 68) hx hb dX8_set_58 (by decide) (fun c4 => ?_) (fun c4 => ?_)
    · have h := ite_f h c4
      refine lv_iload_n hx hb dX8_set_68 rfl (lv_at hl 1 rfl) ?_
      refine lv_iconst (v := 1) hx hb dX8_set_69 (by decide) ?_
      refine lv_icmp_ne (tgt := 80) hx hb dX8_set_70 (by decide) (fun c5 => ?_) (fun c5 => ?_)
      · have h := ite_f h c5
        refine lv_aload_n hx hb dX8_set_80 rfl (lv_at hl 0 rfl) ?_
        refine k_get (v := .int (st.1 0 2)) X Y fl_8_93 0 (Nat.le_of_ble_eq_true rfl) rfl rfl dX8_set_81 ?_
        exact w_X8_set_84 X  h Y  (lv_sub hl [0, 1, 2] rfl)
      · have h := ite_t h c5
        refine lv_aload_n hx hb dX8_set_73 rfl (lv_at hl 0 rfl) ?_
        refine k_get (v := .int (st.1 0 1)) X Y fl_8_78 0 (Nat.le_of_ble_eq_true rfl) rfl rfl dX8_set_74 ?_
        refine lv_goto (tgt := 84) hx hb dX8_set_77 (by decide) ?_
        exact w_X8_set_84 X  h Y  (lv_sub hl [0, 1, 2] rfl)
    · have h := ite_t h c4
      refine lv_aload_n hx hb dX8_set_61 rfl (lv_at hl 0 rfl) ?_
      refine k_get (v := .int (st.1 0 0)) X Y fl_8_75 0 (Nat.le_of_ble_eq_true rfl) rfl rfl dX8_set_62 ?_
      refine lv_goto (tgt := 84) hx hb dX8_set_65 (by decide) ?_
      exact w_X8_set_84 X  h Y  (lv_sub hl [0, 1, 2] rfl)
  · have h := ite_t h c3
    exact w_X8_set_54 X  h Y  (lv_sub hl [] rfl)
set_option maxHeartbeats 4000000 in
set_option maxRecDepth 100000 in
theorem w_X8_set_24 (X : Cx g p s m args meth c cX8_set 4 RX8 (some .int)) {k0 : Int64} {k1 : Int64} {x1 : Int32} {x2 : Int32} {st : Sg} {r9 : Int32} {st9 : Sg}  (h : X8_set_24 k0 k1 x1 x2 st = some (r9, st9)) (Y : Hp g nwM (ceM g) A s.heap st H locs)  (hl : lv_has ls 4 [(0, .ref (g.2.1 0)), (1, .int x1), (2, .int x2)]) : W p l e rm_X8_set s m args below meth c H locs 0 0 (MQ below (QI g nwM (ceM g) A r9 st9) args s 0 0 A) (F0 m 24 ls [.long k1, .long k0]) := by
  have hx := X.1
  have hb := X.2.1
  unfold X8_set_24 at h
  refine lv_iload_n hx hb dX8_set_24 rfl (lv_at hl 1 rfl) ?_
  refine lv_if_ne (tgt := 34) hx hb dX8_set_25 (by decide) (fun c1 => ?_) (fun c1 => ?_)
  · have h := ite_f h c1
    refine lv_iload_n hx hb dX8_set_34 rfl (lv_at hl 1 rfl) ?_
    refine lv_iconst (v := 1) hx hb dX8_set_35 (by decide) ?_
    refine lv_icmp_ne (tgt := 45) hx hb dX8_set_36 (by decide) (fun c2 => ?_) (fun c2 => ?_)
    · have h := ite_f h c2
      refine k_ldc2 X lg_8_91 dX8_set_45 ?_
      exact w_X8_set_48 X  h Y  (lv_sub hl [0, 1, 2] rfl)
    · have h := ite_t h c2
      refine k_ldc2 X lg_8_89 dX8_set_39 ?_
      refine lv_goto (tgt := 48) hx hb dX8_set_42 (by decide) ?_
      exact w_X8_set_48 X  h Y  (lv_sub hl [0, 1, 2] rfl)
  · have h := ite_t h c1
    refine k_ldc2 X lg_8_87 dX8_set_28 ?_
    refine lv_goto (tgt := 48) hx hb dX8_set_31 (by decide) ?_
    exact w_X8_set_48 X  h Y  (lv_sub hl [0, 1, 2] rfl)
set_option maxHeartbeats 4000000 in
set_option maxRecDepth 100000 in
theorem w_X8_set (X : Cx g p s m args meth c cX8_set 4 RX8 (some .int)) {x1 : Int32} {x2 : Int32} {st : Sg} {r9 : Int32} {st9 : Sg}  (h : X8_set x1 x2 st = some (r9, st9)) (Y : Hp g nwM (ceM g) A s.heap st H locs)  (hl : lv_has ls 4 [(0, .ref (g.2.1 0)), (1, .int x1), (2, .int x2)]) : W p l e rm_X8_set s m args below meth c H locs 0 0 (MQ below (QI g nwM (ceM g) A r9 st9) args s 0 0 A) (F0 m 0 ls []) := by
  have hx := X.1
  have hb := X.2.1
  unfold X8_set at h
  refine lv_iload_n hx hb dX8_set_0 rfl (lv_at hl 1 rfl) ?_
  refine lv_i2l hx hb dX8_set_1 rfl ?_
  refine lv_lconst (v := 0) hx hb dX8_set_2 (by decide) ?_
  refine k_ldc2 X lg_8_81 dX8_set_3 ?_
  obtain ⟨v2, hc1, h⟩ := bnd1_s h
  refine k_cI Y (k_runS (As := [.long (x1.toInt64), .long 0, .long 2]) (rest := []) X Y cl_8_83 (c_X8_in l hc1 _) ⟨rfl, rfl, Nat.le_of_ble_eq_true rfl, Nat.le_of_ble_eq_true rfl⟩ rfl hl.1 rfl (Nat.le_of_ble_eq_true rfl) dX8_set_6 ⟨Nat.zero_le _, Nat.zero_le _⟩) (fun H locs Y => ?_)
  refine lv_if_eq (tgt := 54) hx hb dX8_set_9 (by decide) (fun c3 => ?_) (fun c3 => ?_)
  · have h := ite_t h c3
    exact w_X8_set_54 X  h Y  (lv_sub hl [] rfl)
  · have h := ite_f h c3
    refine lv_iload_n hx hb dX8_set_12 rfl (lv_at hl 2 rfl) ?_
    refine lv_i2l hx hb dX8_set_13 rfl ?_
    refine lv_iload_n hx hb dX8_set_14 rfl (lv_at hl 1 rfl) ?_
    refine lv_iconst (v := 1) hx hb dX8_set_15 (by decide) ?_
    refine lv_icmp_ne (tgt := 23) hx hb dX8_set_16 (by decide) (fun c4 => ?_) (fun c4 => ?_)
    · have h := ite_f h c4
      refine lv_lconst (v := 0) hx hb dX8_set_23 (by decide) ?_
      exact w_X8_set_24 X  h Y  (lv_sub hl [0, 1, 2] rfl)
    · have h := ite_t h c4
      refine lv_lconst (v := 1) hx hb dX8_set_19 (by decide) ?_
      refine lv_goto (tgt := 24) hx hb dX8_set_20 (by decide) ?_
      exact w_X8_set_24 X  h Y  (lv_sub hl [0, 1, 2] rfl)
theorem c_X8_set (l : Launch) {g : Gx} {x1 : Int32} {x2 : Int32} {st : Sg} {r9 : Int32} {st9 : Sg} (h : X8_set x1 x2 st = some (r9, st9)) : MetI l yX8_set cX8_set 4 (some .int) rm_X8_set g nwM (ceM g) [.ref (g.2.1 0), .int x1, .int x2] st r9 st9 :=
  met_of (Qc := fun A => QI g nwM (ceM g) A r9 st9) (by decide) (Nat.le_of_ble_eq_true rfl) (fun p e s m below meth c A ls X Y hl => w_X8_set X h Y hl)
def X8_sort_36    (st : Sg) : Option (Int32 × Sg) :=
  some ((-2), st)
def X8_sort   (x1 : Int32) (x2 : Int32) (x3 : Int32) (st : Sg) : Option (Int32 × Sg) :=
  bnd1 (X8_in (x1.toInt64) 0 4) fun v2 =>
  if v2 = (0 : Int32) then
    X8_sort_36 st
  else
    bnd1 (X8_in (x2.toInt64) 0 99) fun v5 =>
    if v5 = (0 : Int32) then
      X8_sort_36 st
    else
      bnd1 (X8_in (x3.toInt64) 0 30) fun v8 =>
      if v8 = (0 : Int32) then
        X8_sort_36 st
      else
        if (st.1 0 9) = (3 : Int32) then
          some ((-4), st)
        else
          cix (st.1 0 9) 3 <|
          nm (sI st 2 (st.1 0 9).toNatClampNeg x1) fun st12 =>
          cix (st12.1 0 9) 3 <|
          nm (sI st12 3 (st12.1 0 9).toNatClampNeg x2) fun st14 =>
          cix (st14.1 0 9) 3 <|
          nm (sI st14 4 (st14.1 0 9).toNatClampNeg x3) fun st16 =>
          cix (st16.1 0 9) 3 <|
          nm (sI st16 5 (st16.1 0 9).toNatClampNeg (-1)) fun st18 =>
          nm (sI st18 0 9 ((st18.1 0 9) + 1)) fun st19 =>
          some ((st19.1 0 9) - 1, st19)
abbrev rm_X8_sort : Room := { frames := 1, cells := 0, slots := 0, locals := 25 }
set_option maxHeartbeats 4000000 in
set_option maxRecDepth 100000 in
theorem w_X8_sort_36 (X : Cx g p s m args meth c cX8_sort 4 RX8 (some .int))  {st : Sg} {r9 : Int32} {st9 : Sg}  (h : X8_sort_36 st = some (r9, st9)) (Y : Hp g nwM (ceM g) A s.heap st H locs)  (hl : lv_has ls 4 []) : W p l e rm_X8_sort s m args below meth c H locs 0 0 (MQ below (QI g nwM (ceM g) A r9 st9) args s 0 0 A) (F0 m 36 ls []) := by
  have hx := X.1
  have hb := X.2.1
  unfold X8_sort_36 at h
  refine lv_bipush (v := (-2)) hx hb dX8_sort_36 (by decide) ?_
  exact k_iretW X Y h dX8_sort_38
set_option maxHeartbeats 4000000 in
set_option maxRecDepth 100000 in
theorem w_X8_sort (X : Cx g p s m args meth c cX8_sort 4 RX8 (some .int)) {x1 : Int32} {x2 : Int32} {x3 : Int32} {st : Sg} {r9 : Int32} {st9 : Sg}  (h : X8_sort x1 x2 x3 st = some (r9, st9)) (Y : Hp g nwM (ceM g) A s.heap st H locs)  (hl : lv_has ls 4 [(0, .ref (g.2.1 0)), (1, .int x1), (2, .int x2), (3, .int x3)]) : W p l e rm_X8_sort s m args below meth c H locs 0 0 (MQ below (QI g nwM (ceM g) A r9 st9) args s 0 0 A) (F0 m 0 ls []) := by
  have hx := X.1
  have hb := X.2.1
  unfold X8_sort at h
  refine lv_iload_n hx hb dX8_sort_0 rfl (lv_at hl 1 rfl) ?_
  refine lv_i2l hx hb dX8_sort_1 rfl ?_
  refine lv_lconst (v := 0) hx hb dX8_sort_2 (by decide) ?_
  refine k_ldc2 X lg_8_99 dX8_sort_3 ?_
  obtain ⟨v2, hc1, h⟩ := bnd1_s h
  refine k_cI Y (k_runS (As := [.long (x1.toInt64), .long 0, .long 4]) (rest := []) X Y cl_8_83 (c_X8_in l hc1 _) ⟨rfl, rfl, Nat.le_of_ble_eq_true rfl, Nat.le_of_ble_eq_true rfl⟩ rfl hl.1 rfl (Nat.le_of_ble_eq_true rfl) dX8_sort_6 ⟨Nat.zero_le _, Nat.zero_le _⟩) (fun H locs Y => ?_)
  refine lv_if_eq (tgt := 36) hx hb dX8_sort_9 (by decide) (fun c3 => ?_) (fun c3 => ?_)
  · have h := ite_t h c3
    exact w_X8_sort_36 X  h Y  (lv_sub hl [] rfl)
  · have h := ite_f h c3
    refine lv_iload_n hx hb dX8_sort_12 rfl (lv_at hl 2 rfl) ?_
    refine lv_i2l hx hb dX8_sort_13 rfl ?_
    refine lv_lconst (v := 0) hx hb dX8_sort_14 (by decide) ?_
    refine k_ldc2 X lg_8_91 dX8_sort_15 ?_
    obtain ⟨v5, hc4, h⟩ := bnd1_s h
    refine k_cI Y (k_runS (As := [.long (x2.toInt64), .long 0, .long 99]) (rest := []) X Y cl_8_83 (c_X8_in l hc4 _) ⟨rfl, rfl, Nat.le_of_ble_eq_true rfl, Nat.le_of_ble_eq_true rfl⟩ rfl hl.1 rfl (Nat.le_of_ble_eq_true rfl) dX8_sort_18 ⟨Nat.zero_le _, Nat.zero_le _⟩) (fun H locs Y => ?_)
    refine lv_if_eq (tgt := 36) hx hb dX8_sort_21 (by decide) (fun c6 => ?_) (fun c6 => ?_)
    · have h := ite_t h c6
      exact w_X8_sort_36 X  h Y  (lv_sub hl [] rfl)
    · have h := ite_f h c6
      refine lv_iload_n hx hb dX8_sort_24 rfl (lv_at hl 3 rfl) ?_
      refine lv_i2l hx hb dX8_sort_25 rfl ?_
      refine lv_lconst (v := 0) hx hb dX8_sort_26 (by decide) ?_
      refine k_ldc2 X lg_8_101 dX8_sort_27 ?_
      obtain ⟨v8, hc7, h⟩ := bnd1_s h
      refine k_cI Y (k_runS (As := [.long (x3.toInt64), .long 0, .long 30]) (rest := []) X Y cl_8_83 (c_X8_in l hc7 _) ⟨rfl, rfl, Nat.le_of_ble_eq_true rfl, Nat.le_of_ble_eq_true rfl⟩ rfl hl.1 rfl (Nat.le_of_ble_eq_true rfl) dX8_sort_30 ⟨Nat.zero_le _, Nat.zero_le _⟩) (fun H locs Y => ?_)
      refine lv_if_ne (tgt := 39) hx hb dX8_sort_33 (by decide) (fun c9 => ?_) (fun c9 => ?_)
      · have h := ite_f h c9
        refine lv_aload_n hx hb dX8_sort_39 rfl (lv_at hl 0 rfl) ?_
        refine k_get (v := .int (st.1 0 9)) X Y fl_8_103 0 (Nat.le_of_ble_eq_true rfl) rfl rfl dX8_sort_40 ?_
        refine lv_iconst (v := 3) hx hb dX8_sort_43 (by decide) ?_
        refine lv_icmp_ne (tgt := 50) hx hb dX8_sort_44 (by decide) (fun c10 => ?_) (fun c10 => ?_)
        · have h := ite_f h c10
          refine lv_aload_n hx hb dX8_sort_50 rfl (lv_at hl 0 rfl) ?_
          refine k_get (v := .ref (g.2.1 2)) X Y fl_8_13 0 (Nat.le_of_ble_eq_true rfl) rfl rfl dX8_sort_51 ?_
          refine lv_aload_n hx hb dX8_sort_54 rfl (lv_at hl 0 rfl) ?_
          refine k_get (v := .int (st.1 0 9)) X Y fl_8_103 0 (Nat.le_of_ble_eq_true rfl) rfl rfl dX8_sort_55 ?_
          refine lv_iload_n hx hb dX8_sort_58 rfl (lv_at hl 1 rfl) ?_
          obtain ⟨i11, h⟩ := cix_s h
          refine k_iast X Y 2 (Nat.le_of_ble_eq_true rfl) (fun _ _ => rfl) i11 dX8_sort_59 (fun H locs Y => ?_)
          obtain ⟨st12, est12, h⟩ := nm_s h
          have Y : Hp g nwM (ceM g) A s.heap st12 H locs := by rw [est12]; exact Y
          refine lv_aload_n hx hb dX8_sort_60 rfl (lv_at hl 0 rfl) ?_
          refine k_get (v := .ref (g.2.1 3)) X Y fl_8_16 0 (Nat.le_of_ble_eq_true rfl) rfl rfl dX8_sort_61 ?_
          refine lv_aload_n hx hb dX8_sort_64 rfl (lv_at hl 0 rfl) ?_
          refine k_get (v := .int (st12.1 0 9)) X Y fl_8_103 0 (Nat.le_of_ble_eq_true rfl) rfl rfl dX8_sort_65 ?_
          refine lv_iload_n hx hb dX8_sort_68 rfl (lv_at hl 2 rfl) ?_
          obtain ⟨i13, h⟩ := cix_s h
          refine k_iast X Y 3 (Nat.le_of_ble_eq_true rfl) (fun _ _ => rfl) i13 dX8_sort_69 (fun H locs Y => ?_)
          obtain ⟨st14, est14, h⟩ := nm_s h
          have Y : Hp g nwM (ceM g) A s.heap st14 H locs := by rw [est14]; exact Y
          refine lv_aload_n hx hb dX8_sort_70 rfl (lv_at hl 0 rfl) ?_
          refine k_get (v := .ref (g.2.1 4)) X Y fl_8_19 0 (Nat.le_of_ble_eq_true rfl) rfl rfl dX8_sort_71 ?_
          refine lv_aload_n hx hb dX8_sort_74 rfl (lv_at hl 0 rfl) ?_
          refine k_get (v := .int (st14.1 0 9)) X Y fl_8_103 0 (Nat.le_of_ble_eq_true rfl) rfl rfl dX8_sort_75 ?_
          refine lv_iload_n hx hb dX8_sort_78 rfl (lv_at hl 3 rfl) ?_
          obtain ⟨i15, h⟩ := cix_s h
          refine k_iast X Y 4 (Nat.le_of_ble_eq_true rfl) (fun _ _ => rfl) i15 dX8_sort_79 (fun H locs Y => ?_)
          obtain ⟨st16, est16, h⟩ := nm_s h
          have Y : Hp g nwM (ceM g) A s.heap st16 H locs := by rw [est16]; exact Y
          refine lv_aload_n hx hb dX8_sort_80 rfl (lv_at hl 0 rfl) ?_
          refine k_get (v := .ref (g.2.1 5)) X Y fl_8_22 0 (Nat.le_of_ble_eq_true rfl) rfl rfl dX8_sort_81 ?_
          refine lv_aload_n hx hb dX8_sort_84 rfl (lv_at hl 0 rfl) ?_
          refine k_get (v := .int (st16.1 0 9)) X Y fl_8_103 0 (Nat.le_of_ble_eq_true rfl) rfl rfl dX8_sort_85 ?_
          refine lv_iconst (v := (-1)) hx hb dX8_sort_88 (by decide) ?_
          obtain ⟨i17, h⟩ := cix_s h
          refine k_iast X Y 5 (Nat.le_of_ble_eq_true rfl) (fun _ _ => rfl) i17 dX8_sort_89 (fun H locs Y => ?_)
          obtain ⟨st18, est18, h⟩ := nm_s h
          have Y : Hp g nwM (ceM g) A s.heap st18 H locs := by rw [est18]; exact Y
          refine lv_aload_n hx hb dX8_sort_90 rfl (lv_at hl 0 rfl) ?_
          refine lv_dup hx hb dX8_sort_91 rfl ?_
          refine k_get (v := .int (st18.1 0 9)) X Y fl_8_103 0 (Nat.le_of_ble_eq_true rfl) rfl rfl dX8_sort_92 ?_
          refine lv_iconst (v := 1) hx hb dX8_sort_95 (by decide) ?_
          refine lv_iadd hx hb dX8_sort_96 ?_
          refine k_putI X Y fl_8_103 0 (Nat.le_of_ble_eq_true rfl) rfl rfl rfl (Nat.le_of_ble_eq_true rfl) rfl dX8_sort_97 (fun H locs Y => ?_)
          obtain ⟨st19, est19, h⟩ := nm_s h
          have Y : Hp g nwM (ceM g) A s.heap st19 H locs := by rw [est19]; exact Y
          refine lv_aload_n hx hb dX8_sort_100 rfl (lv_at hl 0 rfl) ?_
          refine k_get (v := .int (st19.1 0 9)) X Y fl_8_103 0 (Nat.le_of_ble_eq_true rfl) rfl rfl dX8_sort_101 ?_
          refine lv_iconst (v := 1) hx hb dX8_sort_104 (by decide) ?_
          refine lv_isub hx hb dX8_sort_105 ?_
          exact k_iretW X Y h dX8_sort_106
        · have h := ite_t h c10
          refine lv_bipush (v := (-4)) hx hb dX8_sort_47 (by decide) ?_
          exact k_iretW X Y h dX8_sort_49
      · have h := ite_t h c9
        exact w_X8_sort_36 X  h Y  (lv_sub hl [] rfl)
theorem c_X8_sort (l : Launch) {g : Gx} {x1 : Int32} {x2 : Int32} {x3 : Int32} {st : Sg} {r9 : Int32} {st9 : Sg} (h : X8_sort x1 x2 x3 st = some (r9, st9)) : MetI l yX8_sort cX8_sort 4 (some .int) rm_X8_sort g nwM (ceM g) [.ref (g.2.1 0), .int x1, .int x2, .int x3] st r9 st9 :=
  met_of (Qc := fun A => QI g nwM (ceM g) A r9 st9) (by decide) (Nat.le_of_ble_eq_true rfl) (fun p e s m below meth c A ls X Y hl => w_X8_sort X h Y hl)
def X8_state_35    (st : Sg) : Option (Int64 × Sg) :=
  some ((-1000000000000000002), st)
def X8_state   (x1 : Int32) (x2 : Int32) (x3 : Int32) (st : Sg) : Option (Int64 × Sg) :=
  bnd1 (X8_in (x1.toInt64) 0 ((st.1 0 1).toInt64)) fun v2 =>
  if v2 = (0 : Int32) then
    X8_state_35 st
  else
    bnd1 (X8_in (x2.toInt64) 0 ((st.1 0 0).toInt64)) fun v5 =>
    if v5 = (0 : Int32) then
      X8_state_35 st
    else
      bnd1 (X8_isPart x3) fun v8 =>
      if v8 = (0 : Int32) then
        X8_state_35 st
      else
        if (st.1 0 4) = (0 : Int32) then
          some ((-1000000000000000003), st)
        else
          bnd1 (X8_findBest st) fun st12 =>
          cix ((13 * x1) + x2) 91 <|
          bnd1 (X8_power ((st12.1 0 9) * ((st12.1 0 1) - x1))) fun v15 =>
          bnd1 (X8_lowest (st12.2 8 ((13 * x1) + x2).toNatClampNeg) v15 x3) fun v17 =>
          some (v17, st12)
abbrev rm_X8_state : Room := { frames := 3, cells := 0, slots := 0, locals := 72 }
set_option maxHeartbeats 4000000 in
set_option maxRecDepth 100000 in
theorem w_X8_state_35 (X : Cx g p s m args meth c cX8_state 4 RX8 (some .long))  {st : Sg} {r9 : Int64} {st9 : Sg}  (h : X8_state_35 st = some (r9, st9)) (Y : Hp g nwM (ceM g) A s.heap st H locs)  (hl : lv_has ls 4 []) : W p l e rm_X8_state s m args below meth c H locs 0 0 (MQ below (QJ g nwM (ceM g) A r9 st9) args s 0 0 A) (F0 m 35 ls []) := by
  have hx := X.1
  have hb := X.2.1
  unfold X8_state_35 at h
  refine k_ldc2 X lg_8_141 dX8_state_35 ?_
  exact k_lretW X Y h dX8_state_38
set_option maxHeartbeats 4000000 in
set_option maxRecDepth 100000 in
theorem w_X8_state (X : Cx g p s m args meth c cX8_state 4 RX8 (some .long)) {x1 : Int32} {x2 : Int32} {x3 : Int32} {st : Sg} {r9 : Int64} {st9 : Sg}  (h : X8_state x1 x2 x3 st = some (r9, st9)) (Y : Hp g nwM (ceM g) A s.heap st H locs)  (hl : lv_has ls 4 [(0, .ref (g.2.1 0)), (1, .int x1), (2, .int x2), (3, .int x3)]) : W p l e rm_X8_state s m args below meth c H locs 0 0 (MQ below (QJ g nwM (ceM g) A r9 st9) args s 0 0 A) (F0 m 0 ls []) := by
  have hx := X.1
  have hb := X.2.1
  unfold X8_state at h
  refine lv_iload_n hx hb dX8_state_0 rfl (lv_at hl 1 rfl) ?_
  refine lv_i2l hx hb dX8_state_1 rfl ?_
  refine lv_lconst (v := 0) hx hb dX8_state_2 (by decide) ?_
  refine lv_aload_n hx hb dX8_state_3 rfl (lv_at hl 0 rfl) ?_
  refine k_get (v := .int (st.1 0 1)) X Y fl_8_78 0 (Nat.le_of_ble_eq_true rfl) rfl rfl dX8_state_4 ?_
  refine lv_i2l hx hb dX8_state_7 rfl ?_
  obtain ⟨v2, hc1, h⟩ := bnd1_s h
  refine k_cI Y (k_runS (As := [.long (x1.toInt64), .long 0, .long ((st.1 0 1).toInt64)]) (rest := []) X Y cl_8_83 (c_X8_in l hc1 _) ⟨rfl, rfl, Nat.le_of_ble_eq_true rfl, Nat.le_of_ble_eq_true rfl⟩ rfl hl.1 rfl (Nat.le_of_ble_eq_true rfl) dX8_state_8 ⟨Nat.zero_le _, Nat.zero_le _⟩) (fun H locs Y => ?_)
  refine lv_if_eq (tgt := 35) hx hb dX8_state_11 (by decide) (fun c3 => ?_) (fun c3 => ?_)
  · have h := ite_t h c3
    exact w_X8_state_35 X  h Y  (lv_sub hl [] rfl)
  · have h := ite_f h c3
    refine lv_iload_n hx hb dX8_state_14 rfl (lv_at hl 2 rfl) ?_
    refine lv_i2l hx hb dX8_state_15 rfl ?_
    refine lv_lconst (v := 0) hx hb dX8_state_16 (by decide) ?_
    refine lv_aload_n hx hb dX8_state_17 rfl (lv_at hl 0 rfl) ?_
    refine k_get (v := .int (st.1 0 0)) X Y fl_8_75 0 (Nat.le_of_ble_eq_true rfl) rfl rfl dX8_state_18 ?_
    refine lv_i2l hx hb dX8_state_21 rfl ?_
    obtain ⟨v5, hc4, h⟩ := bnd1_s h
    refine k_cI Y (k_runS (As := [.long (x2.toInt64), .long 0, .long ((st.1 0 0).toInt64)]) (rest := []) X Y cl_8_83 (c_X8_in l hc4 _) ⟨rfl, rfl, Nat.le_of_ble_eq_true rfl, Nat.le_of_ble_eq_true rfl⟩ rfl hl.1 rfl (Nat.le_of_ble_eq_true rfl) dX8_state_22 ⟨Nat.zero_le _, Nat.zero_le _⟩) (fun H locs Y => ?_)
    refine lv_if_eq (tgt := 35) hx hb dX8_state_25 (by decide) (fun c6 => ?_) (fun c6 => ?_)
    · have h := ite_t h c6
      exact w_X8_state_35 X  h Y  (lv_sub hl [] rfl)
    · have h := ite_f h c6
      refine lv_iload_n hx hb dX8_state_28 rfl (lv_at hl 3 rfl) ?_
      obtain ⟨v8, hc7, h⟩ := bnd1_s h
      refine k_cI Y (k_runS (As := [.int x3]) (rest := []) X Y cl_8_138 (c_X8_isPart l hc7 _) ⟨rfl, rfl, Nat.le_of_ble_eq_true rfl, Nat.le_of_ble_eq_true rfl⟩ rfl hl.1 rfl (Nat.le_of_ble_eq_true rfl) dX8_state_29 ⟨Nat.zero_le _, Nat.zero_le _⟩) (fun H locs Y => ?_)
      refine lv_if_ne (tgt := 39) hx hb dX8_state_32 (by decide) (fun c9 => ?_) (fun c9 => ?_)
      · have h := ite_f h c9
        refine lv_aload_n hx hb dX8_state_39 rfl (lv_at hl 0 rfl) ?_
        refine k_get (v := .int (st.1 0 4)) X Y fl_8_96 0 (Nat.le_of_ble_eq_true rfl) rfl rfl dX8_state_40 ?_
        refine lv_if_ne (tgt := 50) hx hb dX8_state_43 (by decide) (fun c10 => ?_) (fun c10 => ?_)
        · have h := ite_f h c10
          refine lv_aload_n hx hb dX8_state_50 rfl (lv_at hl 0 rfl) ?_
          obtain ⟨st12, hc11, h⟩ := bnd1_s h
          refine k_cV Y (k_runV (As := []) (rest := []) (o := 0) X Y cl_8_158 (c_X8_findBest l hc11 _) ⟨rfl, rfl, Nat.le_of_ble_eq_true rfl, Nat.le_of_ble_eq_true rfl⟩ (Nat.le_of_ble_eq_true rfl) rfl rfl hl.1 rfl (Nat.le_of_ble_eq_true rfl) dX8_state_51 ⟨Nat.zero_le _, Nat.zero_le _⟩) (fun H locs Y => ?_)
          refine lv_aload_n hx hb dX8_state_54 rfl (lv_at hl 0 rfl) ?_
          refine k_get (v := .ref (g.2.1 8)) X Y fl_8_32 0 (Nat.le_of_ble_eq_true rfl) rfl rfl dX8_state_55 ?_
          refine lv_bipush (v := 13) hx hb dX8_state_58 (by decide) ?_
          refine lv_iload_n hx hb dX8_state_60 rfl (lv_at hl 1 rfl) ?_
          refine lv_imul hx hb dX8_state_61 ?_
          refine lv_iload_n hx hb dX8_state_62 rfl (lv_at hl 2 rfl) ?_
          refine lv_iadd hx hb dX8_state_63 ?_
          obtain ⟨i13, h⟩ := cix_s h
          refine k_lald X Y 8 (Nat.le_of_ble_eq_true rfl) (fun _ _ => rfl) i13 dX8_state_64 ?_
          refine lv_aload_n hx hb dX8_state_65 rfl (lv_at hl 0 rfl) ?_
          refine k_get (v := .int (st12.1 0 9)) X Y fl_8_103 0 (Nat.le_of_ble_eq_true rfl) rfl rfl dX8_state_66 ?_
          refine lv_aload_n hx hb dX8_state_69 rfl (lv_at hl 0 rfl) ?_
          refine k_get (v := .int (st12.1 0 1)) X Y fl_8_78 0 (Nat.le_of_ble_eq_true rfl) rfl rfl dX8_state_70 ?_
          refine lv_iload_n hx hb dX8_state_73 rfl (lv_at hl 1 rfl) ?_
          refine lv_isub hx hb dX8_state_74 ?_
          refine lv_imul hx hb dX8_state_75 ?_
          obtain ⟨v15, hc14, h⟩ := bnd1_s h
          refine k_cJ Y (k_runS (As := [.int ((st12.1 0 9) * ((st12.1 0 1) - x1))]) (rest := [.long (st12.2 8 ((13 * x1) + x2).toNatClampNeg)]) X Y cl_8_161 (c_X8_power l hc14 _) ⟨rfl, rfl, Nat.le_of_ble_eq_true rfl, Nat.le_of_ble_eq_true rfl⟩ rfl hl.1 rfl (Nat.le_of_ble_eq_true rfl) dX8_state_76 ⟨Nat.zero_le _, Nat.zero_le _⟩) (fun H locs Y => ?_)
          refine lv_iload_n hx hb dX8_state_79 rfl (lv_at hl 3 rfl) ?_
          obtain ⟨v17, hc16, h⟩ := bnd1_s h
          refine k_cJ Y (k_runS (As := [.long (st12.2 8 ((13 * x1) + x2).toNatClampNeg), .long v15, .int x3]) (rest := []) X Y cl_8_151 (c_X8_lowest l hc16 _) ⟨rfl, rfl, Nat.le_of_ble_eq_true rfl, Nat.le_of_ble_eq_true rfl⟩ rfl hl.1 rfl (Nat.le_of_ble_eq_true rfl) dX8_state_80 ⟨Nat.zero_le _, Nat.zero_le _⟩) (fun H locs Y => ?_)
          exact k_lretW X Y h dX8_state_83
        · have h := ite_t h c10
          refine k_ldc2 X lg_8_143 dX8_state_46 ?_
          exact k_lretW X Y h dX8_state_49
      · have h := ite_t h c9
        exact w_X8_state_35 X  h Y  (lv_sub hl [] rfl)
theorem c_X8_state (l : Launch) {g : Gx} {x1 : Int32} {x2 : Int32} {x3 : Int32} {st : Sg} {r9 : Int64} {st9 : Sg} (h : X8_state x1 x2 x3 st = some (r9, st9)) : MetJ l yX8_state cX8_state 4 (some .long) rm_X8_state g nwM (ceM g) [.ref (g.2.1 0), .int x1, .int x2, .int x3] st r9 st9 :=
  met_of (Qc := fun A => QJ g nwM (ceM g) A r9 st9) (by decide) (Nat.le_of_ble_eq_true rfl) (fun p e s m below meth c A ls X Y hl => w_X8_state X h Y hl)
def X8_told_63   (k0 : Int32) (st : Sg) : Option Int32 :=
  some k0
def X8_told_115   (k0 : Int32) (st : Sg) : Option Int32 :=
  some k0
def X8_told_113    (st : Sg) : Option Int32 :=
  X8_told_115 (-6) st
def X8_told   (x1 : Int32) (st : Sg) : Option Int32 :=
  bnd1 (X8_in (x1.toInt64) 10 15) fun v2 =>
  if v2 = (0 : Int32) then
    bnd1 (X8_in (x1.toInt64) 20 24) fun v5 =>
    if v5 = (0 : Int32) then
      bnd1 (X8_in (x1.toInt64) 30 32) fun v8 =>
      if v8 = (0 : Int32) then
        if x1 = (0 : Int32) then
          some (st.1 0 0)
        else
          if x1 = (1 : Int32) then
            some (st.1 0 1)
          else
            if x1 = (2 : Int32) then
              some (st.1 0 2)
            else
              if x1 = (3 : Int32) then
                some (st.1 0 4)
              else
                if x1 = (4 : Int32) then
                  some (st.1 0 9)
                else
                  if x1 = (5 : Int32) then
                    some (st.1 0 20)
                  else
                    some (-2)
      else
        if (st.1 0 9) ≤ (x1 - 30) then
          X8_told_113 st
        else
          cix (x1 - 30) 3 <|
          if (st.1 5 (x1 - 30).toNatClampNeg) < (0 : Int32) then
            X8_told_113 st
          else
            cix (x1 - 30) 3 <|
            X8_told_115 (st.1 5 (x1 - 30).toNatClampNeg) st
    else
      if (st.1 0 4) ≤ (x1 - 20) then
        X8_told_63 (-6) st
      else
        cix (x1 - 20) 5 <|
        X8_told_63 (st.1 1 (x1 - 20).toNatClampNeg) st
  else
    cix (x1 - 10) 6 <|
    some (st.1 6 (x1 - 10).toNatClampNeg)
abbrev rm_X8_told : Room := { frames := 1, cells := 0, slots := 0, locals := 25 }
set_option maxHeartbeats 4000000 in
set_option maxRecDepth 100000 in
theorem w_X8_told_63 (X : Cx g p s m args meth c cX8_told 2 RX8 (some .int)) {k0 : Int32} {st : Sg} {r9 : Int32}  (h : X8_told_63 k0 st = some r9) (Y : Hp g nwM (ceM g) A s.heap st H locs)  (hl : lv_has ls 2 []) : W p l e rm_X8_told s m args below meth c H locs 0 0 (MQ below (QI g nwM (ceM g) A r9 st) args s 0 0 A) (F0 m 63 ls [.int k0]) := by
  have hx := X.1
  have hb := X.2.1
  unfold X8_told_63 at h
  exact k_iretR X Y h dX8_told_63
set_option maxHeartbeats 4000000 in
set_option maxRecDepth 100000 in
theorem w_X8_told_115 (X : Cx g p s m args meth c cX8_told 2 RX8 (some .int)) {k0 : Int32} {st : Sg} {r9 : Int32}  (h : X8_told_115 k0 st = some r9) (Y : Hp g nwM (ceM g) A s.heap st H locs)  (hl : lv_has ls 2 []) : W p l e rm_X8_told s m args below meth c H locs 0 0 (MQ below (QI g nwM (ceM g) A r9 st) args s 0 0 A) (F0 m 115 ls [.int k0]) := by
  have hx := X.1
  have hb := X.2.1
  unfold X8_told_115 at h
  exact k_iretR X Y h dX8_told_115
set_option maxHeartbeats 4000000 in
set_option maxRecDepth 100000 in
theorem w_X8_told_113 (X : Cx g p s m args meth c cX8_told 2 RX8 (some .int))  {st : Sg} {r9 : Int32}  (h : X8_told_113 st = some r9) (Y : Hp g nwM (ceM g) A s.heap st H locs)  (hl : lv_has ls 2 []) : W p l e rm_X8_told s m args below meth c H locs 0 0 (MQ below (QI g nwM (ceM g) A r9 st) args s 0 0 A) (F0 m 113 ls []) := by
  have hx := X.1
  have hb := X.2.1
  unfold X8_told_113 at h
  refine lv_bipush (v := (-6)) hx hb dX8_told_113 (by decide) ?_
  exact w_X8_told_115 X  h Y  (lv_sub hl [] rfl)
set_option maxHeartbeats 4000000 in
set_option maxRecDepth 100000 in
theorem w_X8_told (X : Cx g p s m args meth c cX8_told 2 RX8 (some .int)) {x1 : Int32} {st : Sg} {r9 : Int32}  (h : X8_told x1 st = some r9) (Y : Hp g nwM (ceM g) A s.heap st H locs)  (hl : lv_has ls 2 [(0, .ref (g.2.1 0)), (1, .int x1)]) : W p l e rm_X8_told s m args below meth c H locs 0 0 (MQ below (QI g nwM (ceM g) A r9 st) args s 0 0 A) (F0 m 0 ls []) := by
  have hx := X.1
  have hb := X.2.1
  unfold X8_told at h
  refine lv_iload_n hx hb dX8_told_0 rfl (lv_at hl 1 rfl) ?_
  refine lv_i2l hx hb dX8_told_1 rfl ?_
  refine k_ldc2 X lg_8_219 dX8_told_2 ?_
  refine k_ldc2 X lg_8_221 dX8_told_5 ?_
  obtain ⟨v2, hc1, h⟩ := bnd1_s h
  refine k_cI Y (k_runS (As := [.long (x1.toInt64), .long 10, .long 15]) (rest := []) X Y cl_8_83 (c_X8_in l hc1 _) ⟨rfl, rfl, Nat.le_of_ble_eq_true rfl, Nat.le_of_ble_eq_true rfl⟩ rfl hl.1 rfl (Nat.le_of_ble_eq_true rfl) dX8_told_8 ⟨Nat.zero_le _, Nat.zero_le _⟩) (fun H locs Y => ?_)
  refine lv_if_eq (tgt := 24) hx hb dX8_told_11 (by decide) (fun c3 => ?_) (fun c3 => ?_)
  · have h := ite_t h c3
    refine lv_iload_n hx hb dX8_told_24 rfl (lv_at hl 1 rfl) ?_
    refine lv_i2l hx hb dX8_told_25 rfl ?_
    refine k_ldc2 X lg_8_223 dX8_told_26 ?_
    refine k_ldc2 X lg_8_225 dX8_told_29 ?_
    obtain ⟨v5, hc4, h⟩ := bnd1_s h
    refine k_cI Y (k_runS (As := [.long (x1.toInt64), .long 20, .long 24]) (rest := []) X Y cl_8_83 (c_X8_in l hc4 _) ⟨rfl, rfl, Nat.le_of_ble_eq_true rfl, Nat.le_of_ble_eq_true rfl⟩ rfl hl.1 rfl (Nat.le_of_ble_eq_true rfl) dX8_told_32 ⟨Nat.zero_le _, Nat.zero_le _⟩) (fun H locs Y => ?_)
    refine lv_if_eq (tgt := 64) hx hb dX8_told_35 (by decide) (fun c6 => ?_) (fun c6 => ?_)
    · have h := ite_t h c6
      refine lv_iload_n hx hb dX8_told_64 rfl (lv_at hl 1 rfl) ?_
      refine lv_i2l hx hb dX8_told_65 rfl ?_
      refine k_ldc2 X lg_8_101 dX8_told_66 ?_
      refine k_ldc2 X lg_8_227 dX8_told_69 ?_
      obtain ⟨v8, hc7, h⟩ := bnd1_s h
      refine k_cI Y (k_runS (As := [.long (x1.toInt64), .long 30, .long 32]) (rest := []) X Y cl_8_83 (c_X8_in l hc7 _) ⟨rfl, rfl, Nat.le_of_ble_eq_true rfl, Nat.le_of_ble_eq_true rfl⟩ rfl hl.1 rfl (Nat.le_of_ble_eq_true rfl) dX8_told_72 ⟨Nat.zero_le _, Nat.zero_le _⟩) (fun H locs Y => ?_)
      refine lv_if_eq (tgt := 116) hx hb dX8_told_75 (by decide) (fun c9 => ?_) (fun c9 => ?_)
      · have h := ite_t h c9
        refine lv_iload_n hx hb dX8_told_116 rfl (lv_at hl 1 rfl) ?_
        by_cases c10 : x1 = (0 : Int32)
        · have h := ite_t h c10
          refine lv_tableIn (tgt := 156) hx hb dX8_told_117 (by rw [c10]; decide) (by rw [c10]; decide) (by rw [c10]; rfl) (by decide) ?_
          refine lv_aload_n hx hb dX8_told_156 rfl (lv_at hl 0 rfl) ?_
          refine k_get (v := .int (st.1 0 0)) X Y fl_8_75 0 (Nat.le_of_ble_eq_true rfl) rfl rfl dX8_told_157 ?_
          exact k_iretR X Y h dX8_told_160
        · have h := ite_f h c10
          by_cases c11 : x1 = (1 : Int32)
          · have h := ite_t h c11
            refine lv_tableIn (tgt := 161) hx hb dX8_told_117 (by rw [c11]; decide) (by rw [c11]; decide) (by rw [c11]; rfl) (by decide) ?_
            refine lv_aload_n hx hb dX8_told_161 rfl (lv_at hl 0 rfl) ?_
            refine k_get (v := .int (st.1 0 1)) X Y fl_8_78 0 (Nat.le_of_ble_eq_true rfl) rfl rfl dX8_told_162 ?_
            exact k_iretR X Y h dX8_told_165
          · have h := ite_f h c11
            by_cases c12 : x1 = (2 : Int32)
            · have h := ite_t h c12
              refine lv_tableIn (tgt := 166) hx hb dX8_told_117 (by rw [c12]; decide) (by rw [c12]; decide) (by rw [c12]; rfl) (by decide) ?_
              refine lv_aload_n hx hb dX8_told_166 rfl (lv_at hl 0 rfl) ?_
              refine k_get (v := .int (st.1 0 2)) X Y fl_8_93 0 (Nat.le_of_ble_eq_true rfl) rfl rfl dX8_told_167 ?_
              exact k_iretR X Y h dX8_told_170
            · have h := ite_f h c12
              by_cases c13 : x1 = (3 : Int32)
              · have h := ite_t h c13
                refine lv_tableIn (tgt := 171) hx hb dX8_told_117 (by rw [c13]; decide) (by rw [c13]; decide) (by rw [c13]; rfl) (by decide) ?_
                refine lv_aload_n hx hb dX8_told_171 rfl (lv_at hl 0 rfl) ?_
                refine k_get (v := .int (st.1 0 4)) X Y fl_8_96 0 (Nat.le_of_ble_eq_true rfl) rfl rfl dX8_told_172 ?_
                exact k_iretR X Y h dX8_told_175
              · have h := ite_f h c13
                by_cases c14 : x1 = (4 : Int32)
                · have h := ite_t h c14
                  refine lv_tableIn (tgt := 176) hx hb dX8_told_117 (by rw [c14]; decide) (by rw [c14]; decide) (by rw [c14]; rfl) (by decide) ?_
                  refine lv_aload_n hx hb dX8_told_176 rfl (lv_at hl 0 rfl) ?_
                  refine k_get (v := .int (st.1 0 9)) X Y fl_8_103 0 (Nat.le_of_ble_eq_true rfl) rfl rfl dX8_told_177 ?_
                  exact k_iretR X Y h dX8_told_180
                · have h := ite_f h c14
                  by_cases c15 : x1 = (5 : Int32)
                  · have h := ite_t h c15
                    refine lv_tableIn (tgt := 181) hx hb dX8_told_117 (by rw [c15]; decide) (by rw [c15]; decide) (by rw [c15]; rfl) (by decide) ?_
                    refine lv_aload_n hx hb dX8_told_181 rfl (lv_at hl 0 rfl) ?_
                    refine k_get (v := .int (st.1 0 20)) X Y fl_8_185 0 (Nat.le_of_ble_eq_true rfl) rfl rfl dX8_told_182 ?_
                    exact k_iretR X Y h dX8_told_185
                  · have h := ite_f h c15
                    refine lv_tableOut (tgt := 186) hx hb dX8_told_117 (by have q0 := lv_neT c10 (a := 0) (by decide); have q1 := lv_neT c11 (a := 1) (by decide); have q2 := lv_neT c12 (a := 2) (by decide); have q3 := lv_neT c13 (a := 3) (by decide); have q4 := lv_neT c14 (a := 4) (by decide); have q5 := lv_neT c15 (a := 5) (by decide); omega) (by decide) ?_
                    refine lv_bipush (v := (-2)) hx hb dX8_told_186 (by decide) ?_
                    exact k_iretR X Y h dX8_told_188
      · have h := ite_f h c9
        refine lv_iload_n hx hb dX8_told_78 rfl (lv_at hl 1 rfl) ?_
        refine lv_bipush (v := 30) hx hb dX8_told_79 (by decide) ?_
        refine lv_isub hx hb dX8_told_81 ?_
        refine lv_aload_n hx hb dX8_told_82 rfl (lv_at hl 0 rfl) ?_
        refine k_get (v := .int (st.1 0 9)) X Y fl_8_103 0 (Nat.le_of_ble_eq_true rfl) rfl rfl dX8_told_83 ?_
        refine lv_icmp_ge (tgt := 113) hx hb dX8_told_86 (by decide) (fun c16 => ?_) (fun c16 => ?_)
        · have h := ite_t h c16
          exact w_X8_told_113 X  h Y  (lv_sub hl [] rfl)
        · have h := ite_f h c16
          refine lv_aload_n hx hb dX8_told_89 rfl (lv_at hl 0 rfl) ?_
          refine k_get (v := .ref (g.2.1 5)) X Y fl_8_22 0 (Nat.le_of_ble_eq_true rfl) rfl rfl dX8_told_90 ?_
          refine lv_iload_n hx hb dX8_told_93 rfl (lv_at hl 1 rfl) ?_
          refine lv_bipush (v := 30) hx hb dX8_told_94 (by decide) ?_
          refine lv_isub hx hb dX8_told_96 ?_
          obtain ⟨i17, h⟩ := cix_s h
          refine k_iald X Y 5 (Nat.le_of_ble_eq_true rfl) (fun _ _ => rfl) i17 dX8_told_97 ?_
          refine lv_if_lt (tgt := 113) hx hb dX8_told_98 (by decide) (fun c18 => ?_) (fun c18 => ?_)
          · have h := ite_t h c18
            exact w_X8_told_113 X  h Y  (lv_sub hl [] rfl)
          · have h := ite_f h c18
            refine lv_aload_n hx hb dX8_told_101 rfl (lv_at hl 0 rfl) ?_
            refine k_get (v := .ref (g.2.1 5)) X Y fl_8_22 0 (Nat.le_of_ble_eq_true rfl) rfl rfl dX8_told_102 ?_
            refine lv_iload_n hx hb dX8_told_105 rfl (lv_at hl 1 rfl) ?_
            refine lv_bipush (v := 30) hx hb dX8_told_106 (by decide) ?_
            refine lv_isub hx hb dX8_told_108 ?_
            obtain ⟨i19, h⟩ := cix_s h
            refine k_iald X Y 5 (Nat.le_of_ble_eq_true rfl) (fun _ _ => rfl) i19 dX8_told_109 ?_
            refine lv_goto (tgt := 115) hx hb dX8_told_110 (by decide) ?_
            exact w_X8_told_115 X  h Y  (lv_sub hl [] rfl)
    · have h := ite_f h c6
      refine lv_iload_n hx hb dX8_told_38 rfl (lv_at hl 1 rfl) ?_
      refine lv_bipush (v := 20) hx hb dX8_told_39 (by decide) ?_
      refine lv_isub hx hb dX8_told_41 ?_
      refine lv_aload_n hx hb dX8_told_42 rfl (lv_at hl 0 rfl) ?_
      refine k_get (v := .int (st.1 0 4)) X Y fl_8_96 0 (Nat.le_of_ble_eq_true rfl) rfl rfl dX8_told_43 ?_
      refine lv_icmp_ge (tgt := 61) hx hb dX8_told_46 (by decide) (fun c20 => ?_) (fun c20 => ?_)
      · have h := ite_t h c20
        refine lv_bipush (v := (-6)) hx hb dX8_told_61 (by decide) ?_
        exact w_X8_told_63 X  h Y  (lv_sub hl [] rfl)
      · have h := ite_f h c20
        refine lv_aload_n hx hb dX8_told_49 rfl (lv_at hl 0 rfl) ?_
        refine k_get (v := .ref (g.2.1 1)) X Y fl_8_7 0 (Nat.le_of_ble_eq_true rfl) rfl rfl dX8_told_50 ?_
        refine lv_iload_n hx hb dX8_told_53 rfl (lv_at hl 1 rfl) ?_
        refine lv_bipush (v := 20) hx hb dX8_told_54 (by decide) ?_
        refine lv_isub hx hb dX8_told_56 ?_
        obtain ⟨i21, h⟩ := cix_s h
        refine k_iald X Y 1 (Nat.le_of_ble_eq_true rfl) (fun _ _ => rfl) i21 dX8_told_57 ?_
        refine lv_goto (tgt := 63) hx hb dX8_told_58 (by decide) ?_
        exact w_X8_told_63 X  h Y  (lv_sub hl [] rfl)
  · have h := ite_f h c3
    refine lv_aload_n hx hb dX8_told_14 rfl (lv_at hl 0 rfl) ?_
    refine k_get (v := .ref (g.2.1 6)) X Y fl_8_25 0 (Nat.le_of_ble_eq_true rfl) rfl rfl dX8_told_15 ?_
    refine lv_iload_n hx hb dX8_told_18 rfl (lv_at hl 1 rfl) ?_
    refine lv_bipush (v := 10) hx hb dX8_told_19 (by decide) ?_
    refine lv_isub hx hb dX8_told_21 ?_
    obtain ⟨i22, h⟩ := cix_s h
    refine k_iald X Y 6 (Nat.le_of_ble_eq_true rfl) (fun _ _ => rfl) i22 dX8_told_22 ?_
    exact k_iretR X Y h dX8_told_23
theorem c_X8_told (l : Launch) {g : Gx} {x1 : Int32} {st : Sg} {r9 : Int32} (h : X8_told x1 st = some r9) : MetI l yX8_told cX8_told 2 (some .int) rm_X8_told g nwM (ceM g) [.ref (g.2.1 0), .int x1] st r9 st :=
  met_of (Qc := fun A => QI g nwM (ceM g) A r9 st) (by decide) (Nat.le_of_ble_eq_true rfl) (fun p e s m below meth c A ls X Y hl => w_X8_told X h Y hl)
def X8_wipe    (st : Sg) : Option (Int32 × Sg) :=
  nm (st.1 0 20) fun v1 =>
  nm (sI st 0 20 0) fun st2 =>
  some (v1, st2)
abbrev rm_X8_wipe : Room := { frames := 0, cells := 0, slots := 0, locals := 0 }
set_option maxHeartbeats 4000000 in
set_option maxRecDepth 100000 in
theorem w_X8_wipe (X : Cx g p s m args meth c cX8_wipe 2 RX8 (some .int))  {st : Sg} {r9 : Int32} {st9 : Sg}  (h : X8_wipe st = some (r9, st9)) (Y : Hp g nwM (ceM g) A s.heap st H locs)  (hl : lv_has ls 2 [(0, .ref (g.2.1 0))]) : W p l e rm_X8_wipe s m args below meth c H locs 0 0 (MQ below (QI g nwM (ceM g) A r9 st9) args s 0 0 A) (F0 m 0 ls []) := by
  have hx := X.1
  have hb := X.2.1
  unfold X8_wipe at h
  refine lv_aload_n hx hb dX8_wipe_0 rfl (lv_at hl 0 rfl) ?_
  refine k_get (v := .int (st.1 0 20)) X Y fl_8_185 0 (Nat.le_of_ble_eq_true rfl) rfl rfl dX8_wipe_1 ?_
  obtain ⟨v1, ev1, h⟩ := nm_s h
  refine k_nmI ev1 ?_
  refine lv_istore_n (lv' := [(1, .int v1), (0, .ref (g.2.1 0))]) hx hb dX8_wipe_4 rfl hl (by decide) rfl (fun ls hl => ?_)
  refine lv_aload_n hx hb dX8_wipe_5 rfl (lv_at hl 1 rfl) ?_
  refine lv_iconst (v := 0) hx hb dX8_wipe_6 (by decide) ?_
  refine k_putI X Y fl_8_185 0 (Nat.le_of_ble_eq_true rfl) rfl rfl rfl (Nat.le_of_ble_eq_true rfl) rfl dX8_wipe_7 (fun H locs Y => ?_)
  obtain ⟨st2, est2, h⟩ := nm_s h
  have Y : Hp g nwM (ceM g) A s.heap st2 H locs := by rw [est2]; exact Y
  refine lv_iload_n hx hb dX8_wipe_10 rfl (lv_at hl 0 rfl) ?_
  exact k_iretW X Y h dX8_wipe_11
theorem c_X8_wipe (l : Launch) {g : Gx}  {st : Sg} {r9 : Int32} {st9 : Sg} (h : X8_wipe st = some (r9, st9)) : MetI l yX8_wipe cX8_wipe 2 (some .int) rm_X8_wipe g nwM (ceM g) [.ref (g.2.1 0)] st r9 st9 :=
  met_of (Qc := fun A => QI g nwM (ceM g) A r9 st9) (by decide) (Nat.le_of_ble_eq_true rfl) (fun p e s m below meth c A ls X Y hl => w_X8_wipe X h Y hl)
def X8_worst_63  (rc22 : Int32 → Int32 → Sg → Option (Int32 × Sg)) (k0 : Int32) (x2 : Int32) (st : Sg) : Option (Int32 × Sg) :=
  nm (x2 + 1) fun v1 =>
  rc22 k0 v1 st
def X8_worst_70   (x1 : Int32) (st : Sg) : Option (Int32 × Sg) :=
  some (x1, st)
def X8_worst_22b  (rc22 : Int32 → Int32 → Sg → Option (Int32 × Sg)) (x1 : Int32) (x2 : Int32) (st : Sg) : Option (Int32 × Sg) :=
  if (12 : Int32) < x2 then
    X8_worst_70 x1 st
  else
    cix x2 91 <|
    cix x2 13 <|
    cix x1 91 <|
    cix x1 13 <|
    if (lg_cmp ((st.2 8 x2.toNatClampNeg) - (st.2 19 x2.toNatClampNeg)) ((st.2 8 x1.toNatClampNeg) - (st.2 19 x1.toNatClampNeg))) ≤ (0 : Int32) then
      X8_worst_63 rc22 x1 x2 st
    else
      X8_worst_63 rc22 x2 x2 st
def X8_worst_22    : Nat → Int32 → Int32 → Sg → Option (Int32 × Sg)
  | 0, _, _, _ => none
  | k + 1, x1, x2, st => X8_worst_22b   (X8_worst_22 k) x1 x2 st
def X8_worst    (st : Sg) : Option (Int32 × Sg) :=
  bnd1 (X8_isReady st) fun v2 =>
  if v2 = (0 : Int32) then
    some ((-3), st)
  else
    bnd1 (X8_findBest st) fun st5 =>
    bnd1 (X8_findBoy st5) fun st7 =>
    X8_worst_22 FU 1 2 st7
abbrev rm_X8_worst : Room := { frames := 3, cells := 0, slots := 0, locals := 72 }
set_option maxHeartbeats 4000000 in
set_option maxRecDepth 100000 in
theorem w_X8_worst_63 (X : Cx g p s m args meth c cX8_worst 3 RX8 (some .int)) {k0 : Int32} {x2 : Int32} {st : Sg} {r9 : Int32} {st9 : Sg} (rc22 : Int32 → Int32 → Sg → Option (Int32 × Sg)) (hrc22 : ∀ (x1 : Int32) (x2 : Int32) (st : Sg) (ls : Array Slot) (H : Heap) (locs : List Loc), rc22 x1 x2 st = some (r9, st9) → Hp g nwM (ceM g) A s.heap st H locs → lv_has ls 3 [(0, .ref (g.2.1 0)), (1, .int x1), (2, .int x2)] → W p l e rm_X8_worst s m args below meth c H locs 0 0 (MQ below (QI g nwM (ceM g) A r9 st9) args s 0 0 A) (F0 m 22 ls [])) (h : X8_worst_63 rc22 k0 x2 st = some (r9, st9)) (Y : Hp g nwM (ceM g) A s.heap st H locs)  (hl : lv_has ls 3 [(0, .ref (g.2.1 0)), (2, .int x2)]) : W p l e rm_X8_worst s m args below meth c H locs 0 0 (MQ below (QI g nwM (ceM g) A r9 st9) args s 0 0 A) (F0 m 63 ls [.int k0]) := by
  have hx := X.1
  have hb := X.2.1
  unfold X8_worst_63 at h
  refine lv_istore_n (lv' := [(1, .int k0), (0, .ref (g.2.1 0)), (2, .int x2)]) hx hb dX8_worst_63 rfl hl (by decide) rfl (fun ls hl => ?_)
  obtain ⟨v1, ev1, h⟩ := nm_s h
  refine lv_iinc (v := v1) (lv' := [(2, .int v1), (1, .int k0), (0, .ref (g.2.1 0))]) hx hb dX8_worst_64 hl (k := 2) rfl (by rw [ev1]; rfl) (by decide) rfl (fun ls hl => ?_)
  refine lv_goto (tgt := 22) hx hb dX8_worst_67 (by decide) ?_
  exact hrc22 k0 v1 st _ _ _ h Y (lv_sub hl [2, 1, 0] rfl)
set_option maxHeartbeats 4000000 in
set_option maxRecDepth 100000 in
theorem w_X8_worst_70 (X : Cx g p s m args meth c cX8_worst 3 RX8 (some .int)) {x1 : Int32} {st : Sg} {r9 : Int32} {st9 : Sg}  (h : X8_worst_70 x1 st = some (r9, st9)) (Y : Hp g nwM (ceM g) A s.heap st H locs)  (hl : lv_has ls 3 [(1, .int x1)]) : W p l e rm_X8_worst s m args below meth c H locs 0 0 (MQ below (QI g nwM (ceM g) A r9 st9) args s 0 0 A) (F0 m 70 ls []) := by
  have hx := X.1
  have hb := X.2.1
  unfold X8_worst_70 at h
  refine lv_iload_n hx hb dX8_worst_70 rfl (lv_at hl 0 rfl) ?_
  exact k_iretW X Y h dX8_worst_71
set_option maxHeartbeats 4000000 in
set_option maxRecDepth 100000 in
theorem w_X8_worst_22b (X : Cx g p s m args meth c cX8_worst 3 RX8 (some .int)) {x1 : Int32} {x2 : Int32} {st : Sg} {r9 : Int32} {st9 : Sg} (rc22 : Int32 → Int32 → Sg → Option (Int32 × Sg)) (hrc22 : ∀ (x1 : Int32) (x2 : Int32) (st : Sg) (ls : Array Slot) (H : Heap) (locs : List Loc), rc22 x1 x2 st = some (r9, st9) → Hp g nwM (ceM g) A s.heap st H locs → lv_has ls 3 [(0, .ref (g.2.1 0)), (1, .int x1), (2, .int x2)] → W p l e rm_X8_worst s m args below meth c H locs 0 0 (MQ below (QI g nwM (ceM g) A r9 st9) args s 0 0 A) (F0 m 22 ls [])) (h : X8_worst_22b rc22 x1 x2 st = some (r9, st9)) (Y : Hp g nwM (ceM g) A s.heap st H locs)  (hl : lv_has ls 3 [(0, .ref (g.2.1 0)), (1, .int x1), (2, .int x2)]) : W p l e rm_X8_worst s m args below meth c H locs 0 0 (MQ below (QI g nwM (ceM g) A r9 st9) args s 0 0 A) (F0 m 22 ls []) := by
  have hx := X.1
  have hb := X.2.1
  unfold X8_worst_22b at h
  refine lv_iload_n hx hb dX8_worst_22 rfl (lv_at hl 2 rfl) ?_
  refine lv_bipush (v := 12) hx hb dX8_worst_23 (by decide) ?_
  refine lv_icmp_gt (tgt := 70) hx hb dX8_worst_25 (by decide) (fun c1 => ?_) (fun c1 => ?_)
  · have h := ite_t h c1
    exact w_X8_worst_70 X  h Y  (lv_sub hl [1] rfl)
  · have h := ite_f h c1
    refine lv_aload_n hx hb dX8_worst_28 rfl (lv_at hl 0 rfl) ?_
    refine k_get (v := .ref (g.2.1 8)) X Y fl_8_32 0 (Nat.le_of_ble_eq_true rfl) rfl rfl dX8_worst_29 ?_
    refine lv_iload_n hx hb dX8_worst_32 rfl (lv_at hl 2 rfl) ?_
    obtain ⟨i2, h⟩ := cix_s h
    refine k_lald X Y 8 (Nat.le_of_ble_eq_true rfl) (fun _ _ => rfl) i2 dX8_worst_33 ?_
    refine lv_aload_n hx hb dX8_worst_34 rfl (lv_at hl 0 rfl) ?_
    refine k_get (v := .ref (g.2.1 19)) X Y fl_8_69 0 (Nat.le_of_ble_eq_true rfl) rfl rfl dX8_worst_35 ?_
    refine lv_iload_n hx hb dX8_worst_38 rfl (lv_at hl 2 rfl) ?_
    obtain ⟨i3, h⟩ := cix_s h
    refine k_lald X Y 19 (Nat.le_of_ble_eq_true rfl) (fun _ _ => rfl) i3 dX8_worst_39 ?_
    refine lv_lsub hx hb dX8_worst_40 ?_
    refine lv_aload_n hx hb dX8_worst_41 rfl (lv_at hl 0 rfl) ?_
    refine k_get (v := .ref (g.2.1 8)) X Y fl_8_32 0 (Nat.le_of_ble_eq_true rfl) rfl rfl dX8_worst_42 ?_
    refine lv_iload_n hx hb dX8_worst_45 rfl (lv_at hl 1 rfl) ?_
    obtain ⟨i4, h⟩ := cix_s h
    refine k_lald X Y 8 (Nat.le_of_ble_eq_true rfl) (fun _ _ => rfl) i4 dX8_worst_46 ?_
    refine lv_aload_n hx hb dX8_worst_47 rfl (lv_at hl 0 rfl) ?_
    refine k_get (v := .ref (g.2.1 19)) X Y fl_8_69 0 (Nat.le_of_ble_eq_true rfl) rfl rfl dX8_worst_48 ?_
    refine lv_iload_n hx hb dX8_worst_51 rfl (lv_at hl 1 rfl) ?_
    obtain ⟨i5, h⟩ := cix_s h
    refine k_lald X Y 19 (Nat.le_of_ble_eq_true rfl) (fun _ _ => rfl) i5 dX8_worst_52 ?_
    refine lv_lsub hx hb dX8_worst_53 ?_
    refine W.lcmp hx hb dX8_worst_54 ?_
    refine lv_if_le (tgt := 62) hx hb dX8_worst_55 (by decide) (fun c6 => ?_) (fun c6 => ?_)
    · have h := ite_t h c6
      refine lv_iload_n hx hb dX8_worst_62 rfl (lv_at hl 1 rfl) ?_
      exact w_X8_worst_63 X rc22 hrc22 h Y  (lv_sub hl [0, 2] rfl)
    · have h := ite_f h c6
      refine lv_iload_n hx hb dX8_worst_58 rfl (lv_at hl 2 rfl) ?_
      refine lv_goto (tgt := 63) hx hb dX8_worst_59 (by decide) ?_
      exact w_X8_worst_63 X rc22 hrc22 h Y  (lv_sub hl [0, 2] rfl)
theorem w_X8_worst_22 (X : Cx g p s m args meth c cX8_worst 3 RX8 (some .int))   {r9 : Int32} {st9 : Sg}   : ∀ (k : Nat) (x1 : Int32) (x2 : Int32) (st : Sg) (ls : Array Slot) (H : Heap) (locs : List Loc), X8_worst_22 k x1 x2 st = some (r9, st9) → Hp g nwM (ceM g) A s.heap st H locs → lv_has ls 3 [(0, .ref (g.2.1 0)), (1, .int x1), (2, .int x2)] → W p l e rm_X8_worst s m args below meth c H locs 0 0 (MQ below (QI g nwM (ceM g) A r9 st9) args s 0 0 A) (F0 m 22 ls []) := by
  intro k
  induction k with
  | zero =>
    intro x1 x2 st ls H locs h
    exact none_s h
  | succ k ih =>
    intro x1 x2 st ls H locs h Y hl
    exact w_X8_worst_22b X  (X8_worst_22 k) ih h Y  hl
set_option maxHeartbeats 4000000 in
set_option maxRecDepth 100000 in
theorem w_X8_worst (X : Cx g p s m args meth c cX8_worst 3 RX8 (some .int))  {st : Sg} {r9 : Int32} {st9 : Sg}  (h : X8_worst st = some (r9, st9)) (Y : Hp g nwM (ceM g) A s.heap st H locs)  (hl : lv_has ls 3 [(0, .ref (g.2.1 0))]) : W p l e rm_X8_worst s m args below meth c H locs 0 0 (MQ below (QI g nwM (ceM g) A r9 st9) args s 0 0 A) (F0 m 0 ls []) := by
  have hx := X.1
  have hb := X.2.1
  unfold X8_worst at h
  refine lv_aload_n hx hb dX8_worst_0 rfl (lv_at hl 0 rfl) ?_
  obtain ⟨v2, hc1, h⟩ := bnd1_s h
  refine k_cI Y (k_runV (As := []) (rest := []) (o := 0) X Y cl_8_207 (c_X8_isReady l hc1 _) ⟨rfl, rfl, Nat.le_of_ble_eq_true rfl, Nat.le_of_ble_eq_true rfl⟩ (Nat.le_of_ble_eq_true rfl) rfl rfl hl.1 rfl (Nat.le_of_ble_eq_true rfl) dX8_worst_1 ⟨Nat.zero_le _, Nat.zero_le _⟩) (fun H locs Y => ?_)
  refine lv_if_ne (tgt := 10) hx hb dX8_worst_4 (by decide) (fun c3 => ?_) (fun c3 => ?_)
  · have h := ite_f h c3
    refine lv_aload_n hx hb dX8_worst_10 rfl (lv_at hl 0 rfl) ?_
    obtain ⟨st5, hc4, h⟩ := bnd1_s h
    refine k_cV Y (k_runV (As := []) (rest := []) (o := 0) X Y cl_8_158 (c_X8_findBest l hc4 _) ⟨rfl, rfl, Nat.le_of_ble_eq_true rfl, Nat.le_of_ble_eq_true rfl⟩ (Nat.le_of_ble_eq_true rfl) rfl rfl hl.1 rfl (Nat.le_of_ble_eq_true rfl) dX8_worst_11 ⟨Nat.zero_le _, Nat.zero_le _⟩) (fun H locs Y => ?_)
    refine lv_aload_n hx hb dX8_worst_14 rfl (lv_at hl 0 rfl) ?_
    obtain ⟨st7, hc6, h⟩ := bnd1_s h
    refine k_cV Y (k_runV (As := []) (rest := []) (o := 0) X Y cl_8_213 (c_X8_findBoy l hc6 _) ⟨rfl, rfl, Nat.le_of_ble_eq_true rfl, Nat.le_of_ble_eq_true rfl⟩ (Nat.le_of_ble_eq_true rfl) rfl rfl hl.1 rfl (Nat.le_of_ble_eq_true rfl) dX8_worst_15 ⟨Nat.zero_le _, Nat.zero_le _⟩) (fun H locs Y => ?_)
    refine lv_iconst (v := 1) hx hb dX8_worst_18 (by decide) ?_
    refine lv_istore_n (lv' := [(1, .int 1), (0, .ref (g.2.1 0))]) hx hb dX8_worst_19 rfl hl (by decide) rfl (fun ls hl => ?_)
    refine lv_iconst (v := 2) hx hb dX8_worst_20 (by decide) ?_
    refine lv_istore_n (lv' := [(2, .int 2), (1, .int 1), (0, .ref (g.2.1 0))]) hx hb dX8_worst_21 rfl hl (by decide) rfl (fun ls hl => ?_)
    exact w_X8_worst_22 X   FU 1 2 st7 _ _ _ h Y (lv_sub hl [2, 1, 0] rfl)
  · have h := ite_t h c3
    refine lv_bipush (v := (-3)) hx hb dX8_worst_7 (by decide) ?_
    exact k_iretW X Y h dX8_worst_9
theorem c_X8_worst (l : Launch) {g : Gx}  {st : Sg} {r9 : Int32} {st9 : Sg} (h : X8_worst st = some (r9, st9)) : MetI l yX8_worst cX8_worst 3 (some .int) rm_X8_worst g nwM (ceM g) [.ref (g.2.1 0)] st r9 st9 :=
  met_of (Qc := fun A => QI g nwM (ceM g) A r9 st9) (by decide) (Nat.le_of_ble_eq_true rfl) (fun p e s m below meth c A ls X Y hl => w_X8_worst X h Y hl)
def X8_worth_33   (k0 : Int32) (st : Sg) : Option Int32 :=
  some k0
def X8_worth   (x1 : Int32) (x2 : Int32) (st : Sg) : Option Int32 :=
  bnd1 (X8_isSort x1 st) fun v2 =>
  if v2 = (0 : Int32) then
    some (-1)
  else
    bnd1 (X8_in (x2.toInt64) 0 5) fun v5 =>
    if v5 = (0 : Int32) then
      X8_worth_33 (-2) st
    else
      bnd1 (X8_worthOf x1 x2 st) fun v8 =>
      X8_worth_33 v8 st
abbrev rm_X8_worth : Room := { frames := 2, cells := 0, slots := 0, locals := 46 }
set_option maxHeartbeats 4000000 in
set_option maxRecDepth 100000 in
theorem w_X8_worth_33 (X : Cx g p s m args meth c cX8_worth 3 RX8 (some .int)) {k0 : Int32} {st : Sg} {r9 : Int32}  (h : X8_worth_33 k0 st = some r9) (Y : Hp g nwM (ceM g) A s.heap st H locs)  (hl : lv_has ls 3 []) : W p l e rm_X8_worth s m args below meth c H locs 0 0 (MQ below (QI g nwM (ceM g) A r9 st) args s 0 0 A) (F0 m 33 ls [.int k0]) := by
  have hx := X.1
  have hb := X.2.1
  unfold X8_worth_33 at h
  exact k_iretR X Y h dX8_worth_33
set_option maxHeartbeats 4000000 in
set_option maxRecDepth 100000 in
theorem w_X8_worth (X : Cx g p s m args meth c cX8_worth 3 RX8 (some .int)) {x1 : Int32} {x2 : Int32} {st : Sg} {r9 : Int32}  (h : X8_worth x1 x2 st = some r9) (Y : Hp g nwM (ceM g) A s.heap st H locs)  (hl : lv_has ls 3 [(0, .ref (g.2.1 0)), (1, .int x1), (2, .int x2)]) : W p l e rm_X8_worth s m args below meth c H locs 0 0 (MQ below (QI g nwM (ceM g) A r9 st) args s 0 0 A) (F0 m 0 ls []) := by
  have hx := X.1
  have hb := X.2.1
  unfold X8_worth at h
  refine lv_aload_n hx hb dX8_worth_0 rfl (lv_at hl 0 rfl) ?_
  refine lv_iload_n hx hb dX8_worth_1 rfl (lv_at hl 1 rfl) ?_
  obtain ⟨v2, hc1, h⟩ := bnd1_s h
  refine k_cI Y (k_runV (As := [.int x1]) (rest := []) (o := 0) X Y cl_8_106 (c_X8_isSort l hc1 _) ⟨rfl, rfl, Nat.le_of_ble_eq_true rfl, Nat.le_of_ble_eq_true rfl⟩ (Nat.le_of_ble_eq_true rfl) rfl rfl hl.1 rfl (Nat.le_of_ble_eq_true rfl) dX8_worth_2 ⟨Nat.zero_le _, Nat.zero_le _⟩) (fun H locs Y => ?_)
  refine lv_if_ne (tgt := 10) hx hb dX8_worth_5 (by decide) (fun c3 => ?_) (fun c3 => ?_)
  · have h := ite_f h c3
    refine lv_iload_n hx hb dX8_worth_10 rfl (lv_at hl 2 rfl) ?_
    refine lv_i2l hx hb dX8_worth_11 rfl ?_
    refine lv_lconst (v := 0) hx hb dX8_worth_12 (by decide) ?_
    refine k_ldc2 X lg_8_114 dX8_worth_13 ?_
    obtain ⟨v5, hc4, h⟩ := bnd1_s h
    refine k_cI Y (k_runS (As := [.long (x2.toInt64), .long 0, .long 5]) (rest := []) X Y cl_8_83 (c_X8_in l hc4 _) ⟨rfl, rfl, Nat.le_of_ble_eq_true rfl, Nat.le_of_ble_eq_true rfl⟩ rfl hl.1 rfl (Nat.le_of_ble_eq_true rfl) dX8_worth_16 ⟨Nat.zero_le _, Nat.zero_le _⟩) (fun H locs Y => ?_)
    refine lv_if_eq (tgt := 31) hx hb dX8_worth_19 (by decide) (fun c6 => ?_) (fun c6 => ?_)
    · have h := ite_t h c6
      refine lv_bipush (v := (-2)) hx hb dX8_worth_31 (by decide) ?_
      exact w_X8_worth_33 X  h Y  (lv_sub hl [] rfl)
    · have h := ite_f h c6
      refine lv_aload_n hx hb dX8_worth_22 rfl (lv_at hl 0 rfl) ?_
      refine lv_iload_n hx hb dX8_worth_23 rfl (lv_at hl 1 rfl) ?_
      refine lv_iload_n hx hb dX8_worth_24 rfl (lv_at hl 2 rfl) ?_
      obtain ⟨v8, hc7, h⟩ := bnd1_s h
      refine k_cI Y (k_runV (As := [.int x1, .int x2]) (rest := []) (o := 0) X Y cl_8_116 (c_X8_worthOf l hc7 _) ⟨rfl, rfl, Nat.le_of_ble_eq_true rfl, Nat.le_of_ble_eq_true rfl⟩ (Nat.le_of_ble_eq_true rfl) rfl rfl hl.1 rfl (Nat.le_of_ble_eq_true rfl) dX8_worth_25 ⟨Nat.zero_le _, Nat.zero_le _⟩) (fun H locs Y => ?_)
      refine lv_goto (tgt := 33) hx hb dX8_worth_28 (by decide) ?_
      exact w_X8_worth_33 X  h Y  (lv_sub hl [] rfl)
  · have h := ite_t h c3
    refine lv_iconst (v := (-1)) hx hb dX8_worth_8 (by decide) ?_
    exact k_iretR X Y h dX8_worth_9
theorem c_X8_worth (l : Launch) {g : Gx} {x1 : Int32} {x2 : Int32} {st : Sg} {r9 : Int32} (h : X8_worth x1 x2 st = some r9) : MetI l yX8_worth cX8_worth 3 (some .int) rm_X8_worth g nwM (ceM g) [.ref (g.2.1 0), .int x1, .int x2] st r9 st :=
  met_of (Qc := fun A => QI g nwM (ceM g) A r9 st) (by decide) (Nat.le_of_ble_eq_true rfl) (fun p e s m below meth c A ls X Y hl => w_X8_worth X h Y hl)
end LIFT
