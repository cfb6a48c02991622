/-! lifted by program: SaturdaySale.isWithin, SaturdaySale.refusalOf, SaturdaySale.ruleRefusalOf, SaturdaySale$Rule.isSo, SaturdaySale$Rule.numberFor, SaturdaySale.asks, SaturdaySale.isDay, SaturdaySale$Table.fillEnd, SaturdaySale$Sale.scale, SaturdaySale$Sale.worthOn, SaturdaySale$Sale.chanceToBuy, SaturdaySale$Table.backByBuyer, SaturdaySale$Table.rowFor, SaturdaySale$Table.takeGreater -/
section LIFT
variable {p : Program} {l : Launch} {e : Env} {s : State} {m : MethodId} {args : Array Value} {below : List Frame} {meth : Method} {c : Code} {g : Gx} {A : Nat → Prop} {H : Heap} {locs : List Loc} {ls : Array Slot}
def X7_isWithin_15   (k0 : Int32) : Option Int32 :=
  cb01 k0 <| some k0
def X7_isWithin_14    : Option Int32 :=
  X7_isWithin_15 0
def X7_isWithin   (x0 : Int32) (x1 : Int32) (x2 : Int32) : Option Int32 :=
  if x0 < x1 then
    X7_isWithin_14
  else
    if x2 < x0 then
      X7_isWithin_14
    else
      X7_isWithin_15 1
abbrev rm_X7_isWithin : Room := { frames := 0, cells := 0, slots := 0, locals := 0 }
set_option maxHeartbeats 4000000 in
set_option maxRecDepth 100000 in
theorem w_X7_isWithin_15 (X : Cx g p s m args meth c cX7_isWithin 3 RX7 (some .boolean)) {k0 : Int32} {st : Sg} {r9 : Int32}  (h : X7_isWithin_15 k0 = some r9) (Y : Hp g nwX (ceX g) A s.heap st H locs)  (hl : lv_has ls 3 []) : W p l e rm_X7_isWithin s m args below meth c H locs 0 0 (MQ below (QI g nwX (ceX g) A r9 st) args s 0 0 A) (F0 m 15 ls [.int k0]) := by
  have hx := X.1
  have hb := X.2.1
  unfold X7_isWithin_15 at h
  obtain ⟨b1, h⟩ := cb01_s h
  exact k_zretR X Y b1 h dX7_isWithin_15
set_option maxHeartbeats 4000000 in
set_option maxRecDepth 100000 in
theorem w_X7_isWithin_14 (X : Cx g p s m args meth c cX7_isWithin 3 RX7 (some .boolean))  {st : Sg} {r9 : Int32}  (h : X7_isWithin_14 = some r9) (Y : Hp g nwX (ceX g) A s.heap st H locs)  (hl : lv_has ls 3 []) : W p l e rm_X7_isWithin s m args below meth c H locs 0 0 (MQ below (QI g nwX (ceX g) A r9 st) args s 0 0 A) (F0 m 14 ls []) := by
  have hx := X.1
  have hb := X.2.1
  unfold X7_isWithin_14 at h
  refine lv_iconst (v := 0) hx hb dX7_isWithin_14 (by decide) ?_
  exact w_X7_isWithin_15 X  h Y  (lv_sub hl [] rfl)
set_option maxHeartbeats 4000000 in
set_option maxRecDepth 100000 in
theorem w_X7_isWithin (X : Cx g p s m args meth c cX7_isWithin 3 RX7 (some .boolean)) {x0 : Int32} {x1 : Int32} {x2 : Int32} {st : Sg} {r9 : Int32}  (h : X7_isWithin x0 x1 x2 = some r9) (Y : Hp g nwX (ceX g) A s.heap st H locs)  (hl : lv_has ls 3 [(0, .int x0), (1, .int x1), (2, .int x2)]) : W p l e rm_X7_isWithin s m args below meth c H locs 0 0 (MQ below (QI g nwX (ceX g) A r9 st) args s 0 0 A) (F0 m 0 ls []) := by
  have hx := X.1
  have hb := X.2.1
  unfold X7_isWithin at h
  refine lv_iload_n hx hb dX7_isWithin_0 rfl (lv_at hl 0 rfl) ?_
  refine lv_iload_n hx hb dX7_isWithin_1 rfl (lv_at hl 1 rfl) ?_
  refine lv_icmp_lt (tgt := 14) hx hb dX7_isWithin_2 (by decide) (fun c1 => ?_) (fun c1 => ?_)
  · have h := ite_t h c1
    exact w_X7_isWithin_14 X  h Y  (lv_sub hl [] rfl)
  · have h := ite_f h c1
    refine lv_iload_n hx hb dX7_isWithin_5 rfl (lv_at hl 0 rfl) ?_
    refine lv_iload_n hx hb dX7_isWithin_6 rfl (lv_at hl 2 rfl) ?_
    refine lv_icmp_gt (tgt := 14) hx hb dX7_isWithin_7 (by decide) (fun c2 => ?_) (fun c2 => ?_)
    · have h := ite_t h c2
      exact w_X7_isWithin_14 X  h Y  (lv_sub hl [] rfl)
    · have h := ite_f h c2
      refine lv_iconst (v := 1) hx hb dX7_isWithin_10 (by decide) ?_
      refine lv_goto (tgt := 15) hx hb dX7_isWithin_11 (by decide) ?_
      exact w_X7_isWithin_15 X  h Y  (lv_sub hl [] rfl)
theorem c_X7_isWithin (l : Launch) {g : Gx} {x0 : Int32} {x1 : Int32} {x2 : Int32} {st : Sg} {r9 : Int32} (h : X7_isWithin x0 x1 x2 = some r9) : MetI l yX7_isWithin cX7_isWithin 3 (some .boolean) rm_X7_isWithin g nwX (ceX g) [.int x0, .int x1, .int x2] st r9 st :=
  met_of (Qc := fun A => QI g nwX (ceX g) A r9 st) (by decide) (Nat.le_of_ble_eq_true rfl) (fun p e s m below meth c A ls X Y hl => w_X7_isWithin X h Y hl)
def X7_refusalOf_23   (k0 : Int32) (st : Sg) : Option Int32 :=
  some k0
def X7_refusalOf   (x1 : Int32) (st : Sg) : Option Int32 :=
  if x1 = (0 : Int32) then
    some (-2)
  else
    if (st.1 1 4) = (0 : Int32) then
      X7_refusalOf_23 (-3) st
    else
      X7_refusalOf_23 0 st
abbrev rm_X7_refusalOf : Room := { frames := 0, cells := 0, slots := 0, locals := 0 }
set_option maxHeartbeats 4000000 in
set_option maxRecDepth 100000 in
theorem w_X7_refusalOf_23 (X : Cx g p s m args meth c cX7_refusalOf 2 RX7 (some .int)) {k0 : Int32} {st : Sg} {r9 : Int32}  (h : X7_refusalOf_23 k0 st = some r9) (Y : Hp g nwX (ceX g) A s.heap st H locs)  (hl : lv_has ls 2 []) : W p l e rm_X7_refusalOf s m args below meth c H locs 0 0 (MQ below (QI g nwX (ceX g) A r9 st) args s 0 0 A) (F0 m 23 ls [.int k0]) := by
  have hx := X.1
  have hb := X.2.1
  unfold X7_refusalOf_23 at h
  exact k_iretR X Y h dX7_refusalOf_23
set_option maxHeartbeats 4000000 in
set_option maxRecDepth 100000 in
theorem w_X7_refusalOf (X : Cx g p s m args meth c cX7_refusalOf 2 RX7 (some .int)) {x1 : Int32} {st : Sg} {r9 : Int32}  (h : X7_refusalOf x1 st = some r9) (Y : Hp g nwX (ceX g) A s.heap st H locs)  (hl : lv_has ls 2 [(0, .ref (g.2.1 0)), (1, .int x1)]) : W p l e rm_X7_refusalOf s m args below meth c H locs 0 0 (MQ below (QI g nwX (ceX g) A r9 st) args s 0 0 A) (F0 m 0 ls []) := by
  have hx := X.1
  have hb := X.2.1
  unfold X7_refusalOf at h
  refine lv_iload_n hx hb dX7_refusalOf_0 rfl (lv_at hl 1 rfl) ?_
  refine lv_if_ne (tgt := 7) hx hb dX7_refusalOf_1 (by decide) (fun c1 => ?_) (fun c1 => ?_)
  · have h := ite_f h c1
    refine lv_aload_n hx hb dX7_refusalOf_7 rfl (lv_at hl 0 rfl) ?_
    refine k_get (v := .ref (g.2.1 1)) X Y fl_7_10 0 (Nat.le_of_ble_eq_true rfl) rfl rfl dX7_refusalOf_8 ?_
    refine k_get (v := .int (st.1 1 4)) X Y fl_7_97 1 (Nat.le_of_ble_eq_true rfl) rfl rfl dX7_refusalOf_11 ?_
    refine lv_if_ne (tgt := 22) hx hb dX7_refusalOf_14 (by decide) (fun c2 => ?_) (fun c2 => ?_)
    · have h := ite_f h c2
      refine lv_iconst (v := 0) hx hb dX7_refusalOf_22 (by decide) ?_
      exact w_X7_refusalOf_23 X  h Y  (lv_sub hl [] rfl)
    · have h := ite_t h c2
      refine lv_bipush (v := (-3)) hx hb dX7_refusalOf_17 (by decide) ?_
      refine lv_goto (tgt := 23) hx hb dX7_refusalOf_19 (by decide) ?_
      exact w_X7_refusalOf_23 X  h Y  (lv_sub hl [] rfl)
  · have h := ite_t h c1
    refine lv_bipush (v := (-2)) hx hb dX7_refusalOf_4 (by decide) ?_
    exact k_iretR X Y h dX7_refusalOf_6
theorem c_X7_refusalOf (l : Launch) {g : Gx} {x1 : Int32} {st : Sg} {r9 : Int32} (h : X7_refusalOf x1 st = some r9) : MetI l yX7_refusalOf cX7_refusalOf 2 (some .int) rm_X7_refusalOf g nwX (ceX g) [.ref (g.2.1 0), .int x1] st r9 st :=
  met_of (Qc := fun A => QI g nwX (ceX g) A r9 st) (by decide) (Nat.le_of_ble_eq_true rfl) (fun p e s m below meth c A ls X Y hl => w_X7_refusalOf X h Y hl)
def X7_ruleRefusalOf_26   (k0 : Int32) (st : Sg) : Option Int32 :=
  some k0
def X7_ruleRefusalOf_25   (x2 : Int32) (st : Sg) : Option Int32 :=
  X7_ruleRefusalOf_26 x2 st
def X7_ruleRefusalOf   (x1 : Int32) (st : Sg) : Option Int32 :=
  bnd1 (X7_refusalOf x1 st) fun v2 =>
  if v2 = (0 : Int32) then
    if (st.1 69 0) = (0 : Int32) then
      X7_ruleRefusalOf_26 (-3) st
    else
      X7_ruleRefusalOf_25 v2 st
  else
    X7_ruleRefusalOf_25 v2 st
abbrev rm_X7_ruleRefusalOf : Room := { frames := 1, cells := 0, slots := 0, locals := 21 }
set_option maxHeartbeats 4000000 in
set_option maxRecDepth 100000 in
theorem w_X7_ruleRefusalOf_26 (X : Cx g p s m args meth c cX7_ruleRefusalOf 3 RX7 (some .int)) {k0 : Int32} {st : Sg} {r9 : Int32}  (h : X7_ruleRefusalOf_26 k0 st = some r9) (Y : Hp g nwX (ceX g) A s.heap st H locs)  (hl : lv_has ls 3 []) : W p l e rm_X7_ruleRefusalOf s m args below meth c H locs 0 0 (MQ below (QI g nwX (ceX g) A r9 st) args s 0 0 A) (F0 m 26 ls [.int k0]) := by
  have hx := X.1
  have hb := X.2.1
  unfold X7_ruleRefusalOf_26 at h
  exact k_iretR X Y h dX7_ruleRefusalOf_26
set_option maxHeartbeats 4000000 in
set_option maxRecDepth 100000 in
theorem w_X7_ruleRefusalOf_25 (X : Cx g p s m args meth c cX7_ruleRefusalOf 3 RX7 (some .int)) {x2 : Int32} {st : Sg} {r9 : Int32}  (h : X7_ruleRefusalOf_25 x2 st = some r9) (Y : Hp g nwX (ceX g) A s.heap st H locs)  (hl : lv_has ls 3 [(2, .int x2)]) : W p l e rm_X7_ruleRefusalOf s m args below meth c H locs 0 0 (MQ below (QI g nwX (ceX g) A r9 st) args s 0 0 A) (F0 m 25 ls []) := by
  have hx := X.1
  have hb := X.2.1
  unfold X7_ruleRefusalOf_25 at h
  refine lv_iload_n hx hb dX7_ruleRefusalOf_25 rfl (lv_at hl 0 rfl) ?_
  exact w_X7_ruleRefusalOf_26 X  h Y  (lv_sub hl [] rfl)
set_option maxHeartbeats 4000000 in
set_option maxRecDepth 100000 in
theorem w_X7_ruleRefusalOf (X : Cx g p s m args meth c cX7_ruleRefusalOf 3 RX7 (some .int)) {x1 : Int32} {st : Sg} {r9 : Int32}  (h : X7_ruleRefusalOf x1 st = some r9) (Y : Hp g nwX (ceX g) A s.heap st H locs)  (hl : lv_has ls 3 [(0, .ref (g.2.1 0)), (1, .int x1)]) : W p l e rm_X7_ruleRefusalOf s m args below meth c H locs 0 0 (MQ below (QI g nwX (ceX g) A r9 st) args s 0 0 A) (F0 m 0 ls []) := by
  have hx := X.1
  have hb := X.2.1
  unfold X7_ruleRefusalOf at h
  refine lv_aload_n hx hb dX7_ruleRefusalOf_0 rfl (lv_at hl 0 rfl) ?_
  refine lv_iload_n hx hb dX7_ruleRefusalOf_1 rfl (lv_at hl 1 rfl) ?_
  obtain ⟨v2, hc1, h⟩ := bnd1_s h
  refine k_cI Y (k_runV (As := [.int x1]) (rest := []) (o := 0) X Y cl_7_136 (c_X7_refusalOf l hc1 _) ⟨rfl, rfl, Nat.le_of_ble_eq_true rfl, Nat.le_of_ble_eq_true rfl⟩ (Nat.le_of_ble_eq_true rfl) rfl rfl hl.1 rfl (Nat.le_of_ble_eq_true rfl) dX7_ruleRefusalOf_2 ⟨Nat.zero_le _, Nat.zero_le _⟩) (fun H locs Y => ?_)
  refine lv_istore_n (lv' := [(2, .int v2), (0, .ref (g.2.1 0)), (1, .int x1)]) hx hb dX7_ruleRefusalOf_5 rfl hl (by decide) rfl (fun ls hl => ?_)
  refine lv_iload_n hx hb dX7_ruleRefusalOf_6 rfl (lv_at hl 0 rfl) ?_
  refine lv_if_ne (tgt := 25) hx hb dX7_ruleRefusalOf_7 (by decide) (fun c3 => ?_) (fun c3 => ?_)
  · have h := ite_f h c3
    exact w_X7_ruleRefusalOf_25 X  h Y  (lv_sub hl [0] rfl)
  · have h := ite_t h c3
    refine lv_aload_n hx hb dX7_ruleRefusalOf_10 rfl (lv_at hl 1 rfl) ?_
    refine k_get (v := .ref (g.2.1 69)) X Y fl_7_67 0 (Nat.le_of_ble_eq_true rfl) rfl rfl dX7_ruleRefusalOf_11 ?_
    refine k_get (v := .int (st.1 69 0)) X Y fl_7_234 69 (Nat.le_of_ble_eq_true rfl) rfl rfl dX7_ruleRefusalOf_14 ?_
    refine lv_if_ne (tgt := 25) hx hb dX7_ruleRefusalOf_17 (by decide) (fun c4 => ?_) (fun c4 => ?_)
    · have h := ite_f h c4
      exact w_X7_ruleRefusalOf_25 X  h Y  (lv_sub hl [0] rfl)
    · have h := ite_t h c4
      refine lv_bipush (v := (-3)) hx hb dX7_ruleRefusalOf_20 (by decide) ?_
      refine lv_goto (tgt := 26) hx hb dX7_ruleRefusalOf_22 (by decide) ?_
      exact w_X7_ruleRefusalOf_26 X  h Y  (lv_sub hl [] rfl)
theorem c_X7_ruleRefusalOf (l : Launch) {g : Gx} {x1 : Int32} {st : Sg} {r9 : Int32} (h : X7_ruleRefusalOf x1 st = some r9) : MetI l yX7_ruleRefusalOf cX7_ruleRefusalOf 3 (some .int) rm_X7_ruleRefusalOf g nwX (ceX g) [.ref (g.2.1 0), .int x1] st r9 st :=
  met_of (Qc := fun A => QI g nwX (ceX g) A r9 st) (by decide) (Nat.le_of_ble_eq_true rfl) (fun p e s m below meth c A ls X Y hl => w_X7_ruleRefusalOf X h Y hl)
def X2_isSo_47   (k0 : Int32) (st : Sg) : Option Int32 :=
  cb01 k0 <| some k0
def X2_isSo_63   (k0 : Int32) (st : Sg) : Option Int32 :=
  cb01 k0 <| some k0
def X2_isSo_79   (k0 : Int32) (st : Sg) : Option Int32 :=
  cb01 k0 <| some k0
def X2_isSo   (x1 : Int32) (x2 : Int32) (st : Sg) : Option Int32 :=
  cix x1 6 <|
  if (st.1 71 x1.toNatClampNeg) = (60 : Int32) then
    cix x1 6 <|
    if (st.1 72 x1.toNatClampNeg) ≤ x2 then
      X2_isSo_47 0 st
    else
      X2_isSo_47 1 st
  else
    if (st.1 71 x1.toNatClampNeg) = (62 : Int32) then
      cix x1 6 <|
      if x2 ≤ (st.1 72 x1.toNatClampNeg) then
        X2_isSo_63 0 st
      else
        X2_isSo_63 1 st
    else
      cix x1 6 <|
      if x2 = (st.1 72 x1.toNatClampNeg) then
        X2_isSo_79 1 st
      else
        X2_isSo_79 0 st
abbrev rm_X2_isSo : Room := { frames := 0, cells := 0, slots := 0, locals := 0 }
set_option maxHeartbeats 4000000 in
set_option maxRecDepth 100000 in
theorem w_X2_isSo_47 (X : Cx g p s m args meth c cX2_isSo 3 RX2 (some .boolean)) {k0 : Int32} {st : Sg} {r9 : Int32}  (h : X2_isSo_47 k0 st = some r9) (Y : Hp g nwX (ceX g) A s.heap st H locs)  (hl : lv_has ls 3 []) : W p l e rm_X2_isSo s m args below meth c H locs 0 0 (MQ below (QI g nwX (ceX g) A r9 st) args s 0 0 A) (F0 m 47 ls [.int k0]) := by
  have hx := X.1
  have hb := X.2.1
  unfold X2_isSo_47 at h
  obtain ⟨b1, h⟩ := cb01_s h
  exact k_zretR X Y b1 h dX2_isSo_47
set_option maxHeartbeats 4000000 in
set_option maxRecDepth 100000 in
theorem w_X2_isSo_63 (X : Cx g p s m args meth c cX2_isSo 3 RX2 (some .boolean)) {k0 : Int32} {st : Sg} {r9 : Int32}  (h : X2_isSo_63 k0 st = some r9) (Y : Hp g nwX (ceX g) A s.heap st H locs)  (hl : lv_has ls 3 []) : W p l e rm_X2_isSo s m args below meth c H locs 0 0 (MQ below (QI g nwX (ceX g) A r9 st) args s 0 0 A) (F0 m 63 ls [.int k0]) := by
  have hx := X.1
  have hb := X.2.1
  unfold X2_isSo_63 at h
  obtain ⟨b1, h⟩ := cb01_s h
  exact k_zretR X Y b1 h dX2_isSo_63
set_option maxHeartbeats 4000000 in
set_option maxRecDepth 100000 in
theorem w_X2_isSo_79 (X : Cx g p s m args meth c cX2_isSo 3 RX2 (some .boolean)) {k0 : Int32} {st : Sg} {r9 : Int32}  (h : X2_isSo_79 k0 st = some r9) (Y : Hp g nwX (ceX g) A s.heap st H locs)  (hl : lv_has ls 3 []) : W p l e rm_X2_isSo s m args below meth c H locs 0 0 (MQ below (QI g nwX (ceX g) A r9 st) args s 0 0 A) (F0 m 79 ls [.int k0]) := by
  have hx := X.1
  have hb := X.2.1
  unfold X2_isSo_79 at h
  obtain ⟨b1, h⟩ := cb01_s h
  exact k_zretR X Y b1 h dX2_isSo_79
set_option maxHeartbeats 4000000 in
set_option maxRecDepth 100000 in
theorem w_X2_isSo (X : Cx g p s m args meth c cX2_isSo 3 RX2 (some .boolean)) {x1 : Int32} {x2 : Int32} {st : Sg} {r9 : Int32}  (h : X2_isSo x1 x2 st = some r9) (Y : Hp g nwX (ceX g) A s.heap st H locs)  (hl : lv_has ls 3 [(0, .ref (g.2.1 69)), (1, .int x1), (2, .int x2)]) : W p l e rm_X2_isSo s m args below meth c H locs 0 0 (MQ below (QI g nwX (ceX g) A r9 st) args s 0 0 A) (F0 m 0 ls []) := by
  have hx := X.1
  have hb := X.2.1
  unfold X2_isSo at h
  refine lv_aload_n hx hb dX2_isSo_0 rfl (lv_at hl 0 rfl) ?_
  refine k_get (v := .ref (g.2.1 71)) X Y fl_2_23 69 (Nat.le_of_ble_eq_true rfl) rfl rfl dX2_isSo_1 ?_
  refine lv_iload_n hx hb dX2_isSo_4 rfl (lv_at hl 1 rfl) ?_
  obtain ⟨i1, h⟩ := cix_s h
  refine k_iald X Y 71 (Nat.le_of_ble_eq_true rfl) (fun _ _ => rfl) i1 dX2_isSo_5 ?_
  by_cases c2 : (st.1 71 x1.toNatClampNeg) = (60 : Int32)
  · have h := ite_t h c2
    refine lv_lookup (tgt := 32) (off := 26) hx hb dX2_isSo_6 (by decide) (by rw [c2] <;> rfl) (by decide) ?_
    refine lv_iload_n hx hb dX2_isSo_32 rfl (lv_at hl 2 rfl) ?_
    refine lv_aload_n hx hb dX2_isSo_33 rfl (lv_at hl 0 rfl) ?_
    refine k_get (v := .ref (g.2.1 72)) X Y fl_2_26 69 (Nat.le_of_ble_eq_true rfl) rfl rfl dX2_isSo_34 ?_
    refine lv_iload_n hx hb dX2_isSo_37 rfl (lv_at hl 1 rfl) ?_
    obtain ⟨i3, h⟩ := cix_s h
    refine k_iald X Y 72 (Nat.le_of_ble_eq_true rfl) (fun _ _ => rfl) i3 dX2_isSo_38 ?_
    refine lv_icmp_ge (tgt := 46) hx hb dX2_isSo_39 (by decide) (fun c4 => ?_) (fun c4 => ?_)
    · have h := ite_t h c4
      refine lv_iconst (v := 0) hx hb dX2_isSo_46 (by decide) ?_
      exact w_X2_isSo_47 X  h Y  (lv_sub hl [] rfl)
    · have h := ite_f h c4
      refine lv_iconst (v := 1) hx hb dX2_isSo_42 (by decide) ?_
      refine lv_goto (tgt := 47) hx hb dX2_isSo_43 (by decide) ?_
      exact w_X2_isSo_47 X  h Y  (lv_sub hl [] rfl)
  · have h := ite_f h c2
    by_cases c5 : (st.1 71 x1.toNatClampNeg) = (62 : Int32)
    · have h := ite_t h c5
      refine lv_lookup (tgt := 48) (off := 42) hx hb dX2_isSo_6 (by decide) (by rw [c5] <;> rfl) (by decide) ?_
      refine lv_iload_n hx hb dX2_isSo_48 rfl (lv_at hl 2 rfl) ?_
      refine lv_aload_n hx hb dX2_isSo_49 rfl (lv_at hl 0 rfl) ?_
      refine k_get (v := .ref (g.2.1 72)) X Y fl_2_26 69 (Nat.le_of_ble_eq_true rfl) rfl rfl dX2_isSo_50 ?_
      refine lv_iload_n hx hb dX2_isSo_53 rfl (lv_at hl 1 rfl) ?_
      obtain ⟨i6, h⟩ := cix_s h
      refine k_iald X Y 72 (Nat.le_of_ble_eq_true rfl) (fun _ _ => rfl) i6 dX2_isSo_54 ?_
      refine lv_icmp_le (tgt := 62) hx hb dX2_isSo_55 (by decide) (fun c7 => ?_) (fun c7 => ?_)
      · have h := ite_t h c7
        refine lv_iconst (v := 0) hx hb dX2_isSo_62 (by decide) ?_
        exact w_X2_isSo_63 X  h Y  (lv_sub hl [] rfl)
      · have h := ite_f h c7
        refine lv_iconst (v := 1) hx hb dX2_isSo_58 (by decide) ?_
        refine lv_goto (tgt := 63) hx hb dX2_isSo_59 (by decide) ?_
        exact w_X2_isSo_63 X  h Y  (lv_sub hl [] rfl)
    · have h := ite_f h c5
      refine lv_lookup (tgt := 64) (off := 58) hx hb dX2_isSo_6 (by decide) (by simp only [lv_osw c2 (show (60 : Int32).toInt = 60 by decide), lv_osw c5 (show (62 : Int32).toInt = 62 by decide)]; rfl) (by decide) ?_
      refine lv_iload_n hx hb dX2_isSo_64 rfl (lv_at hl 2 rfl) ?_
      refine lv_aload_n hx hb dX2_isSo_65 rfl (lv_at hl 0 rfl) ?_
      refine k_get (v := .ref (g.2.1 72)) X Y fl_2_26 69 (Nat.le_of_ble_eq_true rfl) rfl rfl dX2_isSo_66 ?_
      refine lv_iload_n hx hb dX2_isSo_69 rfl (lv_at hl 1 rfl) ?_
      obtain ⟨i8, h⟩ := cix_s h
      refine k_iald X Y 72 (Nat.le_of_ble_eq_true rfl) (fun _ _ => rfl) i8 dX2_isSo_70 ?_
      refine lv_icmp_ne (tgt := 78) hx hb dX2_isSo_71 (by decide) (fun c9 => ?_) (fun c9 => ?_)
      · have h := ite_f h c9
        refine lv_iconst (v := 0) hx hb dX2_isSo_78 (by decide) ?_
        exact w_X2_isSo_79 X  h Y  (lv_sub hl [] rfl)
      · have h := ite_t h c9
        refine lv_iconst (v := 1) hx hb dX2_isSo_74 (by decide) ?_
        refine lv_goto (tgt := 79) hx hb dX2_isSo_75 (by decide) ?_
        exact w_X2_isSo_79 X  h Y  (lv_sub hl [] rfl)
theorem c_X2_isSo (l : Launch) {g : Gx} {x1 : Int32} {x2 : Int32} {st : Sg} {r9 : Int32} (h : X2_isSo x1 x2 st = some r9) : MetI l yX2_isSo cX2_isSo 3 (some .boolean) rm_X2_isSo g nwX (ceX g) [.ref (g.2.1 69), .int x1, .int x2] st r9 st :=
  met_of (Qc := fun A => QI g nwX (ceX g) A r9 st) (by decide) (Nat.le_of_ble_eq_true rfl) (fun p e s m below meth c A ls X Y hl => w_X2_isSo X h Y hl)
def X2_numberFor_54  (rc14 : Int32 → Int32 → Option Int32) (x1 : Int32) (x2 : Int32) (x3 : Int32) (x4 : Int32) (x5 : Int32) (st : Sg) : Option Int32 :=
  nm (x5 + (-1)) fun v1 =>
  rc14 x4 v1
def X2_numberFor_39  (rc14 : Int32 → Int32 → Option Int32) (k1 : Int32) (k2 : Int32) (x1 : Int32) (x2 : Int32) (x3 : Int32) (x4 : Int32) (x5 : Int32) (st : Sg) : Option Int32 :=
  bnd1 (X2_isSo k1 k2 st) fun v2 =>
  if v2 = (0 : Int32) then
    X2_numberFor_54 rc14 x1 x2 x3 x4 x5 st
  else
    cix x5 6 <|
    nm (st.1 73 x5.toNatClampNeg) fun v5 =>
    X2_numberFor_54 rc14 x1 x2 x3 v5 x5 st
def X2_numberFor_60   (x3 : Int32) (x4 : Int32) (st : Sg) : Option Int32 :=
  some (if (x3 - 1) < x4 then (x3 - 1) else x4)
def X2_numberFor_14b  (rc14 : Int32 → Int32 → Option Int32) (x1 : Int32) (x2 : Int32) (x3 : Int32) (x4 : Int32) (x5 : Int32) (st : Sg) : Option Int32 :=
  if x5 < (0 : Int32) then
    X2_numberFor_60 x3 x4 st
  else
    cix x5 6 <|
    if (st.1 70 x5.toNatClampNeg) = (108 : Int32) then
      X2_numberFor_39 rc14 x5 x2 x1 x2 x3 x4 x5 st
    else
      X2_numberFor_39 rc14 x5 x1 x1 x2 x3 x4 x5 st
def X2_numberFor_14   (x1 : Int32) (x2 : Int32) (x3 : Int32) (st : Sg) : Nat → Int32 → Int32 → Option Int32
  | 0, _, _ => none
  | k + 1, x4, x5 => X2_numberFor_14b   (X2_numberFor_14 x1 x2 x3 st k) x1 x2 x3 x4 x5 st
def X2_numberFor   (x1 : Int32) (x2 : Int32) (x3 : Int32) (st : Sg) : Option Int32 :=
  nm (st.1 69 6) fun v1 =>
  nm ((st.1 69 1) - 1) fun v2 =>
  X2_numberFor_14 x1 x2 x3 st FU v1 v2
abbrev rm_X2_numberFor : Room := { frames := 1, cells := 0, slots := 0, locals := 22 }
set_option maxHeartbeats 4000000 in
set_option maxRecDepth 100000 in
theorem w_X2_numberFor_54 (X : Cx g p s m args meth c cX2_numberFor 6 RX2 (some .int)) {x1 : Int32} {x2 : Int32} {x3 : Int32} {x4 : Int32} {x5 : Int32} {st : Sg} {r9 : Int32} (rc14 : Int32 → Int32 → Option Int32) (hrc14 : ∀ (x4 : Int32) (x5 : Int32) (ls : Array Slot) (H : Heap) (locs : List Loc), rc14 x4 x5 = some r9 → Hp g nwX (ceX g) A s.heap st H locs → lv_has ls 6 [(0, .ref (g.2.1 69)), (1, .int x1), (2, .int x2), (3, .int x3), (4, .int x4), (5, .int x5)] → W p l e rm_X2_numberFor s m args below meth c H locs 0 0 (MQ below (QI g nwX (ceX g) A r9 st) args s 0 0 A) (F0 m 14 ls [])) (h : X2_numberFor_54 rc14 x1 x2 x3 x4 x5 st = some r9) (Y : Hp g nwX (ceX g) A s.heap st H locs)  (hl : lv_has ls 6 [(0, .ref (g.2.1 69)), (1, .int x1), (2, .int x2), (3, .int x3), (4, .int x4), (5, .int x5)]) : W p l e rm_X2_numberFor s m args below meth c H locs 0 0 (MQ below (QI g nwX (ceX g) A r9 st) args s 0 0 A) (F0 m 54 ls []) := by
  have hx := X.1
  have hb := X.2.1
  unfold X2_numberFor_54 at h
  obtain ⟨v1, ev1, h⟩ := nm_s h
  refine lv_iinc (v := v1) (lv' := [(5, .int v1), (0, .ref (g.2.1 69)), (1, .int x1), (2, .int x2), (3, .int x3), (4, .int x4)]) hx hb dX2_numberFor_54 hl (k := 5) rfl (by rw [ev1]; rfl) (by decide) rfl (fun ls hl => ?_)
  refine lv_goto (tgt := 14) hx hb dX2_numberFor_57 (by decide) ?_
  exact hrc14 x4 v1 _ _ _ h Y (lv_sub hl [1, 2, 3, 4, 5, 0] rfl)
set_option maxHeartbeats 4000000 in
set_option maxRecDepth 100000 in
theorem w_X2_numberFor_39 (X : Cx g p s m args meth c cX2_numberFor 6 RX2 (some .int)) {k1 : Int32} {k2 : Int32} {x1 : Int32} {x2 : Int32} {x3 : Int32} {x4 : Int32} {x5 : Int32} {st : Sg} {r9 : Int32} (rc14 : Int32 → Int32 → Option Int32) (hrc14 : ∀ (x4 : Int32) (x5 : Int32) (ls : Array Slot) (H : Heap) (locs : List Loc), rc14 x4 x5 = some r9 → Hp g nwX (ceX g) A s.heap st H locs → lv_has ls 6 [(0, .ref (g.2.1 69)), (1, .int x1), (2, .int x2), (3, .int x3), (4, .int x4), (5, .int x5)] → W p l e rm_X2_numberFor s m args below meth c H locs 0 0 (MQ below (QI g nwX (ceX g) A r9 st) args s 0 0 A) (F0 m 14 ls [])) (h : X2_numberFor_39 rc14 k1 k2 x1 x2 x3 x4 x5 st = some r9) (Y : Hp g nwX (ceX g) A s.heap st H locs)  (hl : lv_has ls 6 [(0, .ref (g.2.1 69)), (1, .int x1), (2, .int x2), (3, .int x3), (4, .int x4), (5, .int x5)]) : W p l e rm_X2_numberFor s m args below meth c H locs 0 0 (MQ below (QI g nwX (ceX g) A r9 st) args s 0 0 A) (F0 m 39 ls [.int k2, .int k1, .ref (g.2.1 69)]) := by
  have hx := X.1
  have hb := X.2.1
  unfold X2_numberFor_39 at h
  obtain ⟨v2, hc1, h⟩ := bnd1_s h
  refine k_cI Y (k_runV (As := [.int k1, .int k2]) (rest := []) (o := 69) X Y cl_2_58 (c_X2_isSo l hc1 _) ⟨rfl, rfl, Nat.le_of_ble_eq_true rfl, Nat.le_of_ble_eq_true rfl⟩ (Nat.le_of_ble_eq_true rfl) rfl rfl hl.1 rfl (Nat.le_of_ble_eq_true rfl) dX2_numberFor_39 ⟨Nat.zero_le _, Nat.zero_le _⟩) (fun H locs Y => ?_)
  refine lv_if_eq (tgt := 54) hx hb dX2_numberFor_42 (by decide) (fun c3 => ?_) (fun c3 => ?_)
  · have h := ite_t h c3
    exact w_X2_numberFor_54 X rc14 hrc14 h Y  (lv_sub hl [0, 1, 2, 3, 4, 5] rfl)
  · have h := ite_f h c3
    refine lv_aload_n hx hb dX2_numberFor_45 rfl (lv_at hl 0 rfl) ?_
    refine k_get (v := .ref (g.2.1 73)) X Y fl_2_29 69 (Nat.le_of_ble_eq_true rfl) rfl rfl dX2_numberFor_46 ?_
    refine lv_iload hx hb dX2_numberFor_49 (lv_at hl 5 rfl) ?_
    obtain ⟨i4, h⟩ := cix_s h
    refine k_iald X Y 73 (Nat.le_of_ble_eq_true rfl) (fun _ _ => rfl) i4 dX2_numberFor_51 ?_
    obtain ⟨v5, ev5, h⟩ := nm_s h
    refine k_nmI ev5 ?_
    refine lv_istore (lv' := [(4, .int v5), (0, .ref (g.2.1 69)), (1, .int x1), (2, .int x2), (3, .int x3), (5, .int x5)]) hx hb dX2_numberFor_52 hl (by decide) rfl (fun ls hl => ?_)
    exact w_X2_numberFor_54 X rc14 hrc14 h Y  (lv_sub hl [1, 2, 3, 4, 0, 5] rfl)
set_option maxHeartbeats 4000000 in
set_option maxRecDepth 100000 in
theorem w_X2_numberFor_60 (X : Cx g p s m args meth c cX2_numberFor 6 RX2 (some .int)) {x3 : Int32} {x4 : Int32} {st : Sg} {r9 : Int32}  (h : X2_numberFor_60 x3 x4 st = some r9) (Y : Hp g nwX (ceX g) A s.heap st H locs)  (hl : lv_has ls 6 [(3, .int x3), (4, .int x4)]) : W p l e rm_X2_numberFor s m args below meth c H locs 0 0 (MQ below (QI g nwX (ceX g) A r9 st) args s 0 0 A) (F0 m 60 ls []) := by
  have hx := X.1
  have hb := X.2.1
  unfold X2_numberFor_60 at h
  refine lv_iload hx hb dX2_numberFor_60 (lv_at hl 1 rfl) ?_
  refine lv_iload_n hx hb dX2_numberFor_62 rfl (lv_at hl 0 rfl) ?_
  refine lv_iconst (v := 1) hx hb dX2_numberFor_63 (by decide) ?_
  refine lv_isub hx hb dX2_numberFor_64 ?_
  refine k_min X cl_2_62 hl.1 ⟨Nat.le_of_ble_eq_true rfl, Nat.le_of_ble_eq_true rfl⟩ ⟨Nat.zero_le _, Nat.zero_le _⟩ dX2_numberFor_65 ?_
  exact k_iretR X Y h dX2_numberFor_68
set_option maxHeartbeats 4000000 in
set_option maxRecDepth 100000 in
theorem w_X2_numberFor_14b (X : Cx g p s m args meth c cX2_numberFor 6 RX2 (some .int)) {x1 : Int32} {x2 : Int32} {x3 : Int32} {x4 : Int32} {x5 : Int32} {st : Sg} {r9 : Int32} (rc14 : Int32 → Int32 → Option Int32) (hrc14 : ∀ (x4 : Int32) (x5 : Int32) (ls : Array Slot) (H : Heap) (locs : List Loc), rc14 x4 x5 = some r9 → Hp g nwX (ceX g) A s.heap st H locs → lv_has ls 6 [(0, .ref (g.2.1 69)), (1, .int x1), (2, .int x2), (3, .int x3), (4, .int x4), (5, .int x5)] → W p l e rm_X2_numberFor s m args below meth c H locs 0 0 (MQ below (QI g nwX (ceX g) A r9 st) args s 0 0 A) (F0 m 14 ls [])) (h : X2_numberFor_14b rc14 x1 x2 x3 x4 x5 st = some r9) (Y : Hp g nwX (ceX g) A s.heap st H locs)  (hl : lv_has ls 6 [(0, .ref (g.2.1 69)), (1, .int x1), (2, .int x2), (3, .int x3), (4, .int x4), (5, .int x5)]) : W p l e rm_X2_numberFor s m args below meth c H locs 0 0 (MQ below (QI g nwX (ceX g) A r9 st) args s 0 0 A) (F0 m 14 ls []) := by
  have hx := X.1
  have hb := X.2.1
  unfold X2_numberFor_14b at h
  refine lv_iload hx hb dX2_numberFor_14 (lv_at hl 5 rfl) ?_
  refine lv_if_lt (tgt := 60) hx hb dX2_numberFor_16 (by decide) (fun c1 => ?_) (fun c1 => ?_)
  · have h := ite_t h c1
    exact w_X2_numberFor_60 X  h Y  (lv_sub hl [3, 4] rfl)
  · have h := ite_f h c1
    refine lv_aload_n hx hb dX2_numberFor_19 rfl (lv_at hl 0 rfl) ?_
    refine lv_iload hx hb dX2_numberFor_20 (lv_at hl 5 rfl) ?_
    refine lv_aload_n hx hb dX2_numberFor_22 rfl (lv_at hl 0 rfl) ?_
    refine k_get (v := .ref (g.2.1 70)) X Y fl_2_19 69 (Nat.le_of_ble_eq_true rfl) rfl rfl dX2_numberFor_23 ?_
    refine lv_iload hx hb dX2_numberFor_26 (lv_at hl 5 rfl) ?_
    obtain ⟨i2, h⟩ := cix_s h
    refine k_iald X Y 70 (Nat.le_of_ble_eq_true rfl) (fun _ _ => rfl) i2 dX2_numberFor_28 ?_
    refine lv_bipush (v := 108) hx hb dX2_numberFor_29 (by decide) ?_
    refine lv_icmp_ne (tgt := 38) hx hb dX2_numberFor_31 (by decide) (fun c3 => ?_) (fun c3 => ?_)
    · have h := ite_f h c3
      refine lv_iload_n hx hb dX2_numberFor_38 rfl (lv_at hl 1 rfl) ?_
      exact w_X2_numberFor_39 X rc14 hrc14 h Y  (lv_sub hl [0, 1, 2, 3, 4, 5] rfl)
    · have h := ite_t h c3
      refine lv_iload_n hx hb dX2_numberFor_34 rfl (lv_at hl 2 rfl) ?_
      refine lv_goto (tgt := 39) hx hb dX2_numberFor_35 (by decide) ?_
      exact w_X2_numberFor_39 X rc14 hrc14 h Y  (lv_sub hl [0, 1, 2, 3, 4, 5] rfl)
theorem w_X2_numberFor_14 (X : Cx g p s m args meth c cX2_numberFor 6 RX2 (some .int)) {x1 : Int32} {x2 : Int32} {x3 : Int32} {st : Sg} {r9 : Int32}   : ∀ (k : Nat) (x4 : Int32) (x5 : Int32) (ls : Array Slot) (H : Heap) (locs : List Loc), X2_numberFor_14 x1 x2 x3 st k x4 x5 = some r9 → Hp g nwX (ceX g) A s.heap st H locs → lv_has ls 6 [(0, .ref (g.2.1 69)), (1, .int x1), (2, .int x2), (3, .int x3), (4, .int x4), (5, .int x5)] → W p l e rm_X2_numberFor s m args below meth c H locs 0 0 (MQ below (QI g nwX (ceX g) A r9 st) args s 0 0 A) (F0 m 14 ls []) := by
  intro k
  induction k with
  | zero =>
    intro x4 x5 ls H locs h
    exact none_s h
  | succ k ih =>
    intro x4 x5 ls H locs h Y hl
    exact w_X2_numberFor_14b X  (X2_numberFor_14 x1 x2 x3 st k) ih h Y  hl
set_option maxHeartbeats 4000000 in
set_option maxRecDepth 100000 in
theorem w_X2_numberFor (X : Cx g p s m args meth c cX2_numberFor 6 RX2 (some .int)) {x1 : Int32} {x2 : Int32} {x3 : Int32} {st : Sg} {r9 : Int32}  (h : X2_numberFor x1 x2 x3 st = some r9) (Y : Hp g nwX (ceX g) A s.heap st H locs)  (hl : lv_has ls 6 [(0, .ref (g.2.1 69)), (1, .int x1), (2, .int x2), (3, .int x3)]) : W p l e rm_X2_numberFor s m args below meth c H locs 0 0 (MQ below (QI g nwX (ceX g) A r9 st) args s 0 0 A) (F0 m 0 ls []) := by
  have hx := X.1
  have hb := X.2.1
  unfold X2_numberFor at h
  refine lv_aload_n hx hb dX2_numberFor_0 rfl (lv_at hl 0 rfl) ?_
  refine k_get (v := .int (st.1 69 6)) X Y fl_2_32 69 (Nat.le_of_ble_eq_true rfl) rfl rfl dX2_numberFor_1 ?_
  obtain ⟨v1, ev1, h⟩ := nm_s h
  refine k_nmI ev1 ?_
  refine lv_istore (lv' := [(4, .int v1), (0, .ref (g.2.1 69)), (1, .int x1), (2, .int x2), (3, .int x3)]) hx hb dX2_numberFor_4 hl (by decide) rfl (fun ls hl => ?_)
  refine lv_aload_n hx hb dX2_numberFor_6 rfl (lv_at hl 1 rfl) ?_
  refine k_get (v := .int (st.1 69 1)) X Y fl_2_15 69 (Nat.le_of_ble_eq_true rfl) rfl rfl dX2_numberFor_7 ?_
  refine lv_iconst (v := 1) hx hb dX2_numberFor_10 (by decide) ?_
  refine lv_isub hx hb dX2_numberFor_11 ?_
  obtain ⟨v2, ev2, h⟩ := nm_s h
  refine k_nmI ev2 ?_
  refine lv_istore (lv' := [(5, .int v2), (4, .int v1), (0, .ref (g.2.1 69)), (1, .int x1), (2, .int x2), (3, .int x3)]) hx hb dX2_numberFor_12 hl (by decide) rfl (fun ls hl => ?_)
  exact w_X2_numberFor_14 X   FU v1 v2 _ _ _ h Y (lv_sub hl [2, 3, 4, 5, 1, 0] rfl)
theorem c_X2_numberFor (l : Launch) {g : Gx} {x1 : Int32} {x2 : Int32} {x3 : Int32} {st : Sg} {r9 : Int32} (h : X2_numberFor x1 x2 x3 st = some r9) : MetI l yX2_numberFor cX2_numberFor 6 (some .int) rm_X2_numberFor g nwX (ceX g) [.ref (g.2.1 69), .int x1, .int x2, .int x3] st r9 st :=
  met_of (Qc := fun A => QI g nwX (ceX g) A r9 st) (by decide) (Nat.le_of_ble_eq_true rfl) (fun p e s m below meth c A ls X Y hl => w_X2_numberFor X h Y hl)
def X7_asks_53   (k0 : Int32) (st : Sg) : Option Int32 :=
  some k0
def X7_asks_25   (k1 : Int32) (x1 : Int32) (x2 : Int32) (st : Sg) : Option Int32 :=
  bnd1 (X7_ruleRefusalOf k1 st) fun v2 =>
  if v2 = (0 : Int32) then
    bnd1 (X2_numberFor x1 x2 (st.1 1 4) st) fun v5 =>
    X7_asks_53 v5 st
  else
    X7_asks_53 v2 st
def X7_asks_24   (x1 : Int32) (x2 : Int32) (st : Sg) : Option Int32 :=
  X7_asks_25 0 x1 x2 st
def X7_asks   (x1 : Int32) (x2 : Int32) (st : Sg) : Option Int32 :=
  bnd1 (X7_isWithin x1 0 5) fun v2 =>
  if v2 = (0 : Int32) then
    X7_asks_24 x1 x2 st
  else
    bnd1 (X7_isWithin x2 0 12) fun v5 =>
    if v5 = (0 : Int32) then
      X7_asks_24 x1 x2 st
    else
      X7_asks_25 1 x1 x2 st
abbrev rm_X7_asks : Room := { frames := 2, cells := 0, slots := 0, locals := 47 }
set_option maxHeartbeats 4000000 in
set_option maxRecDepth 100000 in
theorem w_X7_asks_53 (X : Cx g p s m args meth c cX7_asks 4 RX7 (some .int)) {k0 : Int32} {st : Sg} {r9 : Int32}  (h : X7_asks_53 k0 st = some r9) (Y : Hp g nwX (ceX g) A s.heap st H locs)  (hl : lv_has ls 4 []) : W p l e rm_X7_asks s m args below meth c H locs 0 0 (MQ below (QI g nwX (ceX g) A r9 st) args s 0 0 A) (F0 m 53 ls [.int k0]) := by
  have hx := X.1
  have hb := X.2.1
  unfold X7_asks_53 at h
  exact k_iretR X Y h dX7_asks_53
set_option maxHeartbeats 4000000 in
set_option maxRecDepth 100000 in
theorem w_X7_asks_25 (X : Cx g p s m args meth c cX7_asks 4 RX7 (some .int)) {k1 : Int32} {x1 : Int32} {x2 : Int32} {st : Sg} {r9 : Int32}  (h : X7_asks_25 k1 x1 x2 st = some r9) (Y : Hp g nwX (ceX g) A s.heap st H locs)  (hl : lv_has ls 4 [(0, .ref (g.2.1 0)), (1, .int x1), (2, .int x2)]) : W p l e rm_X7_asks s m args below meth c H locs 0 0 (MQ below (QI g nwX (ceX g) A r9 st) args s 0 0 A) (F0 m 25 ls [.int k1, .ref (g.2.1 0)]) := by
  have hx := X.1
  have hb := X.2.1
  unfold X7_asks_25 at h
  obtain ⟨v2, hc1, h⟩ := bnd1_s h
  refine k_cI Y (k_runV (As := [.int k1]) (rest := []) (o := 0) X Y cl_7_220 (c_X7_ruleRefusalOf l hc1 _) ⟨rfl, rfl, Nat.le_of_ble_eq_true rfl, Nat.le_of_ble_eq_true rfl⟩ (Nat.le_of_ble_eq_true rfl) rfl rfl hl.1 rfl (Nat.le_of_ble_eq_true rfl) dX7_asks_25 ⟨Nat.zero_le _, Nat.zero_le _⟩) (fun H locs Y => ?_)
  refine lv_istore_n (lv' := [(3, .int v2), (0, .ref (g.2.1 0)), (1, .int x1), (2, .int x2)]) hx hb dX7_asks_28 rfl hl (by decide) rfl (fun ls hl => ?_)
  refine lv_iload_n hx hb dX7_asks_29 rfl (lv_at hl 0 rfl) ?_
  refine lv_if_eq (tgt := 37) hx hb dX7_asks_30 (by decide) (fun c3 => ?_) (fun c3 => ?_)
  · have h := ite_t h c3
    refine lv_aload_n hx hb dX7_asks_37 rfl (lv_at hl 1 rfl) ?_
    refine k_get (v := .ref (g.2.1 69)) X Y fl_7_67 0 (Nat.le_of_ble_eq_true rfl) rfl rfl dX7_asks_38 ?_
    refine lv_iload_n hx hb dX7_asks_41 rfl (lv_at hl 2 rfl) ?_
    refine lv_iload_n hx hb dX7_asks_42 rfl (lv_at hl 3 rfl) ?_
    refine lv_aload_n hx hb dX7_asks_43 rfl (lv_at hl 1 rfl) ?_
    refine k_get (v := .ref (g.2.1 1)) X Y fl_7_10 0 (Nat.le_of_ble_eq_true rfl) rfl rfl dX7_asks_44 ?_
    refine k_get (v := .int (st.1 1 4)) X Y fl_7_97 1 (Nat.le_of_ble_eq_true rfl) rfl rfl dX7_asks_47 ?_
    obtain ⟨v5, hc4, h⟩ := bnd1_s h
    refine k_cI Y (k_runV (As := [.int x1, .int x2, .int (st.1 1 4)]) (rest := []) (o := 69) X Y cl_7_223 (c_X2_numberFor l hc4 _) ⟨rfl, rfl, Nat.le_of_ble_eq_true rfl, Nat.le_of_ble_eq_true rfl⟩ (Nat.le_of_ble_eq_true rfl) rfl rfl hl.1 rfl (Nat.le_of_ble_eq_true rfl) dX7_asks_50 ⟨Nat.zero_le _, Nat.zero_le _⟩) (fun H locs Y => ?_)
    exact w_X7_asks_53 X  h Y  (lv_sub hl [] rfl)
  · have h := ite_f h c3
    refine lv_iload_n hx hb dX7_asks_33 rfl (lv_at hl 0 rfl) ?_
    refine lv_goto (tgt := 53) hx hb dX7_asks_34 (by decide) ?_
    exact w_X7_asks_53 X  h Y  (lv_sub hl [] rfl)
set_option maxHeartbeats 4000000 in
set_option maxRecDepth 100000 in
theorem w_X7_asks_24 (X : Cx g p s m args meth c cX7_asks 4 RX7 (some .int)) {x1 : Int32} {x2 : Int32} {st : Sg} {r9 : Int32}  (h : X7_asks_24 x1 x2 st = some r9) (Y : Hp g nwX (ceX g) A s.heap st H locs)  (hl : lv_has ls 4 [(0, .ref (g.2.1 0)), (1, .int x1), (2, .int x2)]) : W p l e rm_X7_asks s m args below meth c H locs 0 0 (MQ below (QI g nwX (ceX g) A r9 st) args s 0 0 A) (F0 m 24 ls [.ref (g.2.1 0)]) := by
  have hx := X.1
  have hb := X.2.1
  unfold X7_asks_24 at h
  refine lv_iconst (v := 0) hx hb dX7_asks_24 (by decide) ?_
  exact w_X7_asks_25 X  h Y  (lv_sub hl [0, 1, 2] rfl)
set_option maxHeartbeats 4000000 in
set_option maxRecDepth 100000 in
theorem w_X7_asks (X : Cx g p s m args meth c cX7_asks 4 RX7 (some .int)) {x1 : Int32} {x2 : Int32} {st : Sg} {r9 : Int32}  (h : X7_asks x1 x2 st = some r9) (Y : Hp g nwX (ceX g) A s.heap st H locs)  (hl : lv_has ls 4 [(0, .ref (g.2.1 0)), (1, .int x1), (2, .int x2)]) : W p l e rm_X7_asks s m args below meth c H locs 0 0 (MQ below (QI g nwX (ceX g) A r9 st) args s 0 0 A) (F0 m 0 ls []) := by
  have hx := X.1
  have hb := X.2.1
  unfold X7_asks at h
  refine lv_aload_n hx hb dX7_asks_0 rfl (lv_at hl 0 rfl) ?_
  refine lv_iload_n hx hb dX7_asks_1 rfl (lv_at hl 1 rfl) ?_
  refine lv_iconst (v := 0) hx hb dX7_asks_2 (by decide) ?_
  refine lv_iconst (v := 5) hx hb dX7_asks_3 (by decide) ?_
  obtain ⟨v2, hc1, h⟩ := bnd1_s h
  refine k_cI Y (k_runS (As := [.int x1, .int 0, .int 5]) (rest := [.ref (g.2.1 0)]) X Y cl_7_81 (c_X7_isWithin l hc1 _) ⟨rfl, rfl, Nat.le_of_ble_eq_true rfl, Nat.le_of_ble_eq_true rfl⟩ rfl hl.1 rfl (Nat.le_of_ble_eq_true rfl) dX7_asks_4 ⟨Nat.zero_le _, Nat.zero_le _⟩) (fun H locs Y => ?_)
  refine lv_if_eq (tgt := 24) hx hb dX7_asks_7 (by decide) (fun c3 => ?_) (fun c3 => ?_)
  · have h := ite_t h c3
    exact w_X7_asks_24 X  h Y  (lv_sub hl [0, 1, 2] rfl)
  · have h := ite_f h c3
    refine lv_iload_n hx hb dX7_asks_10 rfl (lv_at hl 2 rfl) ?_
    refine lv_iconst (v := 0) hx hb dX7_asks_11 (by decide) ?_
    refine lv_bipush (v := 12) hx hb dX7_asks_12 (by decide) ?_
    obtain ⟨v5, hc4, h⟩ := bnd1_s h
    refine k_cI Y (k_runS (As := [.int x2, .int 0, .int 12]) (rest := [.ref (g.2.1 0)]) X Y cl_7_81 (c_X7_isWithin l hc4 _) ⟨rfl, rfl, Nat.le_of_ble_eq_true rfl, Nat.le_of_ble_eq_true rfl⟩ rfl hl.1 rfl (Nat.le_of_ble_eq_true rfl) dX7_asks_14 ⟨Nat.zero_le _, Nat.zero_le _⟩) (fun H locs Y => ?_)
    refine lv_if_eq (tgt := 24) hx hb dX7_asks_17 (by decide) (fun c6 => ?_) (fun c6 => ?_)
    · have h := ite_t h c6
      exact w_X7_asks_24 X  h Y  (lv_sub hl [0, 1, 2] rfl)
    · have h := ite_f h c6
      refine lv_iconst (v := 1) hx hb dX7_asks_20 (by decide) ?_
      refine lv_goto (tgt := 25) hx hb dX7_asks_21 (by decide) ?_
      exact w_X7_asks_25 X  h Y  (lv_sub hl [0, 1, 2] rfl)
theorem c_X7_asks (l : Launch) {g : Gx} {x1 : Int32} {x2 : Int32} {st : Sg} {r9 : Int32} (h : X7_asks x1 x2 st = some r9) : MetI l yX7_asks cX7_asks 4 (some .int) rm_X7_asks g nwX (ceX g) [.ref (g.2.1 0), .int x1, .int x2] st r9 st :=
  met_of (Qc := fun A => QI g nwX (ceX g) A r9 st) (by decide) (Nat.le_of_ble_eq_true rfl) (fun p e s m below meth c A ls X Y hl => w_X7_asks X h Y hl)
def X7_isDay   (x1 : Int32) (st : Sg) : Option Int32 :=
  bnd1 (X7_isWithin x1 0 ((st.1 1 1) - 1)) fun v2 =>
  cb01 v2 <| some v2
abbrev rm_X7_isDay : Room := { frames := 1, cells := 0, slots := 0, locals := 22 }
set_option maxHeartbeats 4000000 in
set_option maxRecDepth 100000 in
theorem w_X7_isDay (X : Cx g p s m args meth c cX7_isDay 2 RX7 (some .boolean)) {x1 : Int32} {st : Sg} {r9 : Int32}  (h : X7_isDay x1 st = some r9) (Y : Hp g nwX (ceX g) A s.heap st H locs)  (hl : lv_has ls 2 [(0, .ref (g.2.1 0)), (1, .int x1)]) : W p l e rm_X7_isDay s m args below meth c H locs 0 0 (MQ below (QI g nwX (ceX g) A r9 st) args s 0 0 A) (F0 m 0 ls []) := by
  have hx := X.1
  have hb := X.2.1
  unfold X7_isDay at h
  refine lv_iload_n hx hb dX7_isDay_0 rfl (lv_at hl 1 rfl) ?_
  refine lv_iconst (v := 0) hx hb dX7_isDay_1 (by decide) ?_
  refine lv_aload_n hx hb dX7_isDay_2 rfl (lv_at hl 0 rfl) ?_
  refine k_get (v := .ref (g.2.1 1)) X Y fl_7_10 0 (Nat.le_of_ble_eq_true rfl) rfl rfl dX7_isDay_3 ?_
  refine k_get (v := .int (st.1 1 1)) X Y fl_7_88 1 (Nat.le_of_ble_eq_true rfl) rfl rfl dX7_isDay_6 ?_
  refine lv_iconst (v := 1) hx hb dX7_isDay_9 (by decide) ?_
  refine lv_isub hx hb dX7_isDay_10 ?_
  obtain ⟨v2, hc1, h⟩ := bnd1_s h
  refine k_cI Y (k_runS (As := [.int x1, .int 0, .int ((st.1 1 1) - 1)]) (rest := []) X Y cl_7_81 (c_X7_isWithin l hc1 _) ⟨rfl, rfl, Nat.le_of_ble_eq_true rfl, Nat.le_of_ble_eq_true rfl⟩ rfl hl.1 rfl (Nat.le_of_ble_eq_true rfl) dX7_isDay_11 ⟨Nat.zero_le _, Nat.zero_le _⟩) (fun H locs Y => ?_)
  obtain ⟨b3, h⟩ := cb01_s h
  exact k_zretR X Y b3 h dX7_isDay_14
theorem c_X7_isDay (l : Launch) {g : Gx} {x1 : Int32} {st : Sg} {r9 : Int32} (h : X7_isDay x1 st = some r9) : MetI l yX7_isDay cX7_isDay 2 (some .boolean) rm_X7_isDay g nwX (ceX g) [.ref (g.2.1 0), .int x1] st r9 st :=
  met_of (Qc := fun A => QI g nwX (ceX g) A r9 st) (by decide) (Nat.le_of_ble_eq_true rfl) (fun p e s m below meth c A ls X Y hl => w_X7_isDay X h Y hl)
def X4_fillEnd_33 (b : Nat)   (st : Sg) : Option Sg :=
  some st
def X4_fillEnd_2b (b : Nat) (rc2 : Int32 → Sg → Option Sg) (x2 : Int32) (st : Sg) : Option Sg :=
  if (12 : Int32) < x2 then
    X4_fillEnd_33 b st
  else
    cix (st.1 1 1) 7 <|
    cix x2 13 <|
    nm (sJ st ((b + 2) + (st.1 1 1).toNatClampNeg) x2.toNatClampNeg (((st.1 1 2).toInt64) * (x2.toInt64))) fun st4 =>
    nm (x2 + 1) fun v5 =>
    rc2 v5 st4
def X4_fillEnd_2 (b : Nat)   : Nat → Int32 → Sg → Option Sg
  | 0, _, _ => none
  | k + 1, x2, st => X4_fillEnd_2b b  (X4_fillEnd_2 b k) x2 st
def X4_fillEnd (b : Nat)   (st : Sg) : Option Sg :=
  X4_fillEnd_2 b FU 0 st
abbrev rm_X4_fillEnd : Room := { frames := 0, cells := 0, slots := 0, locals := 0 }
set_option maxHeartbeats 4000000 in
set_option maxRecDepth 100000 in
theorem w_X4_fillEnd_33_8 (X : Cx g p s m args meth c cX4_fillEnd 3 RX4 none)  {st : Sg} {st9 : Sg}  (h : X4_fillEnd_33 8 st = some st9) (Y : Hp g nwX (ceX g) A s.heap st H locs)  (hl : lv_has ls 3 []) : W p l e rm_X4_fillEnd s m args below meth c H locs 0 0 (MQ below (QV g nwX (ceX g) A st9) args s 0 0 A) (F0 m 33 ls []) := by
  have hx := X.1
  have hb := X.2.1
  unfold X4_fillEnd_33 at h
  exact k_vretW X Y h dX4_fillEnd_33
set_option maxHeartbeats 4000000 in
set_option maxRecDepth 100000 in
theorem w_X4_fillEnd_2b_8 (X : Cx g p s m args meth c cX4_fillEnd 3 RX4 none) {x2 : Int32} {st : Sg} {st9 : Sg} (rc2 : Int32 → Sg → Option Sg) (hrc2 : ∀ (x2 : Int32) (st : Sg) (ls : Array Slot) (H : Heap) (locs : List Loc), rc2 x2 st = some st9 → Hp g nwX (ceX g) A s.heap st H locs → lv_has ls 3 [(0, .ref (g.2.1 8)), (1, .ref (g.2.1 1)), (2, .int x2)] → W p l e rm_X4_fillEnd s m args below meth c H locs 0 0 (MQ below (QV g nwX (ceX g) A st9) args s 0 0 A) (F0 m 2 ls [])) (h : X4_fillEnd_2b 8 rc2 x2 st = some st9) (Y : Hp g nwX (ceX g) A s.heap st H locs)  (hl : lv_has ls 3 [(0, .ref (g.2.1 8)), (1, .ref (g.2.1 1)), (2, .int x2)]) : W p l e rm_X4_fillEnd s m args below meth c H locs 0 0 (MQ below (QV g nwX (ceX g) A st9) args s 0 0 A) (F0 m 2 ls []) := by
  have hx := X.1
  have hb := X.2.1
  unfold X4_fillEnd_2b at h
  refine lv_iload_n hx hb dX4_fillEnd_2 rfl (lv_at hl 2 rfl) ?_
  refine lv_bipush (v := 12) hx hb dX4_fillEnd_3 (by decide) ?_
  refine lv_icmp_gt (tgt := 33) hx hb dX4_fillEnd_5 (by decide) (fun c1 => ?_) (fun c1 => ?_)
  · have h := ite_t h c1
    exact w_X4_fillEnd_33_8 X  h Y  (lv_sub hl [] rfl)
  · have h := ite_f h c1
    refine lv_aload_n hx hb dX4_fillEnd_8 rfl (lv_at hl 0 rfl) ?_
    refine k_get (v := .ref (g.2.1 9)) X Y fl_4_11 8 (Nat.le_of_ble_eq_true rfl) rfl rfl dX4_fillEnd_9 ?_
    refine lv_aload_n hx hb dX4_fillEnd_12 rfl (lv_at hl 1 rfl) ?_
    refine k_get (v := .int (st.1 1 1)) X Y fl_4_35 1 (Nat.le_of_ble_eq_true rfl) rfl rfl dX4_fillEnd_13 ?_
    obtain ⟨i2, h⟩ := cix_s h
    refine k_aaldJ (b := 10) X Y 9 (Nat.le_of_ble_eq_true rfl) (fun _ _ => rfl) i2 dX4_fillEnd_16 ?_
    refine lv_iload_n hx hb dX4_fillEnd_17 rfl (lv_at hl 2 rfl) ?_
    refine lv_aload_n hx hb dX4_fillEnd_18 rfl (lv_at hl 1 rfl) ?_
    refine k_get (v := .int (st.1 1 2)) X Y fl_4_55 1 (Nat.le_of_ble_eq_true rfl) rfl rfl dX4_fillEnd_19 ?_
    refine lv_i2l hx hb dX4_fillEnd_22 rfl ?_
    refine lv_iload_n hx hb dX4_fillEnd_23 rfl (lv_at hl 2 rfl) ?_
    refine lv_i2l hx hb dX4_fillEnd_24 rfl ?_
    refine lv_lmul hx hb dX4_fillEnd_25 ?_
    obtain ⟨i3, h⟩ := cix_s h
    refine k_last X Y (10 + (st.1 1 1).toNatClampNeg) (row_lt i2 (Nat.le_of_ble_eq_true rfl)) (rowX_10 _ (vp_lt i2)) i3 dX4_fillEnd_26 (fun H locs Y => ?_)
    obtain ⟨st4, est4, h⟩ := nm_s h
    have Y : Hp g nwX (ceX g) A s.heap st4 H locs := by rw [est4]; exact Y
    obtain ⟨v5, ev5, h⟩ := nm_s h
    refine lv_iinc (v := v5) (lv' := [(2, .int v5), (0, .ref (g.2.1 8)), (1, .ref (g.2.1 1))]) hx hb dX4_fillEnd_27 hl (k := 2) rfl (by rw [ev5]; rfl) (by decide) rfl (fun ls hl => ?_)
    refine lv_goto (tgt := 2) hx hb dX4_fillEnd_30 (by decide) ?_
    exact hrc2 v5 st4 _ _ _ h Y (lv_sub hl [1, 2, 0] rfl)
theorem w_X4_fillEnd_2_8 (X : Cx g p s m args meth c cX4_fillEnd 3 RX4 none)   {st9 : Sg}   : ∀ (k : Nat) (x2 : Int32) (st : Sg) (ls : Array Slot) (H : Heap) (locs : List Loc), X4_fillEnd_2 8 k x2 st = some st9 → Hp g nwX (ceX g) A s.heap st H locs → lv_has ls 3 [(0, .ref (g.2.1 8)), (1, .ref (g.2.1 1)), (2, .int x2)] → W p l e rm_X4_fillEnd s m args below meth c H locs 0 0 (MQ below (QV g nwX (ceX g) A st9) args s 0 0 A) (F0 m 2 ls []) := by
  intro k
  induction k with
  | zero =>
    intro x2 st ls H locs h
    exact none_s h
  | succ k ih =>
    intro x2 st ls H locs h Y hl
    exact w_X4_fillEnd_2b_8 X  (X4_fillEnd_2 8 k) ih h Y  hl
set_option maxHeartbeats 4000000 in
set_option maxRecDepth 100000 in
theorem w_X4_fillEnd_8 (X : Cx g p s m args meth c cX4_fillEnd 3 RX4 none)  {st : Sg} {st9 : Sg}  (h : X4_fillEnd 8 st = some st9) (Y : Hp g nwX (ceX g) A s.heap st H locs)  (hl : lv_has ls 3 [(0, .ref (g.2.1 8)), (1, .ref (g.2.1 1))]) : W p l e rm_X4_fillEnd s m args below meth c H locs 0 0 (MQ below (QV g nwX (ceX g) A st9) args s 0 0 A) (F0 m 0 ls []) := by
  have hx := X.1
  have hb := X.2.1
  unfold X4_fillEnd at h
  refine lv_iconst (v := 0) hx hb dX4_fillEnd_0 (by decide) ?_
  refine lv_istore_n (lv' := [(2, .int 0), (0, .ref (g.2.1 8)), (1, .ref (g.2.1 1))]) hx hb dX4_fillEnd_1 rfl hl (by decide) rfl (fun ls hl => ?_)
  exact w_X4_fillEnd_2_8 X   FU 0 st _ _ _ h Y (lv_sub hl [1, 2, 0] rfl)
theorem c_X4_fillEnd_8 (l : Launch) {g : Gx}  {st : Sg} {st9 : Sg} (h : X4_fillEnd 8 st = some st9) : MetV l yX4_fillEnd cX4_fillEnd 3 none rm_X4_fillEnd g nwX (ceX g) [.ref (g.2.1 8), .ref (g.2.1 1)] st st9 :=
  met_of (Qc := fun A => QV g nwX (ceX g) A st9) (by decide) (Nat.le_of_ble_eq_true rfl) (fun p e s m below meth c A ls X Y hl => w_X4_fillEnd_8 X h Y hl)
set_option maxHeartbeats 4000000 in
set_option maxRecDepth 100000 in
theorem w_X4_fillEnd_33_25 (X : Cx g p s m args meth c cX4_fillEnd 3 RX4 none)  {st : Sg} {st9 : Sg}  (h : X4_fillEnd_33 25 st = some st9) (Y : Hp g nwX (ceX g) A s.heap st H locs)  (hl : lv_has ls 3 []) : W p l e rm_X4_fillEnd s m args below meth c H locs 0 0 (MQ below (QV g nwX (ceX g) A st9) args s 0 0 A) (F0 m 33 ls []) := by
  have hx := X.1
  have hb := X.2.1
  unfold X4_fillEnd_33 at h
  exact k_vretW X Y h dX4_fillEnd_33
set_option maxHeartbeats 4000000 in
set_option maxRecDepth 100000 in
theorem w_X4_fillEnd_2b_25 (X : Cx g p s m args meth c cX4_fillEnd 3 RX4 none) {x2 : Int32} {st : Sg} {st9 : Sg} (rc2 : Int32 → Sg → Option Sg) (hrc2 : ∀ (x2 : Int32) (st : Sg) (ls : Array Slot) (H : Heap) (locs : List Loc), rc2 x2 st = some st9 → Hp g nwX (ceX g) A s.heap st H locs → lv_has ls 3 [(0, .ref (g.2.1 25)), (1, .ref (g.2.1 1)), (2, .int x2)] → W p l e rm_X4_fillEnd s m args below meth c H locs 0 0 (MQ below (QV g nwX (ceX g) A st9) args s 0 0 A) (F0 m 2 ls [])) (h : X4_fillEnd_2b 25 rc2 x2 st = some st9) (Y : Hp g nwX (ceX g) A s.heap st H locs)  (hl : lv_has ls 3 [(0, .ref (g.2.1 25)), (1, .ref (g.2.1 1)), (2, .int x2)]) : W p l e rm_X4_fillEnd s m args below meth c H locs 0 0 (MQ below (QV g nwX (ceX g) A st9) args s 0 0 A) (F0 m 2 ls []) := by
  have hx := X.1
  have hb := X.2.1
  unfold X4_fillEnd_2b at h
  refine lv_iload_n hx hb dX4_fillEnd_2 rfl (lv_at hl 2 rfl) ?_
  refine lv_bipush (v := 12) hx hb dX4_fillEnd_3 (by decide) ?_
  refine lv_icmp_gt (tgt := 33) hx hb dX4_fillEnd_5 (by decide) (fun c1 => ?_) (fun c1 => ?_)
  · have h := ite_t h c1
    exact w_X4_fillEnd_33_25 X  h Y  (lv_sub hl [] rfl)
  · have h := ite_f h c1
    refine lv_aload_n hx hb dX4_fillEnd_8 rfl (lv_at hl 0 rfl) ?_
    refine k_get (v := .ref (g.2.1 26)) X Y fl_4_11 25 (Nat.le_of_ble_eq_true rfl) rfl rfl dX4_fillEnd_9 ?_
    refine lv_aload_n hx hb dX4_fillEnd_12 rfl (lv_at hl 1 rfl) ?_
    refine k_get (v := .int (st.1 1 1)) X Y fl_4_35 1 (Nat.le_of_ble_eq_true rfl) rfl rfl dX4_fillEnd_13 ?_
    obtain ⟨i2, h⟩ := cix_s h
    refine k_aaldJ (b := 27) X Y 26 (Nat.le_of_ble_eq_true rfl) (fun _ _ => rfl) i2 dX4_fillEnd_16 ?_
    refine lv_iload_n hx hb dX4_fillEnd_17 rfl (lv_at hl 2 rfl) ?_
    refine lv_aload_n hx hb dX4_fillEnd_18 rfl (lv_at hl 1 rfl) ?_
    refine k_get (v := .int (st.1 1 2)) X Y fl_4_55 1 (Nat.le_of_ble_eq_true rfl) rfl rfl dX4_fillEnd_19 ?_
    refine lv_i2l hx hb dX4_fillEnd_22 rfl ?_
    refine lv_iload_n hx hb dX4_fillEnd_23 rfl (lv_at hl 2 rfl) ?_
    refine lv_i2l hx hb dX4_fillEnd_24 rfl ?_
    refine lv_lmul hx hb dX4_fillEnd_25 ?_
    obtain ⟨i3, h⟩ := cix_s h
    refine k_last X Y (27 + (st.1 1 1).toNatClampNeg) (row_lt i2 (Nat.le_of_ble_eq_true rfl)) (rowX_27 _ (vp_lt i2)) i3 dX4_fillEnd_26 (fun H locs Y => ?_)
    obtain ⟨st4, est4, h⟩ := nm_s h
    have Y : Hp g nwX (ceX g) A s.heap st4 H locs := by rw [est4]; exact Y
    obtain ⟨v5, ev5, h⟩ := nm_s h
    refine lv_iinc (v := v5) (lv' := [(2, .int v5), (0, .ref (g.2.1 25)), (1, .ref (g.2.1 1))]) hx hb dX4_fillEnd_27 hl (k := 2) rfl (by rw [ev5]; rfl) (by decide) rfl (fun ls hl => ?_)
    refine lv_goto (tgt := 2) hx hb dX4_fillEnd_30 (by decide) ?_
    exact hrc2 v5 st4 _ _ _ h Y (lv_sub hl [1, 2, 0] rfl)
theorem w_X4_fillEnd_2_25 (X : Cx g p s m args meth c cX4_fillEnd 3 RX4 none)   {st9 : Sg}   : ∀ (k : Nat) (x2 : Int32) (st : Sg) (ls : Array Slot) (H : Heap) (locs : List Loc), X4_fillEnd_2 25 k x2 st = some st9 → Hp g nwX (ceX g) A s.heap st H locs → lv_has ls 3 [(0, .ref (g.2.1 25)), (1, .ref (g.2.1 1)), (2, .int x2)] → W p l e rm_X4_fillEnd s m args below meth c H locs 0 0 (MQ below (QV g nwX (ceX g) A st9) args s 0 0 A) (F0 m 2 ls []) := by
  intro k
  induction k with
  | zero =>
    intro x2 st ls H locs h
    exact none_s h
  | succ k ih =>
    intro x2 st ls H locs h Y hl
    exact w_X4_fillEnd_2b_25 X  (X4_fillEnd_2 25 k) ih h Y  hl
set_option maxHeartbeats 4000000 in
set_option maxRecDepth 100000 in
theorem w_X4_fillEnd_25 (X : Cx g p s m args meth c cX4_fillEnd 3 RX4 none)  {st : Sg} {st9 : Sg}  (h : X4_fillEnd 25 st = some st9) (Y : Hp g nwX (ceX g) A s.heap st H locs)  (hl : lv_has ls 3 [(0, .ref (g.2.1 25)), (1, .ref (g.2.1 1))]) : W p l e rm_X4_fillEnd s m args below meth c H locs 0 0 (MQ below (QV g nwX (ceX g) A st9) args s 0 0 A) (F0 m 0 ls []) := by
  have hx := X.1
  have hb := X.2.1
  unfold X4_fillEnd at h
  refine lv_iconst (v := 0) hx hb dX4_fillEnd_0 (by decide) ?_
  refine lv_istore_n (lv' := [(2, .int 0), (0, .ref (g.2.1 25)), (1, .ref (g.2.1 1))]) hx hb dX4_fillEnd_1 rfl hl (by decide) rfl (fun ls hl => ?_)
  exact w_X4_fillEnd_2_25 X   FU 0 st _ _ _ h Y (lv_sub hl [1, 2, 0] rfl)
theorem c_X4_fillEnd_25 (l : Launch) {g : Gx}  {st : Sg} {st9 : Sg} (h : X4_fillEnd 25 st = some st9) : MetV l yX4_fillEnd cX4_fillEnd 3 none rm_X4_fillEnd g nwX (ceX g) [.ref (g.2.1 25), .ref (g.2.1 1)] st st9 :=
  met_of (Qc := fun A => QV g nwX (ceX g) A st9) (by decide) (Nat.le_of_ble_eq_true rfl) (fun p e s m below meth c A ls X Y hl => w_X4_fillEnd_25 X h Y hl)
def X3_scale   (x1 : Int32) (st : Sg) : Option Int64 :=
  some (1 <<< (((2 * (st.1 1 9)) * x1).toInt64 &&& 63))
abbrev rm_X3_scale : Room := { frames := 0, cells := 0, slots := 0, locals := 0 }
set_option maxHeartbeats 4000000 in
set_option maxRecDepth 100000 in
theorem w_X3_scale (X : Cx g p s m args meth c cX3_scale 2 RX3 (some .long)) {x1 : Int32} {st : Sg} {r9 : Int64}  (h : X3_scale x1 st = some r9) (Y : Hp g nwX (ceX g) A s.heap st H locs)  (hl : lv_has ls 2 [(0, .ref (g.2.1 1)), (1, .int x1)]) : W p l e rm_X3_scale s m args below meth c H locs 0 0 (MQ below (QJ g nwX (ceX g) A r9 st) args s 0 0 A) (F0 m 0 ls []) := by
  have hx := X.1
  have hb := X.2.1
  unfold X3_scale at h
  refine lv_lconst (v := 1) hx hb dX3_scale_0 (by decide) ?_
  refine lv_iconst (v := 2) hx hb dX3_scale_1 (by decide) ?_
  refine lv_aload_n hx hb dX3_scale_2 rfl (lv_at hl 0 rfl) ?_
  refine k_get (v := .int (st.1 1 9)) X Y fl_3_40 1 (Nat.le_of_ble_eq_true rfl) rfl rfl dX3_scale_3 ?_
  refine lv_imul hx hb dX3_scale_6 ?_
  refine lv_iload_n hx hb dX3_scale_7 rfl (lv_at hl 1 rfl) ?_
  refine lv_imul hx hb dX3_scale_8 ?_
  refine lv_lshl hx hb dX3_scale_9 rfl ?_
  exact k_lretR X Y h dX3_scale_10
theorem c_X3_scale (l : Launch) {g : Gx} {x1 : Int32} {st : Sg} {r9 : Int64} (h : X3_scale x1 st = some r9) : MetJ l yX3_scale cX3_scale 2 (some .long) rm_X3_scale g nwX (ceX g) [.ref (g.2.1 1), .int x1] st r9 st :=
  met_of (Qc := fun A => QJ g nwX (ceX g) A r9 st) (by decide) (Nat.le_of_ble_eq_true rfl) (fun p e s m below meth c A ls X Y hl => w_X3_scale X h Y hl)
def X3_worthOn_25   (k0 : Int32) (st : Sg) : Option Int32 :=
  some k0
def X3_worthOn   (x1 : Int32) (x2 : Int32) (st : Sg) : Option Int32 :=
  cix x1 3 <|
  cix x1 3 <|
  nm ((st.1 4 x1.toNatClampNeg) - ((st.1 5 x1.toNatClampNeg) * x2)) fun v3 =>
  if v3 ≤ (0 : Int32) then
    X3_worthOn_25 0 st
  else
    X3_worthOn_25 v3 st
abbrev rm_X3_worthOn : Room := { frames := 0, cells := 0, slots := 0, locals := 0 }
set_option maxHeartbeats 4000000 in
set_option maxRecDepth 100000 in
theorem w_X3_worthOn_25 (X : Cx g p s m args meth c cX3_worthOn 4 RX3 (some .int)) {k0 : Int32} {st : Sg} {r9 : Int32}  (h : X3_worthOn_25 k0 st = some r9) (Y : Hp g nwX (ceX g) A s.heap st H locs)  (hl : lv_has ls 4 []) : W p l e rm_X3_worthOn s m args below meth c H locs 0 0 (MQ below (QI g nwX (ceX g) A r9 st) args s 0 0 A) (F0 m 25 ls [.int k0]) := by
  have hx := X.1
  have hb := X.2.1
  unfold X3_worthOn_25 at h
  exact k_iretR X Y h dX3_worthOn_25
set_option maxHeartbeats 4000000 in
set_option maxRecDepth 100000 in
theorem w_X3_worthOn (X : Cx g p s m args meth c cX3_worthOn 4 RX3 (some .int)) {x1 : Int32} {x2 : Int32} {st : Sg} {r9 : Int32}  (h : X3_worthOn x1 x2 st = some r9) (Y : Hp g nwX (ceX g) A s.heap st H locs)  (hl : lv_has ls 4 [(0, .ref (g.2.1 1)), (1, .int x1), (2, .int x2)]) : W p l e rm_X3_worthOn s m args below meth c H locs 0 0 (MQ below (QI g nwX (ceX g) A r9 st) args s 0 0 A) (F0 m 0 ls []) := by
  have hx := X.1
  have hb := X.2.1
  unfold X3_worthOn at h
  refine lv_aload_n hx hb dX3_worthOn_0 rfl (lv_at hl 0 rfl) ?_
  refine k_get (v := .ref (g.2.1 4)) X Y fl_3_31 1 (Nat.le_of_ble_eq_true rfl) rfl rfl dX3_worthOn_1 ?_
  refine lv_iload_n hx hb dX3_worthOn_4 rfl (lv_at hl 1 rfl) ?_
  obtain ⟨i1, h⟩ := cix_s h
  refine k_iald X Y 4 (Nat.le_of_ble_eq_true rfl) (fun _ _ => rfl) i1 dX3_worthOn_5 ?_
  refine lv_aload_n hx hb dX3_worthOn_6 rfl (lv_at hl 0 rfl) ?_
  refine k_get (v := .ref (g.2.1 5)) X Y fl_3_34 1 (Nat.le_of_ble_eq_true rfl) rfl rfl dX3_worthOn_7 ?_
  refine lv_iload_n hx hb dX3_worthOn_10 rfl (lv_at hl 1 rfl) ?_
  obtain ⟨i2, h⟩ := cix_s h
  refine k_iald X Y 5 (Nat.le_of_ble_eq_true rfl) (fun _ _ => rfl) i2 dX3_worthOn_11 ?_
  refine lv_iload_n hx hb dX3_worthOn_12 rfl (lv_at hl 2 rfl) ?_
  refine lv_imul hx hb dX3_worthOn_13 ?_
  refine lv_isub hx hb dX3_worthOn_14 ?_
  obtain ⟨v3, ev3, h⟩ := nm_s h
  refine k_nmI ev3 ?_
  refine lv_istore_n (lv' := [(3, .int v3), (0, .ref (g.2.1 1)), (1, .int x1), (2, .int x2)]) hx hb dX3_worthOn_15 rfl hl (by decide) rfl (fun ls hl => ?_)
  refine lv_iload_n hx hb dX3_worthOn_16 rfl (lv_at hl 0 rfl) ?_
  refine lv_if_le (tgt := 24) hx hb dX3_worthOn_17 (by decide) (fun c4 => ?_) (fun c4 => ?_)
  · have h := ite_t h c4
    refine lv_iconst (v := 0) hx hb dX3_worthOn_24 (by decide) ?_
    exact w_X3_worthOn_25 X  h Y  (lv_sub hl [] rfl)
  · have h := ite_f h c4
    refine lv_iload_n hx hb dX3_worthOn_20 rfl (lv_at hl 0 rfl) ?_
    refine lv_goto (tgt := 25) hx hb dX3_worthOn_21 (by decide) ?_
    exact w_X3_worthOn_25 X  h Y  (lv_sub hl [] rfl)
theorem c_X3_worthOn (l : Launch) {g : Gx} {x1 : Int32} {x2 : Int32} {st : Sg} {r9 : Int32} (h : X3_worthOn x1 x2 st = some r9) : MetI l yX3_worthOn cX3_worthOn 4 (some .int) rm_X3_worthOn g nwX (ceX g) [.ref (g.2.1 1), .int x1, .int x2] st r9 st :=
  met_of (Qc := fun A => QI g nwX (ceX g) A r9 st) (by decide) (Nat.le_of_ble_eq_true rfl) (fun p e s m below meth c A ls X Y hl => w_X3_worthOn X h Y hl)
def X3_chanceToBuy_25   (k0 : Int32) (st : Sg) : Option Int32 :=
  some k0
def X3_chanceToBuy   (x1 : Int32) (x2 : Int32) (x3 : Int32) (st : Sg) : Option Int32 :=
  bnd1 (X3_worthOn x1 x2 st) fun v2 =>
  cix x3 5 <|
  if v2 < (st.1 2 x3.toNatClampNeg) then
    X3_chanceToBuy_25 0 st
  else
    cix x1 3 <|
    X3_chanceToBuy_25 (st.1 3 x1.toNatClampNeg) st
abbrev rm_X3_chanceToBuy : Room := { frames := 1, cells := 0, slots := 0, locals := 23 }
set_option maxHeartbeats 4000000 in
set_option maxRecDepth 100000 in
theorem w_X3_chanceToBuy_25 (X : Cx g p s m args meth c cX3_chanceToBuy 4 RX3 (some .int)) {k0 : Int32} {st : Sg} {r9 : Int32}  (h : X3_chanceToBuy_25 k0 st = some r9) (Y : Hp g nwX (ceX g) A s.heap st H locs)  (hl : lv_has ls 4 []) : W p l e rm_X3_chanceToBuy s m args below meth c H locs 0 0 (MQ below (QI g nwX (ceX g) A r9 st) args s 0 0 A) (F0 m 25 ls [.int k0]) := by
  have hx := X.1
  have hb := X.2.1
  unfold X3_chanceToBuy_25 at h
  exact k_iretR X Y h dX3_chanceToBuy_25
set_option maxHeartbeats 4000000 in
set_option maxRecDepth 100000 in
theorem w_X3_chanceToBuy (X : Cx g p s m args meth c cX3_chanceToBuy 4 RX3 (some .int)) {x1 : Int32} {x2 : Int32} {x3 : Int32} {st : Sg} {r9 : Int32}  (h : X3_chanceToBuy x1 x2 x3 st = some r9) (Y : Hp g nwX (ceX g) A s.heap st H locs)  (hl : lv_has ls 4 [(0, .ref (g.2.1 1)), (1, .int x1), (2, .int x2), (3, .int x3)]) : W p l e rm_X3_chanceToBuy s m args below meth c H locs 0 0 (MQ below (QI g nwX (ceX g) A r9 st) args s 0 0 A) (F0 m 0 ls []) := by
  have hx := X.1
  have hb := X.2.1
  unfold X3_chanceToBuy at h
  refine lv_aload_n hx hb dX3_chanceToBuy_0 rfl (lv_at hl 0 rfl) ?_
  refine lv_iload_n hx hb dX3_chanceToBuy_1 rfl (lv_at hl 1 rfl) ?_
  refine lv_iload_n hx hb dX3_chanceToBuy_2 rfl (lv_at hl 2 rfl) ?_
  obtain ⟨v2, hc1, h⟩ := bnd1_s h
  refine k_cI Y (k_runV (As := [.int x1, .int x2]) (rest := []) (o := 1) X Y cl_3_50 (c_X3_worthOn l hc1 _) ⟨rfl, rfl, Nat.le_of_ble_eq_true rfl, Nat.le_of_ble_eq_true rfl⟩ (Nat.le_of_ble_eq_true rfl) rfl rfl hl.1 rfl (Nat.le_of_ble_eq_true rfl) dX3_chanceToBuy_3 ⟨Nat.zero_le _, Nat.zero_le _⟩) (fun H locs Y => ?_)
  refine lv_aload_n hx hb dX3_chanceToBuy_6 rfl (lv_at hl 0 rfl) ?_
  refine k_get (v := .ref (g.2.1 2)) X Y fl_3_21 1 (Nat.le_of_ble_eq_true rfl) rfl rfl dX3_chanceToBuy_7 ?_
  refine lv_iload_n hx hb dX3_chanceToBuy_10 rfl (lv_at hl 3 rfl) ?_
  obtain ⟨i3, h⟩ := cix_s h
  refine k_iald X Y 2 (Nat.le_of_ble_eq_true rfl) (fun _ _ => rfl) i3 dX3_chanceToBuy_11 ?_
  refine lv_icmp_lt (tgt := 24) hx hb dX3_chanceToBuy_12 (by decide) (fun c4 => ?_) (fun c4 => ?_)
  · have h := ite_t h c4
    refine lv_iconst (v := 0) hx hb dX3_chanceToBuy_24 (by decide) ?_
    exact w_X3_chanceToBuy_25 X  h Y  (lv_sub hl [] rfl)
  · have h := ite_f h c4
    refine lv_aload_n hx hb dX3_chanceToBuy_15 rfl (lv_at hl 0 rfl) ?_
    refine k_get (v := .ref (g.2.1 3)) X Y fl_3_28 1 (Nat.le_of_ble_eq_true rfl) rfl rfl dX3_chanceToBuy_16 ?_
    refine lv_iload_n hx hb dX3_chanceToBuy_19 rfl (lv_at hl 1 rfl) ?_
    obtain ⟨i5, h⟩ := cix_s h
    refine k_iald X Y 3 (Nat.le_of_ble_eq_true rfl) (fun _ _ => rfl) i5 dX3_chanceToBuy_20 ?_
    refine lv_goto (tgt := 25) hx hb dX3_chanceToBuy_21 (by decide) ?_
    exact w_X3_chanceToBuy_25 X  h Y  (lv_sub hl [] rfl)
theorem c_X3_chanceToBuy (l : Launch) {g : Gx} {x1 : Int32} {x2 : Int32} {x3 : Int32} {st : Sg} {r9 : Int32} (h : X3_chanceToBuy x1 x2 x3 st = some r9) : MetI l yX3_chanceToBuy cX3_chanceToBuy 4 (some .int) rm_X3_chanceToBuy g nwX (ceX g) [.ref (g.2.1 1), .int x1, .int x2, .int x3] st r9 st :=
  met_of (Qc := fun A => QI g nwX (ceX g) A r9 st) (by decide) (Nat.le_of_ble_eq_true rfl) (fun p e s m below meth c A ls X Y hl => w_X3_chanceToBuy X h Y hl)
def X4_backByBuyer_49 (b : Nat)   (st : Sg) : Option Sg :=
  some st
def X4_backByBuyer_4b (b : Nat) (rc4 : Int32 → Sg → Option Sg) (x1 : Int32) (x2 : Int64) (x4 : Int32) (st : Sg) : Option Sg :=
  if x4 ≤ (0 : Int32) then
    X4_backByBuyer_49 b st
  else
    cix (x4 - 1) 13 <|
    cix x4 13 <|
    cix x4 13 <|
    nm (sJ st (b + 16) x4.toNatClampNeg (((x1.toInt64) * (x2 + (st.2 (b + 16) (x4 - 1).toNatClampNeg))) + (((4 - x1).toInt64) * (st.2 (b + 16) x4.toNatClampNeg)))) fun st5 =>
    nm (x4 + (-1)) fun v6 =>
    rc4 v6 st5
def X4_backByBuyer_4 (b : Nat)  (x1 : Int32) (x2 : Int64) : Nat → Int32 → Sg → Option Sg
  | 0, _, _ => none
  | k + 1, x4, st => X4_backByBuyer_4b b  (X4_backByBuyer_4 b x1 x2 k) x1 x2 x4 st
def X4_backByBuyer (b : Nat)  (x1 : Int32) (x2 : Int64) (st : Sg) : Option Sg :=
  X4_backByBuyer_4 b x1 x2 FU 12 st
abbrev rm_X4_backByBuyer : Room := { frames := 0, cells := 0, slots := 0, locals := 0 }
set_option maxHeartbeats 4000000 in
set_option maxRecDepth 100000 in
theorem w_X4_backByBuyer_49_8 (X : Cx g p s m args meth c cX4_backByBuyer 5 RX4 none)  {st : Sg} {st9 : Sg}  (h : X4_backByBuyer_49 8 st = some st9) (Y : Hp g nwX (ceX g) A s.heap st H locs)  (hl : lv_has ls 5 []) : W p l e rm_X4_backByBuyer s m args below meth c H locs 0 0 (MQ below (QV g nwX (ceX g) A st9) args s 0 0 A) (F0 m 49 ls []) := by
  have hx := X.1
  have hb := X.2.1
  unfold X4_backByBuyer_49 at h
  exact k_vretW X Y h dX4_backByBuyer_49
set_option maxHeartbeats 4000000 in
set_option maxRecDepth 100000 in
theorem w_X4_backByBuyer_4b_8 (X : Cx g p s m args meth c cX4_backByBuyer 5 RX4 none) {x1 : Int32} {x2 : Int64} {x4 : Int32} {st : Sg} {st9 : Sg} (rc4 : Int32 → Sg → Option Sg) (hrc4 : ∀ (x4 : Int32) (st : Sg) (ls : Array Slot) (H : Heap) (locs : List Loc), rc4 x4 st = some st9 → Hp g nwX (ceX g) A s.heap st H locs → lv_has ls 5 [(0, .ref (g.2.1 8)), (1, .int x1), (2, .long x2), (4, .int x4)] → W p l e rm_X4_backByBuyer s m args below meth c H locs 0 0 (MQ below (QV g nwX (ceX g) A st9) args s 0 0 A) (F0 m 4 ls [])) (h : X4_backByBuyer_4b 8 rc4 x1 x2 x4 st = some st9) (Y : Hp g nwX (ceX g) A s.heap st H locs)  (hl : lv_has ls 5 [(0, .ref (g.2.1 8)), (1, .int x1), (2, .long x2), (4, .int x4)]) : W p l e rm_X4_backByBuyer s m args below meth c H locs 0 0 (MQ below (QV g nwX (ceX g) A st9) args s 0 0 A) (F0 m 4 ls []) := by
  have hx := X.1
  have hb := X.2.1
  unfold X4_backByBuyer_4b at h
  refine lv_iload hx hb dX4_backByBuyer_4 (lv_at hl 3 rfl) ?_
  refine lv_if_le (tgt := 49) hx hb dX4_backByBuyer_6 (by decide) (fun c1 => ?_) (fun c1 => ?_)
  · have h := ite_t h c1
    exact w_X4_backByBuyer_49_8 X  h Y  (lv_sub hl [] rfl)
  · have h := ite_f h c1
    refine lv_aload_n hx hb dX4_backByBuyer_9 rfl (lv_at hl 0 rfl) ?_
    refine k_get (v := .ref (g.2.1 24)) X Y fl_4_21 8 (Nat.le_of_ble_eq_true rfl) rfl rfl dX4_backByBuyer_10 ?_
    refine lv_iload hx hb dX4_backByBuyer_13 (lv_at hl 3 rfl) ?_
    refine lv_iload_n hx hb dX4_backByBuyer_15 rfl (lv_at hl 1 rfl) ?_
    refine lv_i2l hx hb dX4_backByBuyer_16 rfl ?_
    refine lv_lload_n hx hb dX4_backByBuyer_17 rfl (lv_at hl 2 rfl) ?_
    refine lv_aload_n hx hb dX4_backByBuyer_18 rfl (lv_at hl 0 rfl) ?_
    refine k_get (v := .ref (g.2.1 24)) X Y fl_4_21 8 (Nat.le_of_ble_eq_true rfl) rfl rfl dX4_backByBuyer_19 ?_
    refine lv_iload hx hb dX4_backByBuyer_22 (lv_at hl 3 rfl) ?_
    refine lv_iconst (v := 1) hx hb dX4_backByBuyer_24 (by decide) ?_
    refine lv_isub hx hb dX4_backByBuyer_25 ?_
    obtain ⟨i2, h⟩ := cix_s h
    refine k_lald X Y 24 (Nat.le_of_ble_eq_true rfl) (fun _ _ => rfl) i2 dX4_backByBuyer_26 ?_
    refine lv_ladd hx hb dX4_backByBuyer_27 ?_
    refine lv_lmul hx hb dX4_backByBuyer_28 ?_
    refine lv_iconst (v := 4) hx hb dX4_backByBuyer_29 (by decide) ?_
    refine lv_iload_n hx hb dX4_backByBuyer_30 rfl (lv_at hl 1 rfl) ?_
    refine lv_isub hx hb dX4_backByBuyer_31 ?_
    refine lv_i2l hx hb dX4_backByBuyer_32 rfl ?_
    refine lv_aload_n hx hb dX4_backByBuyer_33 rfl (lv_at hl 0 rfl) ?_
    refine k_get (v := .ref (g.2.1 24)) X Y fl_4_21 8 (Nat.le_of_ble_eq_true rfl) rfl rfl dX4_backByBuyer_34 ?_
    refine lv_iload hx hb dX4_backByBuyer_37 (lv_at hl 3 rfl) ?_
    obtain ⟨i3, h⟩ := cix_s h
    refine k_lald X Y 24 (Nat.le_of_ble_eq_true rfl) (fun _ _ => rfl) i3 dX4_backByBuyer_39 ?_
    refine lv_lmul hx hb dX4_backByBuyer_40 ?_
    refine lv_ladd hx hb dX4_backByBuyer_41 ?_
    obtain ⟨i4, h⟩ := cix_s h
    refine k_last X Y 24 (Nat.le_of_ble_eq_true rfl) (fun _ _ => rfl) i4 dX4_backByBuyer_42 (fun H locs Y => ?_)
    obtain ⟨st5, est5, h⟩ := nm_s h
    have Y : Hp g nwX (ceX g) A s.heap st5 H locs := by rw [est5]; exact Y
    obtain ⟨v6, ev6, h⟩ := nm_s h
    refine lv_iinc (v := v6) (lv' := [(4, .int v6), (0, .ref (g.2.1 8)), (1, .int x1), (2, .long x2)]) hx hb dX4_backByBuyer_43 hl (k := 3) rfl (by rw [ev6]; rfl) (by decide) rfl (fun ls hl => ?_)
    refine lv_goto (tgt := 4) hx hb dX4_backByBuyer_46 (by decide) ?_
    exact hrc4 v6 st5 _ _ _ h Y (lv_sub hl [1, 2, 3, 0] rfl)
theorem w_X4_backByBuyer_4_8 (X : Cx g p s m args meth c cX4_backByBuyer 5 RX4 none) {x1 : Int32} {x2 : Int64}  {st9 : Sg}   : ∀ (k : Nat) (x4 : Int32) (st : Sg) (ls : Array Slot) (H : Heap) (locs : List Loc), X4_backByBuyer_4 8 x1 x2 k x4 st = some st9 → Hp g nwX (ceX g) A s.heap st H locs → lv_has ls 5 [(0, .ref (g.2.1 8)), (1, .int x1), (2, .long x2), (4, .int x4)] → W p l e rm_X4_backByBuyer s m args below meth c H locs 0 0 (MQ below (QV g nwX (ceX g) A st9) args s 0 0 A) (F0 m 4 ls []) := by
  intro k
  induction k with
  | zero =>
    intro x4 st ls H locs h
    exact none_s h
  | succ k ih =>
    intro x4 st ls H locs h Y hl
    exact w_X4_backByBuyer_4b_8 X  (X4_backByBuyer_4 8 x1 x2 k) ih h Y  hl
set_option maxHeartbeats 4000000 in
set_option maxRecDepth 100000 in
theorem w_X4_backByBuyer_8 (X : Cx g p s m args meth c cX4_backByBuyer 5 RX4 none) {x1 : Int32} {x2 : Int64} {st : Sg} {st9 : Sg}  (h : X4_backByBuyer 8 x1 x2 st = some st9) (Y : Hp g nwX (ceX g) A s.heap st H locs)  (hl : lv_has ls 5 [(0, .ref (g.2.1 8)), (1, .int x1), (2, .long x2)]) : W p l e rm_X4_backByBuyer s m args below meth c H locs 0 0 (MQ below (QV g nwX (ceX g) A st9) args s 0 0 A) (F0 m 0 ls []) := by
  have hx := X.1
  have hb := X.2.1
  unfold X4_backByBuyer at h
  refine lv_bipush (v := 12) hx hb dX4_backByBuyer_0 (by decide) ?_
  refine lv_istore (lv' := [(4, .int 12), (0, .ref (g.2.1 8)), (1, .int x1), (2, .long x2)]) hx hb dX4_backByBuyer_2 hl (by decide) rfl (fun ls hl => ?_)
  exact w_X4_backByBuyer_4_8 X   FU 12 st _ _ _ h Y (lv_sub hl [1, 2, 3, 0] rfl)
theorem c_X4_backByBuyer_8 (l : Launch) {g : Gx} {x1 : Int32} {x2 : Int64} {st : Sg} {st9 : Sg} (h : X4_backByBuyer 8 x1 x2 st = some st9) : MetV l yX4_backByBuyer cX4_backByBuyer 5 none rm_X4_backByBuyer g nwX (ceX g) [.ref (g.2.1 8), .int x1, .long x2] st st9 :=
  met_of (Qc := fun A => QV g nwX (ceX g) A st9) (by decide) (Nat.le_of_ble_eq_true rfl) (fun p e s m below meth c A ls X Y hl => w_X4_backByBuyer_8 X h Y hl)
set_option maxHeartbeats 4000000 in
set_option maxRecDepth 100000 in
theorem w_X4_backByBuyer_49_25 (X : Cx g p s m args meth c cX4_backByBuyer 5 RX4 none)  {st : Sg} {st9 : Sg}  (h : X4_backByBuyer_49 25 st = some st9) (Y : Hp g nwX (ceX g) A s.heap st H locs)  (hl : lv_has ls 5 []) : W p l e rm_X4_backByBuyer s m args below meth c H locs 0 0 (MQ below (QV g nwX (ceX g) A st9) args s 0 0 A) (F0 m 49 ls []) := by
  have hx := X.1
  have hb := X.2.1
  unfold X4_backByBuyer_49 at h
  exact k_vretW X Y h dX4_backByBuyer_49
set_option maxHeartbeats 4000000 in
set_option maxRecDepth 100000 in
theorem w_X4_backByBuyer_4b_25 (X : Cx g p s m args meth c cX4_backByBuyer 5 RX4 none) {x1 : Int32} {x2 : Int64} {x4 : Int32} {st : Sg} {st9 : Sg} (rc4 : Int32 → Sg → Option Sg) (hrc4 : ∀ (x4 : Int32) (st : Sg) (ls : Array Slot) (H : Heap) (locs : List Loc), rc4 x4 st = some st9 → Hp g nwX (ceX g) A s.heap st H locs → lv_has ls 5 [(0, .ref (g.2.1 25)), (1, .int x1), (2, .long x2), (4, .int x4)] → W p l e rm_X4_backByBuyer s m args below meth c H locs 0 0 (MQ below (QV g nwX (ceX g) A st9) args s 0 0 A) (F0 m 4 ls [])) (h : X4_backByBuyer_4b 25 rc4 x1 x2 x4 st = some st9) (Y : Hp g nwX (ceX g) A s.heap st H locs)  (hl : lv_has ls 5 [(0, .ref (g.2.1 25)), (1, .int x1), (2, .long x2), (4, .int x4)]) : W p l e rm_X4_backByBuyer s m args below meth c H locs 0 0 (MQ below (QV g nwX (ceX g) A st9) args s 0 0 A) (F0 m 4 ls []) := by
  have hx := X.1
  have hb := X.2.1
  unfold X4_backByBuyer_4b at h
  refine lv_iload hx hb dX4_backByBuyer_4 (lv_at hl 3 rfl) ?_
  refine lv_if_le (tgt := 49) hx hb dX4_backByBuyer_6 (by decide) (fun c1 => ?_) (fun c1 => ?_)
  · have h := ite_t h c1
    exact w_X4_backByBuyer_49_25 X  h Y  (lv_sub hl [] rfl)
  · have h := ite_f h c1
    refine lv_aload_n hx hb dX4_backByBuyer_9 rfl (lv_at hl 0 rfl) ?_
    refine k_get (v := .ref (g.2.1 41)) X Y fl_4_21 25 (Nat.le_of_ble_eq_true rfl) rfl rfl dX4_backByBuyer_10 ?_
    refine lv_iload hx hb dX4_backByBuyer_13 (lv_at hl 3 rfl) ?_
    refine lv_iload_n hx hb dX4_backByBuyer_15 rfl (lv_at hl 1 rfl) ?_
    refine lv_i2l hx hb dX4_backByBuyer_16 rfl ?_
    refine lv_lload_n hx hb dX4_backByBuyer_17 rfl (lv_at hl 2 rfl) ?_
    refine lv_aload_n hx hb dX4_backByBuyer_18 rfl (lv_at hl 0 rfl) ?_
    refine k_get (v := .ref (g.2.1 41)) X Y fl_4_21 25 (Nat.le_of_ble_eq_true rfl) rfl rfl dX4_backByBuyer_19 ?_
    refine lv_iload hx hb dX4_backByBuyer_22 (lv_at hl 3 rfl) ?_
    refine lv_iconst (v := 1) hx hb dX4_backByBuyer_24 (by decide) ?_
    refine lv_isub hx hb dX4_backByBuyer_25 ?_
    obtain ⟨i2, h⟩ := cix_s h
    refine k_lald X Y 41 (Nat.le_of_ble_eq_true rfl) (fun _ _ => rfl) i2 dX4_backByBuyer_26 ?_
    refine lv_ladd hx hb dX4_backByBuyer_27 ?_
    refine lv_lmul hx hb dX4_backByBuyer_28 ?_
    refine lv_iconst (v := 4) hx hb dX4_backByBuyer_29 (by decide) ?_
    refine lv_iload_n hx hb dX4_backByBuyer_30 rfl (lv_at hl 1 rfl) ?_
    refine lv_isub hx hb dX4_backByBuyer_31 ?_
    refine lv_i2l hx hb dX4_backByBuyer_32 rfl ?_
    refine lv_aload_n hx hb dX4_backByBuyer_33 rfl (lv_at hl 0 rfl) ?_
    refine k_get (v := .ref (g.2.1 41)) X Y fl_4_21 25 (Nat.le_of_ble_eq_true rfl) rfl rfl dX4_backByBuyer_34 ?_
    refine lv_iload hx hb dX4_backByBuyer_37 (lv_at hl 3 rfl) ?_
    obtain ⟨i3, h⟩ := cix_s h
    refine k_lald X Y 41 (Nat.le_of_ble_eq_true rfl) (fun _ _ => rfl) i3 dX4_backByBuyer_39 ?_
    refine lv_lmul hx hb dX4_backByBuyer_40 ?_
    refine lv_ladd hx hb dX4_backByBuyer_41 ?_
    obtain ⟨i4, h⟩ := cix_s h
    refine k_last X Y 41 (Nat.le_of_ble_eq_true rfl) (fun _ _ => rfl) i4 dX4_backByBuyer_42 (fun H locs Y => ?_)
    obtain ⟨st5, est5, h⟩ := nm_s h
    have Y : Hp g nwX (ceX g) A s.heap st5 H locs := by rw [est5]; exact Y
    obtain ⟨v6, ev6, h⟩ := nm_s h
    refine lv_iinc (v := v6) (lv' := [(4, .int v6), (0, .ref (g.2.1 25)), (1, .int x1), (2, .long x2)]) hx hb dX4_backByBuyer_43 hl (k := 3) rfl (by rw [ev6]; rfl) (by decide) rfl (fun ls hl => ?_)
    refine lv_goto (tgt := 4) hx hb dX4_backByBuyer_46 (by decide) ?_
    exact hrc4 v6 st5 _ _ _ h Y (lv_sub hl [1, 2, 3, 0] rfl)
theorem w_X4_backByBuyer_4_25 (X : Cx g p s m args meth c cX4_backByBuyer 5 RX4 none) {x1 : Int32} {x2 : Int64}  {st9 : Sg}   : ∀ (k : Nat) (x4 : Int32) (st : Sg) (ls : Array Slot) (H : Heap) (locs : List Loc), X4_backByBuyer_4 25 x1 x2 k x4 st = some st9 → Hp g nwX (ceX g) A s.heap st H locs → lv_has ls 5 [(0, .ref (g.2.1 25)), (1, .int x1), (2, .long x2), (4, .int x4)] → W p l e rm_X4_backByBuyer s m args below meth c H locs 0 0 (MQ below (QV g nwX (ceX g) A st9) args s 0 0 A) (F0 m 4 ls []) := by
  intro k
  induction k with
  | zero =>
    intro x4 st ls H locs h
    exact none_s h
  | succ k ih =>
    intro x4 st ls H locs h Y hl
    exact w_X4_backByBuyer_4b_25 X  (X4_backByBuyer_4 25 x1 x2 k) ih h Y  hl
set_option maxHeartbeats 4000000 in
set_option maxRecDepth 100000 in
theorem w_X4_backByBuyer_25 (X : Cx g p s m args meth c cX4_backByBuyer 5 RX4 none) {x1 : Int32} {x2 : Int64} {st : Sg} {st9 : Sg}  (h : X4_backByBuyer 25 x1 x2 st = some st9) (Y : Hp g nwX (ceX g) A s.heap st H locs)  (hl : lv_has ls 5 [(0, .ref (g.2.1 25)), (1, .int x1), (2, .long x2)]) : W p l e rm_X4_backByBuyer s m args below meth c H locs 0 0 (MQ below (QV g nwX (ceX g) A st9) args s 0 0 A) (F0 m 0 ls []) := by
  have hx := X.1
  have hb := X.2.1
  unfold X4_backByBuyer at h
  refine lv_bipush (v := 12) hx hb dX4_backByBuyer_0 (by decide) ?_
  refine lv_istore (lv' := [(4, .int 12), (0, .ref (g.2.1 25)), (1, .int x1), (2, .long x2)]) hx hb dX4_backByBuyer_2 hl (by decide) rfl (fun ls hl => ?_)
  exact w_X4_backByBuyer_4_25 X   FU 12 st _ _ _ h Y (lv_sub hl [1, 2, 3, 0] rfl)
theorem c_X4_backByBuyer_25 (l : Launch) {g : Gx} {x1 : Int32} {x2 : Int64} {st : Sg} {st9 : Sg} (h : X4_backByBuyer 25 x1 x2 st = some st9) : MetV l yX4_backByBuyer cX4_backByBuyer 5 none rm_X4_backByBuyer g nwX (ceX g) [.ref (g.2.1 25), .int x1, .long x2] st st9 :=
  met_of (Qc := fun A => QV g nwX (ceX g) A st9) (by decide) (Nat.le_of_ble_eq_true rfl) (fun p e s m below meth c A ls X Y hl => w_X4_backByBuyer_25 X h Y hl)
def X4_rowFor_82 (b : Nat)   (st : Sg) : Option Sg :=
  some st
def X4_rowFor_41b (b : Nat) (rc41 : Int64 → Int32 → Sg → Option Sg) (x2 : Int32) (x3 : Int32) (x4 : Int64) (x6 : Int32) (st : Sg) : Option Sg :=
  if x6 < (0 : Int32) then
    X4_rowFor_82 b st
  else
    bnd1 (X3_chanceToBuy x6 x2 x3 st) fun v3 =>
    cix x3 5 <|
    bnd1 (X4_backByBuyer b v3 (((st.1 2 x3.toNatClampNeg).toInt64) * x4) st) fun st6 =>
    nm (x4 * 4) fun v7 =>
    nm (x6 + (-1)) fun v8 =>
    rc41 v7 v8 st6
def X4_rowFor_41 (b : Nat)  (x2 : Int32) (x3 : Int32) : Nat → Int64 → Int32 → Sg → Option Sg
  | 0, _, _, _ => none
  | k + 1, x4, x6, st => X4_rowFor_41b b  (X4_rowFor_41 b x2 x3 k) x2 x3 x4 x6 st
def X4_rowFor (b : Nat)  (x2 : Int32) (x3 : Int32) (st : Sg) : Option Sg :=
  cix (x2 + 1) 7 <|
  cpc 0 0 13 13 13 <|
  nm (sJr st (b + 16) (va_cpy (st.2 ((b + 2) + (x2 + 1).toNatClampNeg)) (st.2 (b + 16)) (0 : Int32).toNatClampNeg (0 : Int32).toNatClampNeg (13 : Int32).toNatClampNeg)) fun st3 =>
  bnd1 (X3_scale (((st3.1 1 1) - 1) - x2) st3) fun v5 =>
  nm ((st3.1 1 9) - 1) fun v6 =>
  X4_rowFor_41 b x2 x3 FU v5 v6 st3
abbrev rm_X4_rowFor : Room := { frames := 2, cells := 0, slots := 0, locals := 46 }
set_option maxHeartbeats 4000000 in
set_option maxRecDepth 100000 in
theorem w_X4_rowFor_82_8 (X : Cx g p s m args meth c cX4_rowFor 7 RX4 none)  {st : Sg} {st9 : Sg}  (h : X4_rowFor_82 8 st = some st9) (Y : Hp g nwX (ceX g) A s.heap st H locs)  (hl : lv_has ls 7 []) : W p l e rm_X4_rowFor s m args below meth c H locs 0 0 (MQ below (QV g nwX (ceX g) A st9) args s 0 0 A) (F0 m 82 ls []) := by
  have hx := X.1
  have hb := X.2.1
  unfold X4_rowFor_82 at h
  exact k_vretW X Y h dX4_rowFor_82
set_option maxHeartbeats 4000000 in
set_option maxRecDepth 100000 in
theorem w_X4_rowFor_41b_8 (X : Cx g p s m args meth c cX4_rowFor 7 RX4 none) {x2 : Int32} {x3 : Int32} {x4 : Int64} {x6 : Int32} {st : Sg} {st9 : Sg} (rc41 : Int64 → Int32 → Sg → Option Sg) (hrc41 : ∀ (x4 : Int64) (x6 : Int32) (st : Sg) (ls : Array Slot) (H : Heap) (locs : List Loc), rc41 x4 x6 st = some st9 → Hp g nwX (ceX g) A s.heap st H locs → lv_has ls 7 [(0, .ref (g.2.1 8)), (1, .ref (g.2.1 1)), (2, .int x2), (3, .int x3), (4, .long x4), (6, .int x6)] → W p l e rm_X4_rowFor s m args below meth c H locs 0 0 (MQ below (QV g nwX (ceX g) A st9) args s 0 0 A) (F0 m 41 ls [])) (h : X4_rowFor_41b 8 rc41 x2 x3 x4 x6 st = some st9) (Y : Hp g nwX (ceX g) A s.heap st H locs)  (hl : lv_has ls 7 [(0, .ref (g.2.1 8)), (1, .ref (g.2.1 1)), (2, .int x2), (3, .int x3), (4, .long x4), (6, .int x6)]) : W p l e rm_X4_rowFor s m args below meth c H locs 0 0 (MQ below (QV g nwX (ceX g) A st9) args s 0 0 A) (F0 m 41 ls []) := by
  have hx := X.1
  have hb := X.2.1
  unfold X4_rowFor_41b at h
  refine lv_iload hx hb dX4_rowFor_41 (lv_at hl 5 rfl) ?_
  refine lv_if_lt (tgt := 82) hx hb dX4_rowFor_43 (by decide) (fun c1 => ?_) (fun c1 => ?_)
  · have h := ite_t h c1
    exact w_X4_rowFor_82_8 X  h Y  (lv_sub hl [] rfl)
  · have h := ite_f h c1
    refine lv_aload_n hx hb dX4_rowFor_46 rfl (lv_at hl 0 rfl) ?_
    refine lv_aload_n hx hb dX4_rowFor_47 rfl (lv_at hl 1 rfl) ?_
    refine lv_iload hx hb dX4_rowFor_48 (lv_at hl 5 rfl) ?_
    refine lv_iload_n hx hb dX4_rowFor_50 rfl (lv_at hl 2 rfl) ?_
    refine lv_iload_n hx hb dX4_rowFor_51 rfl (lv_at hl 3 rfl) ?_
    obtain ⟨v3, hc2, h⟩ := bnd1_s h
    refine k_cI Y (k_runV (As := [.int x6, .int x2, .int x3]) (rest := [.ref (g.2.1 8)]) (o := 1) X Y cl_4_71 (c_X3_chanceToBuy l hc2 _) ⟨rfl, rfl, Nat.le_of_ble_eq_true rfl, Nat.le_of_ble_eq_true rfl⟩ (Nat.le_of_ble_eq_true rfl) rfl rfl hl.1 rfl (Nat.le_of_ble_eq_true rfl) dX4_rowFor_52 ⟨Nat.zero_le _, Nat.zero_le _⟩) (fun H locs Y => ?_)
    refine lv_aload_n hx hb dX4_rowFor_55 rfl (lv_at hl 1 rfl) ?_
    refine k_get (v := .ref (g.2.1 2)) X Y fl_4_74 1 (Nat.le_of_ble_eq_true rfl) rfl rfl dX4_rowFor_56 ?_
    refine lv_iload_n hx hb dX4_rowFor_59 rfl (lv_at hl 3 rfl) ?_
    obtain ⟨i4, h⟩ := cix_s h
    refine k_iald X Y 2 (Nat.le_of_ble_eq_true rfl) (fun _ _ => rfl) i4 dX4_rowFor_60 ?_
    refine lv_i2l hx hb dX4_rowFor_61 rfl ?_
    refine lv_lload hx hb dX4_rowFor_62 (lv_at hl 4 rfl) ?_
    refine lv_lmul hx hb dX4_rowFor_64 ?_
    obtain ⟨st6, hc5, h⟩ := bnd1_s h
    refine k_cV Y (k_runV (As := [.int v3, .long (((st.1 2 x3.toNatClampNeg).toInt64) * x4)]) (rest := []) (o := 8) X Y cl_4_78 (c_X4_backByBuyer_8 l hc5 _) ⟨rfl, rfl, Nat.le_of_ble_eq_true rfl, Nat.le_of_ble_eq_true rfl⟩ (Nat.le_of_ble_eq_true rfl) rfl rfl hl.1 rfl (Nat.le_of_ble_eq_true rfl) dX4_rowFor_65 ⟨Nat.zero_le _, Nat.zero_le _⟩) (fun H locs Y => ?_)
    refine lv_lload hx hb dX4_rowFor_68 (lv_at hl 4 rfl) ?_
    refine k_ldc2 X lg_4_82 dX4_rowFor_70 ?_
    refine lv_lmul hx hb dX4_rowFor_73 ?_
    obtain ⟨v7, ev7, h⟩ := nm_s h
    refine k_nmJ ev7 ?_
    refine lv_lstore (lv' := [(4, .long v7), (0, .ref (g.2.1 8)), (1, .ref (g.2.1 1)), (2, .int x2), (3, .int x3), (6, .int x6)]) hx hb dX4_rowFor_74 hl (by decide) rfl (fun ls hl => ?_)
    obtain ⟨v8, ev8, h⟩ := nm_s h
    refine lv_iinc (v := v8) (lv' := [(6, .int v8), (4, .long v7), (0, .ref (g.2.1 8)), (1, .ref (g.2.1 1)), (2, .int x2), (3, .int x3)]) hx hb dX4_rowFor_76 hl (k := 5) rfl (by rw [ev8]; rfl) (by decide) rfl (fun ls hl => ?_)
    refine lv_goto (tgt := 41) hx hb dX4_rowFor_79 (by decide) ?_
    exact hrc41 v7 v8 st6 _ _ _ h Y (lv_sub hl [2, 3, 4, 5, 1, 0] rfl)
theorem w_X4_rowFor_41_8 (X : Cx g p s m args meth c cX4_rowFor 7 RX4 none) {x2 : Int32} {x3 : Int32}  {st9 : Sg}   : ∀ (k : Nat) (x4 : Int64) (x6 : Int32) (st : Sg) (ls : Array Slot) (H : Heap) (locs : List Loc), X4_rowFor_41 8 x2 x3 k x4 x6 st = some st9 → Hp g nwX (ceX g) A s.heap st H locs → lv_has ls 7 [(0, .ref (g.2.1 8)), (1, .ref (g.2.1 1)), (2, .int x2), (3, .int x3), (4, .long x4), (6, .int x6)] → W p l e rm_X4_rowFor s m args below meth c H locs 0 0 (MQ below (QV g nwX (ceX g) A st9) args s 0 0 A) (F0 m 41 ls []) := by
  intro k
  induction k with
  | zero =>
    intro x4 x6 st ls H locs h
    exact none_s h
  | succ k ih =>
    intro x4 x6 st ls H locs h Y hl
    exact w_X4_rowFor_41b_8 X  (X4_rowFor_41 8 x2 x3 k) ih h Y  hl
set_option maxHeartbeats 4000000 in
set_option maxRecDepth 100000 in
theorem w_X4_rowFor_8 (X : Cx g p s m args meth c cX4_rowFor 7 RX4 none) {x2 : Int32} {x3 : Int32} {st : Sg} {st9 : Sg}  (h : X4_rowFor 8 x2 x3 st = some st9) (Y : Hp g nwX (ceX g) A s.heap st H locs)  (hl : lv_has ls 7 [(0, .ref (g.2.1 8)), (1, .ref (g.2.1 1)), (2, .int x2), (3, .int x3)]) : W p l e rm_X4_rowFor s m args below meth c H locs 0 0 (MQ below (QV g nwX (ceX g) A st9) args s 0 0 A) (F0 m 0 ls []) := by
  have hx := X.1
  have hb := X.2.1
  unfold X4_rowFor at h
  refine lv_aload_n hx hb dX4_rowFor_0 rfl (lv_at hl 0 rfl) ?_
  refine k_get (v := .ref (g.2.1 9)) X Y fl_4_11 8 (Nat.le_of_ble_eq_true rfl) rfl rfl dX4_rowFor_1 ?_
  refine lv_iload_n hx hb dX4_rowFor_4 rfl (lv_at hl 2 rfl) ?_
  refine lv_iconst (v := 1) hx hb dX4_rowFor_5 (by decide) ?_
  refine lv_iadd hx hb dX4_rowFor_6 ?_
  obtain ⟨i1, h⟩ := cix_s h
  refine k_aaldJ (b := 10) X Y 9 (Nat.le_of_ble_eq_true rfl) (fun _ _ => rfl) i1 dX4_rowFor_7 ?_
  refine lv_iconst (v := 0) hx hb dX4_rowFor_8 (by decide) ?_
  refine lv_aload_n hx hb dX4_rowFor_9 rfl (lv_at hl 0 rfl) ?_
  refine k_get (v := .ref (g.2.1 24)) X Y fl_4_21 8 (Nat.le_of_ble_eq_true rfl) rfl rfl dX4_rowFor_10 ?_
  refine lv_iconst (v := 0) hx hb dX4_rowFor_13 (by decide) ?_
  refine lv_bipush (v := 13) hx hb dX4_rowFor_14 (by decide) ?_
  obtain ⟨y2, h⟩ := cpc_s h
  refine k_copyJ X Y cl_4_58 hl.1 (10 + (x2 + 1).toNatClampNeg) 24 (row_lt i1 (Nat.le_of_ble_eq_true rfl)) (Nat.le_of_ble_eq_true rfl) (rowX_10 _ (vp_lt i1)) (fun _ _ => rfl) y2 ⟨Nat.le_of_ble_eq_true rfl, by decide +kernel⟩ dX4_rowFor_16 (fun H locs Y => ?_)
  obtain ⟨st3, est3, h⟩ := nm_s h
  have Y : Hp g nwX (ceX g) A s.heap st3 H locs := by rw [est3]; exact Y
  refine lv_aload_n hx hb dX4_rowFor_19 rfl (lv_at hl 1 rfl) ?_
  refine lv_aload_n hx hb dX4_rowFor_20 rfl (lv_at hl 1 rfl) ?_
  refine k_get (v := .int (st3.1 1 1)) X Y fl_4_35 1 (Nat.le_of_ble_eq_true rfl) rfl rfl dX4_rowFor_21 ?_
  refine lv_iconst (v := 1) hx hb dX4_rowFor_24 (by decide) ?_
  refine lv_isub hx hb dX4_rowFor_25 ?_
  refine lv_iload_n hx hb dX4_rowFor_26 rfl (lv_at hl 2 rfl) ?_
  refine lv_isub hx hb dX4_rowFor_27 ?_
  obtain ⟨v5, hc4, h⟩ := bnd1_s h
  refine k_cJ Y (k_runV (As := [.int (((st3.1 1 1) - 1) - x2)]) (rest := []) (o := 1) X Y cl_4_64 (c_X3_scale l hc4 _) ⟨rfl, rfl, Nat.le_of_ble_eq_true rfl, Nat.le_of_ble_eq_true rfl⟩ (Nat.le_of_ble_eq_true rfl) rfl rfl hl.1 rfl (Nat.le_of_ble_eq_true rfl) dX4_rowFor_28 ⟨Nat.zero_le _, Nat.zero_le _⟩) (fun H locs Y => ?_)
  refine lv_lstore (lv' := [(4, .long v5), (0, .ref (g.2.1 8)), (1, .ref (g.2.1 1)), (2, .int x2), (3, .int x3)]) hx hb dX4_rowFor_31 hl (by decide) rfl (fun ls hl => ?_)
  refine lv_aload_n hx hb dX4_rowFor_33 rfl (lv_at hl 2 rfl) ?_
  refine k_get (v := .int (st3.1 1 9)) X Y fl_4_68 1 (Nat.le_of_ble_eq_true rfl) rfl rfl dX4_rowFor_34 ?_
  refine lv_iconst (v := 1) hx hb dX4_rowFor_37 (by decide) ?_
  refine lv_isub hx hb dX4_rowFor_38 ?_
  obtain ⟨v6, ev6, h⟩ := nm_s h
  refine k_nmI ev6 ?_
  refine lv_istore (lv' := [(6, .int v6), (4, .long v5), (0, .ref (g.2.1 8)), (1, .ref (g.2.1 1)), (2, .int x2), (3, .int x3)]) hx hb dX4_rowFor_39 hl (by decide) rfl (fun ls hl => ?_)
  exact w_X4_rowFor_41_8 X   FU v5 v6 st3 _ _ _ h Y (lv_sub hl [2, 3, 4, 5, 1, 0] rfl)
theorem c_X4_rowFor_8 (l : Launch) {g : Gx} {x2 : Int32} {x3 : Int32} {st : Sg} {st9 : Sg} (h : X4_rowFor 8 x2 x3 st = some st9) : MetV l yX4_rowFor cX4_rowFor 7 none rm_X4_rowFor g nwX (ceX g) [.ref (g.2.1 8), .ref (g.2.1 1), .int x2, .int x3] st st9 :=
  met_of (Qc := fun A => QV g nwX (ceX g) A st9) (by decide) (Nat.le_of_ble_eq_true rfl) (fun p e s m below meth c A ls X Y hl => w_X4_rowFor_8 X h Y hl)
set_option maxHeartbeats 4000000 in
set_option maxRecDepth 100000 in
theorem w_X4_rowFor_82_25 (X : Cx g p s m args meth c cX4_rowFor 7 RX4 none)  {st : Sg} {st9 : Sg}  (h : X4_rowFor_82 25 st = some st9) (Y : Hp g nwX (ceX g) A s.heap st H locs)  (hl : lv_has ls 7 []) : W p l e rm_X4_rowFor s m args below meth c H locs 0 0 (MQ below (QV g nwX (ceX g) A st9) args s 0 0 A) (F0 m 82 ls []) := by
  have hx := X.1
  have hb := X.2.1
  unfold X4_rowFor_82 at h
  exact k_vretW X Y h dX4_rowFor_82
set_option maxHeartbeats 4000000 in
set_option maxRecDepth 100000 in
theorem w_X4_rowFor_41b_25 (X : Cx g p s m args meth c cX4_rowFor 7 RX4 none) {x2 : Int32} {x3 : Int32} {x4 : Int64} {x6 : Int32} {st : Sg} {st9 : Sg} (rc41 : Int64 → Int32 → Sg → Option Sg) (hrc41 : ∀ (x4 : Int64) (x6 : Int32) (st : Sg) (ls : Array Slot) (H : Heap) (locs : List Loc), rc41 x4 x6 st = some st9 → Hp g nwX (ceX g) A s.heap st H locs → lv_has ls 7 [(0, .ref (g.2.1 25)), (1, .ref (g.2.1 1)), (2, .int x2), (3, .int x3), (4, .long x4), (6, .int x6)] → W p l e rm_X4_rowFor s m args below meth c H locs 0 0 (MQ below (QV g nwX (ceX g) A st9) args s 0 0 A) (F0 m 41 ls [])) (h : X4_rowFor_41b 25 rc41 x2 x3 x4 x6 st = some st9) (Y : Hp g nwX (ceX g) A s.heap st H locs)  (hl : lv_has ls 7 [(0, .ref (g.2.1 25)), (1, .ref (g.2.1 1)), (2, .int x2), (3, .int x3), (4, .long x4), (6, .int x6)]) : W p l e rm_X4_rowFor s m args below meth c H locs 0 0 (MQ below (QV g nwX (ceX g) A st9) args s 0 0 A) (F0 m 41 ls []) := by
  have hx := X.1
  have hb := X.2.1
  unfold X4_rowFor_41b at h
  refine lv_iload hx hb dX4_rowFor_41 (lv_at hl 5 rfl) ?_
  refine lv_if_lt (tgt := 82) hx hb dX4_rowFor_43 (by decide) (fun c1 => ?_) (fun c1 => ?_)
  · have h := ite_t h c1
    exact w_X4_rowFor_82_25 X  h Y  (lv_sub hl [] rfl)
  · have h := ite_f h c1
    refine lv_aload_n hx hb dX4_rowFor_46 rfl (lv_at hl 0 rfl) ?_
    refine lv_aload_n hx hb dX4_rowFor_47 rfl (lv_at hl 1 rfl) ?_
    refine lv_iload hx hb dX4_rowFor_48 (lv_at hl 5 rfl) ?_
    refine lv_iload_n hx hb dX4_rowFor_50 rfl (lv_at hl 2 rfl) ?_
    refine lv_iload_n hx hb dX4_rowFor_51 rfl (lv_at hl 3 rfl) ?_
    obtain ⟨v3, hc2, h⟩ := bnd1_s h
    refine k_cI Y (k_runV (As := [.int x6, .int x2, .int x3]) (rest := [.ref (g.2.1 25)]) (o := 1) X Y cl_4_71 (c_X3_chanceToBuy l hc2 _) ⟨rfl, rfl, Nat.le_of_ble_eq_true rfl, Nat.le_of_ble_eq_true rfl⟩ (Nat.le_of_ble_eq_true rfl) rfl rfl hl.1 rfl (Nat.le_of_ble_eq_true rfl) dX4_rowFor_52 ⟨Nat.zero_le _, Nat.zero_le _⟩) (fun H locs Y => ?_)
    refine lv_aload_n hx hb dX4_rowFor_55 rfl (lv_at hl 1 rfl) ?_
    refine k_get (v := .ref (g.2.1 2)) X Y fl_4_74 1 (Nat.le_of_ble_eq_true rfl) rfl rfl dX4_rowFor_56 ?_
    refine lv_iload_n hx hb dX4_rowFor_59 rfl (lv_at hl 3 rfl) ?_
    obtain ⟨i4, h⟩ := cix_s h
    refine k_iald X Y 2 (Nat.le_of_ble_eq_true rfl) (fun _ _ => rfl) i4 dX4_rowFor_60 ?_
    refine lv_i2l hx hb dX4_rowFor_61 rfl ?_
    refine lv_lload hx hb dX4_rowFor_62 (lv_at hl 4 rfl) ?_
    refine lv_lmul hx hb dX4_rowFor_64 ?_
    obtain ⟨st6, hc5, h⟩ := bnd1_s h
    refine k_cV Y (k_runV (As := [.int v3, .long (((st.1 2 x3.toNatClampNeg).toInt64) * x4)]) (rest := []) (o := 25) X Y cl_4_78 (c_X4_backByBuyer_25 l hc5 _) ⟨rfl, rfl, Nat.le_of_ble_eq_true rfl, Nat.le_of_ble_eq_true rfl⟩ (Nat.le_of_ble_eq_true rfl) rfl rfl hl.1 rfl (Nat.le_of_ble_eq_true rfl) dX4_rowFor_65 ⟨Nat.zero_le _, Nat.zero_le _⟩) (fun H locs Y => ?_)
    refine lv_lload hx hb dX4_rowFor_68 (lv_at hl 4 rfl) ?_
    refine k_ldc2 X lg_4_82 dX4_rowFor_70 ?_
    refine lv_lmul hx hb dX4_rowFor_73 ?_
    obtain ⟨v7, ev7, h⟩ := nm_s h
    refine k_nmJ ev7 ?_
    refine lv_lstore (lv' := [(4, .long v7), (0, .ref (g.2.1 25)), (1, .ref (g.2.1 1)), (2, .int x2), (3, .int x3), (6, .int x6)]) hx hb dX4_rowFor_74 hl (by decide) rfl (fun ls hl => ?_)
    obtain ⟨v8, ev8, h⟩ := nm_s h
    refine lv_iinc (v := v8) (lv' := [(6, .int v8), (4, .long v7), (0, .ref (g.2.1 25)), (1, .ref (g.2.1 1)), (2, .int x2), (3, .int x3)]) hx hb dX4_rowFor_76 hl (k := 5) rfl (by rw [ev8]; rfl) (by decide) rfl (fun ls hl => ?_)
    refine lv_goto (tgt := 41) hx hb dX4_rowFor_79 (by decide) ?_
    exact hrc41 v7 v8 st6 _ _ _ h Y (lv_sub hl [2, 3, 4, 5, 1, 0] rfl)
theorem w_X4_rowFor_41_25 (X : Cx g p s m args meth c cX4_rowFor 7 RX4 none) {x2 : Int32} {x3 : Int32}  {st9 : Sg}   : ∀ (k : Nat) (x4 : Int64) (x6 : Int32) (st : Sg) (ls : Array Slot) (H : Heap) (locs : List Loc), X4_rowFor_41 25 x2 x3 k x4 x6 st = some st9 → Hp g nwX (ceX g) A s.heap st H locs → lv_has ls 7 [(0, .ref (g.2.1 25)), (1, .ref (g.2.1 1)), (2, .int x2), (3, .int x3), (4, .long x4), (6, .int x6)] → W p l e rm_X4_rowFor s m args below meth c H locs 0 0 (MQ below (QV g nwX (ceX g) A st9) args s 0 0 A) (F0 m 41 ls []) := by
  intro k
  induction k with
  | zero =>
    intro x4 x6 st ls H locs h
    exact none_s h
  | succ k ih =>
    intro x4 x6 st ls H locs h Y hl
    exact w_X4_rowFor_41b_25 X  (X4_rowFor_41 25 x2 x3 k) ih h Y  hl
set_option maxHeartbeats 4000000 in
set_option maxRecDepth 100000 in
theorem w_X4_rowFor_25 (X : Cx g p s m args meth c cX4_rowFor 7 RX4 none) {x2 : Int32} {x3 : Int32} {st : Sg} {st9 : Sg}  (h : X4_rowFor 25 x2 x3 st = some st9) (Y : Hp g nwX (ceX g) A s.heap st H locs)  (hl : lv_has ls 7 [(0, .ref (g.2.1 25)), (1, .ref (g.2.1 1)), (2, .int x2), (3, .int x3)]) : W p l e rm_X4_rowFor s m args below meth c H locs 0 0 (MQ below (QV g nwX (ceX g) A st9) args s 0 0 A) (F0 m 0 ls []) := by
  have hx := X.1
  have hb := X.2.1
  unfold X4_rowFor at h
  refine lv_aload_n hx hb dX4_rowFor_0 rfl (lv_at hl 0 rfl) ?_
  refine k_get (v := .ref (g.2.1 26)) X Y fl_4_11 25 (Nat.le_of_ble_eq_true rfl) rfl rfl dX4_rowFor_1 ?_
  refine lv_iload_n hx hb dX4_rowFor_4 rfl (lv_at hl 2 rfl) ?_
  refine lv_iconst (v := 1) hx hb dX4_rowFor_5 (by decide) ?_
  refine lv_iadd hx hb dX4_rowFor_6 ?_
  obtain ⟨i1, h⟩ := cix_s h
  refine k_aaldJ (b := 27) X Y 26 (Nat.le_of_ble_eq_true rfl) (fun _ _ => rfl) i1 dX4_rowFor_7 ?_
  refine lv_iconst (v := 0) hx hb dX4_rowFor_8 (by decide) ?_
  refine lv_aload_n hx hb dX4_rowFor_9 rfl (lv_at hl 0 rfl) ?_
  refine k_get (v := .ref (g.2.1 41)) X Y fl_4_21 25 (Nat.le_of_ble_eq_true rfl) rfl rfl dX4_rowFor_10 ?_
  refine lv_iconst (v := 0) hx hb dX4_rowFor_13 (by decide) ?_
  refine lv_bipush (v := 13) hx hb dX4_rowFor_14 (by decide) ?_
  obtain ⟨y2, h⟩ := cpc_s h
  refine k_copyJ X Y cl_4_58 hl.1 (27 + (x2 + 1).toNatClampNeg) 41 (row_lt i1 (Nat.le_of_ble_eq_true rfl)) (Nat.le_of_ble_eq_true rfl) (rowX_27 _ (vp_lt i1)) (fun _ _ => rfl) y2 ⟨Nat.le_of_ble_eq_true rfl, by decide +kernel⟩ dX4_rowFor_16 (fun H locs Y => ?_)
  obtain ⟨st3, est3, h⟩ := nm_s h
  have Y : Hp g nwX (ceX g) A s.heap st3 H locs := by rw [est3]; exact Y
  refine lv_aload_n hx hb dX4_rowFor_19 rfl (lv_at hl 1 rfl) ?_
  refine lv_aload_n hx hb dX4_rowFor_20 rfl (lv_at hl 1 rfl) ?_
  refine k_get (v := .int (st3.1 1 1)) X Y fl_4_35 1 (Nat.le_of_ble_eq_true rfl) rfl rfl dX4_rowFor_21 ?_
  refine lv_iconst (v := 1) hx hb dX4_rowFor_24 (by decide) ?_
  refine lv_isub hx hb dX4_rowFor_25 ?_
  refine lv_iload_n hx hb dX4_rowFor_26 rfl (lv_at hl 2 rfl) ?_
  refine lv_isub hx hb dX4_rowFor_27 ?_
  obtain ⟨v5, hc4, h⟩ := bnd1_s h
  refine k_cJ Y (k_runV (As := [.int (((st3.1 1 1) - 1) - x2)]) (rest := []) (o := 1) X Y cl_4_64 (c_X3_scale l hc4 _) ⟨rfl, rfl, Nat.le_of_ble_eq_true rfl, Nat.le_of_ble_eq_true rfl⟩ (Nat.le_of_ble_eq_true rfl) rfl rfl hl.1 rfl (Nat.le_of_ble_eq_true rfl) dX4_rowFor_28 ⟨Nat.zero_le _, Nat.zero_le _⟩) (fun H locs Y => ?_)
  refine lv_lstore (lv' := [(4, .long v5), (0, .ref (g.2.1 25)), (1, .ref (g.2.1 1)), (2, .int x2), (3, .int x3)]) hx hb dX4_rowFor_31 hl (by decide) rfl (fun ls hl => ?_)
  refine lv_aload_n hx hb dX4_rowFor_33 rfl (lv_at hl 2 rfl) ?_
  refine k_get (v := .int (st3.1 1 9)) X Y fl_4_68 1 (Nat.le_of_ble_eq_true rfl) rfl rfl dX4_rowFor_34 ?_
  refine lv_iconst (v := 1) hx hb dX4_rowFor_37 (by decide) ?_
  refine lv_isub hx hb dX4_rowFor_38 ?_
  obtain ⟨v6, ev6, h⟩ := nm_s h
  refine k_nmI ev6 ?_
  refine lv_istore (lv' := [(6, .int v6), (4, .long v5), (0, .ref (g.2.1 25)), (1, .ref (g.2.1 1)), (2, .int x2), (3, .int x3)]) hx hb dX4_rowFor_39 hl (by decide) rfl (fun ls hl => ?_)
  exact w_X4_rowFor_41_25 X   FU v5 v6 st3 _ _ _ h Y (lv_sub hl [2, 3, 4, 5, 1, 0] rfl)
theorem c_X4_rowFor_25 (l : Launch) {g : Gx} {x2 : Int32} {x3 : Int32} {st : Sg} {st9 : Sg} (h : X4_rowFor 25 x2 x3 st = some st9) : MetV l yX4_rowFor cX4_rowFor 7 none rm_X4_rowFor g nwX (ceX g) [.ref (g.2.1 25), .ref (g.2.1 1), .int x2, .int x3] st st9 :=
  met_of (Qc := fun A => QV g nwX (ceX g) A st9) (by decide) (Nat.le_of_ble_eq_true rfl) (fun p e s m below meth c A ls X Y hl => w_X4_rowFor_25 X h Y hl)
def X4_takeGreater_53 (b : Nat) (rc2 : Int32 → Sg → Option Sg) (x1 : Int32) (x2 : Int32) (x3 : Int32) (st : Sg) : Option Sg :=
  nm (x3 + 1) fun v1 =>
  rc2 v1 st
def X4_takeGreater_30 (b : Nat) (rc2 : Int32 → Sg → Option Sg) (x1 : Int32) (x2 : Int32) (x3 : Int32) (st : Sg) : Option Sg :=
  cix x1 7 <|
  cix x3 13 <|
  cix x3 13 <|
  nm (sJ st ((b + 2) + (x1).toNatClampNeg) x3.toNatClampNeg (st.2 (b + 16) x3.toNatClampNeg)) fun st4 =>
  cix x1 6 <|
  cix x3 13 <|
  nm (sI st4 ((b + 10) + (x1).toNatClampNeg) x3.toNatClampNeg x2) fun st7 =>
  X4_takeGreater_53 b rc2 x1 x2 x3 st7
def X4_takeGreater_59 (b : Nat)   (st : Sg) : Option Sg :=
  some st
def X4_takeGreater_2b (b : Nat) (rc2 : Int32 → Sg → Option Sg) (x1 : Int32) (x2 : Int32) (x3 : Int32) (st : Sg) : Option Sg :=
  if (12 : Int32) < x3 then
    X4_takeGreater_59 b st
  else
    if x2 = (0 : Int32) then
      X4_takeGreater_30 b rc2 x1 x2 x3 st
    else
      cix x3 13 <|
      cix x1 7 <|
      cix x3 13 <|
      if (lg_cmp (st.2 (b + 16) x3.toNatClampNeg) (st.2 ((b + 2) + (x1).toNatClampNeg) x3.toNatClampNeg)) ≤ (0 : Int32) then
        X4_takeGreater_53 b rc2 x1 x2 x3 st
      else
        X4_takeGreater_30 b rc2 x1 x2 x3 st
def X4_takeGreater_2 (b : Nat)  (x1 : Int32) (x2 : Int32) : Nat → Int32 → Sg → Option Sg
  | 0, _, _ => none
  | k + 1, x3, st => X4_takeGreater_2b b  (X4_takeGreater_2 b x1 x2 k) x1 x2 x3 st
def X4_takeGreater (b : Nat)  (x1 : Int32) (x2 : Int32) (st : Sg) : Option Sg :=
  X4_takeGreater_2 b x1 x2 FU 0 st
abbrev rm_X4_takeGreater : Room := { frames := 0, cells := 0, slots := 0, locals := 0 }
set_option maxHeartbeats 4000000 in
set_option maxRecDepth 100000 in
theorem w_X4_takeGreater_53_8 (X : Cx g p s m args meth c cX4_takeGreater 4 RX4 none) {x1 : Int32} {x2 : Int32} {x3 : Int32} {st : Sg} {st9 : Sg} (rc2 : Int32 → Sg → Option Sg) (hrc2 : ∀ (x3 : Int32) (st : Sg) (ls : Array Slot) (H : Heap) (locs : List Loc), rc2 x3 st = some st9 → Hp g nwX (ceX g) A s.heap st H locs → lv_has ls 4 [(0, .ref (g.2.1 8)), (1, .int x1), (2, .int x2), (3, .int x3)] → W p l e rm_X4_takeGreater s m args below meth c H locs 0 0 (MQ below (QV g nwX (ceX g) A st9) args s 0 0 A) (F0 m 2 ls [])) (h : X4_takeGreater_53 8 rc2 x1 x2 x3 st = some st9) (Y : Hp g nwX (ceX g) A s.heap st H locs)  (hl : lv_has ls 4 [(0, .ref (g.2.1 8)), (1, .int x1), (2, .int x2), (3, .int x3)]) : W p l e rm_X4_takeGreater s m args below meth c H locs 0 0 (MQ below (QV g nwX (ceX g) A st9) args s 0 0 A) (F0 m 53 ls []) := by
  have hx := X.1
  have hb := X.2.1
  unfold X4_takeGreater_53 at h
  obtain ⟨v1, ev1, h⟩ := nm_s h
  refine lv_iinc (v := v1) (lv' := [(3, .int v1), (0, .ref (g.2.1 8)), (1, .int x1), (2, .int x2)]) hx hb dX4_takeGreater_53 hl (k := 3) rfl (by rw [ev1]; rfl) (by decide) rfl (fun ls hl => ?_)
  refine lv_goto (tgt := 2) hx hb dX4_takeGreater_56 (by decide) ?_
  exact hrc2 v1 st _ _ _ h Y (lv_sub hl [1, 2, 3, 0] rfl)
set_option maxHeartbeats 4000000 in
set_option maxRecDepth 100000 in
theorem w_X4_takeGreater_30_8 (X : Cx g p s m args meth c cX4_takeGreater 4 RX4 none) {x1 : Int32} {x2 : Int32} {x3 : Int32} {st : Sg} {st9 : Sg} (rc2 : Int32 → Sg → Option Sg) (hrc2 : ∀ (x3 : Int32) (st : Sg) (ls : Array Slot) (H : Heap) (locs : List Loc), rc2 x3 st = some st9 → Hp g nwX (ceX g) A s.heap st H locs → lv_has ls 4 [(0, .ref (g.2.1 8)), (1, .int x1), (2, .int x2), (3, .int x3)] → W p l e rm_X4_takeGreater s m args below meth c H locs 0 0 (MQ below (QV g nwX (ceX g) A st9) args s 0 0 A) (F0 m 2 ls [])) (h : X4_takeGreater_30 8 rc2 x1 x2 x3 st = some st9) (Y : Hp g nwX (ceX g) A s.heap st H locs)  (hl : lv_has ls 4 [(0, .ref (g.2.1 8)), (1, .int x1), (2, .int x2), (3, .int x3)]) : W p l e rm_X4_takeGreater s m args below meth c H locs 0 0 (MQ below (QV g nwX (ceX g) A st9) args s 0 0 A) (F0 m 30 ls []) := by
  have hx := X.1
  have hb := X.2.1
  unfold X4_takeGreater_30 at h
  refine lv_aload_n hx hb dX4_takeGreater_30 rfl (lv_at hl 0 rfl) ?_
  refine k_get (v := .ref (g.2.1 9)) X Y fl_4_11 8 (Nat.le_of_ble_eq_true rfl) rfl rfl dX4_takeGreater_31 ?_
  refine lv_iload_n hx hb dX4_takeGreater_34 rfl (lv_at hl 1 rfl) ?_
  obtain ⟨i1, h⟩ := cix_s h
  refine k_aaldJ (b := 10) X Y 9 (Nat.le_of_ble_eq_true rfl) (fun _ _ => rfl) i1 dX4_takeGreater_35 ?_
  refine lv_iload_n hx hb dX4_takeGreater_36 rfl (lv_at hl 3 rfl) ?_
  refine lv_aload_n hx hb dX4_takeGreater_37 rfl (lv_at hl 0 rfl) ?_
  refine k_get (v := .ref (g.2.1 24)) X Y fl_4_21 8 (Nat.le_of_ble_eq_true rfl) rfl rfl dX4_takeGreater_38 ?_
  refine lv_iload_n hx hb dX4_takeGreater_41 rfl (lv_at hl 3 rfl) ?_
  obtain ⟨i2, h⟩ := cix_s h
  refine k_lald X Y 24 (Nat.le_of_ble_eq_true rfl) (fun _ _ => rfl) i2 dX4_takeGreater_42 ?_
  obtain ⟨i3, h⟩ := cix_s h
  refine k_last X Y (10 + (x1).toNatClampNeg) (row_lt i1 (Nat.le_of_ble_eq_true rfl)) (rowX_10 _ (vp_lt i1)) i3 dX4_takeGreater_43 (fun H locs Y => ?_)
  obtain ⟨st4, est4, h⟩ := nm_s h
  have Y : Hp g nwX (ceX g) A s.heap st4 H locs := by rw [est4]; exact Y
  refine lv_aload_n hx hb dX4_takeGreater_44 rfl (lv_at hl 0 rfl) ?_
  refine k_get (v := .ref (g.2.1 17)) X Y fl_4_18 8 (Nat.le_of_ble_eq_true rfl) rfl rfl dX4_takeGreater_45 ?_
  refine lv_iload_n hx hb dX4_takeGreater_48 rfl (lv_at hl 1 rfl) ?_
  obtain ⟨i5, h⟩ := cix_s h
  refine k_aaldI (b := 18) X Y 17 (Nat.le_of_ble_eq_true rfl) (fun _ _ => rfl) i5 dX4_takeGreater_49 ?_
  refine lv_iload_n hx hb dX4_takeGreater_50 rfl (lv_at hl 3 rfl) ?_
  refine lv_iload_n hx hb dX4_takeGreater_51 rfl (lv_at hl 2 rfl) ?_
  obtain ⟨i6, h⟩ := cix_s h
  refine k_iast X Y (18 + (x1).toNatClampNeg) (row_lt i5 (Nat.le_of_ble_eq_true rfl)) (rowX_18 _ (vp_lt i5)) i6 dX4_takeGreater_52 (fun H locs Y => ?_)
  obtain ⟨st7, est7, h⟩ := nm_s h
  have Y : Hp g nwX (ceX g) A s.heap st7 H locs := by rw [est7]; exact Y
  exact w_X4_takeGreater_53_8 X rc2 hrc2 h Y  (lv_sub hl [0, 1, 2, 3] rfl)
set_option maxHeartbeats 4000000 in
set_option maxRecDepth 100000 in
theorem w_X4_takeGreater_59_8 (X : Cx g p s m args meth c cX4_takeGreater 4 RX4 none)  {st : Sg} {st9 : Sg}  (h : X4_takeGreater_59 8 st = some st9) (Y : Hp g nwX (ceX g) A s.heap st H locs)  (hl : lv_has ls 4 []) : W p l e rm_X4_takeGreater s m args below meth c H locs 0 0 (MQ below (QV g nwX (ceX g) A st9) args s 0 0 A) (F0 m 59 ls []) := by
  have hx := X.1
  have hb := X.2.1
  unfold X4_takeGreater_59 at h
  exact k_vretW X Y h dX4_takeGreater_59
set_option maxHeartbeats 4000000 in
set_option maxRecDepth 100000 in
theorem w_X4_takeGreater_2b_8 (X : Cx g p s m args meth c cX4_takeGreater 4 RX4 none) {x1 : Int32} {x2 : Int32} {x3 : Int32} {st : Sg} {st9 : Sg} (rc2 : Int32 → Sg → Option Sg) (hrc2 : ∀ (x3 : Int32) (st : Sg) (ls : Array Slot) (H : Heap) (locs : List Loc), rc2 x3 st = some st9 → Hp g nwX (ceX g) A s.heap st H locs → lv_has ls 4 [(0, .ref (g.2.1 8)), (1, .int x1), (2, .int x2), (3, .int x3)] → W p l e rm_X4_takeGreater s m args below meth c H locs 0 0 (MQ below (QV g nwX (ceX g) A st9) args s 0 0 A) (F0 m 2 ls [])) (h : X4_takeGreater_2b 8 rc2 x1 x2 x3 st = some st9) (Y : Hp g nwX (ceX g) A s.heap st H locs)  (hl : lv_has ls 4 [(0, .ref (g.2.1 8)), (1, .int x1), (2, .int x2), (3, .int x3)]) : W p l e rm_X4_takeGreater s m args below meth c H locs 0 0 (MQ below (QV g nwX (ceX g) A st9) args s 0 0 A) (F0 m 2 ls []) := by
  have hx := X.1
  have hb := X.2.1
  unfold X4_takeGreater_2b at h
  refine lv_iload_n hx hb dX4_takeGreater_2 rfl (lv_at hl 3 rfl) ?_
  refine lv_bipush (v := 12) hx hb dX4_takeGreater_3 (by decide) ?_
  refine lv_icmp_gt (tgt := 59) hx hb dX4_takeGreater_5 (by decide) (fun c1 => ?_) (fun c1 => ?_)
  · have h := ite_t h c1
    exact w_X4_takeGreater_59_8 X  h Y  (lv_sub hl [] rfl)
  · have h := ite_f h c1
    refine lv_iload_n hx hb dX4_takeGreater_8 rfl (lv_at hl 2 rfl) ?_
    refine lv_if_eq (tgt := 30) hx hb dX4_takeGreater_9 (by decide) (fun c2 => ?_) (fun c2 => ?_)
    · have h := ite_t h c2
      exact w_X4_takeGreater_30_8 X rc2 hrc2 h Y  (lv_sub hl [0, 1, 2, 3] rfl)
    · have h := ite_f h c2
      refine lv_aload_n hx hb dX4_takeGreater_12 rfl (lv_at hl 0 rfl) ?_
      refine k_get (v := .ref (g.2.1 24)) X Y fl_4_21 8 (Nat.le_of_ble_eq_true rfl) rfl rfl dX4_takeGreater_13 ?_
      refine lv_iload_n hx hb dX4_takeGreater_16 rfl (lv_at hl 3 rfl) ?_
      obtain ⟨i3, h⟩ := cix_s h
      refine k_lald X Y 24 (Nat.le_of_ble_eq_true rfl) (fun _ _ => rfl) i3 dX4_takeGreater_17 ?_
      refine lv_aload_n hx hb dX4_takeGreater_18 rfl (lv_at hl 0 rfl) ?_
      refine k_get (v := .ref (g.2.1 9)) X Y fl_4_11 8 (Nat.le_of_ble_eq_true rfl) rfl rfl dX4_takeGreater_19 ?_
      refine lv_iload_n hx hb dX4_takeGreater_22 rfl (lv_at hl 1 rfl) ?_
      obtain ⟨i4, h⟩ := cix_s h
      refine k_aaldJ (b := 10) X Y 9 (Nat.le_of_ble_eq_true rfl) (fun _ _ => rfl) i4 dX4_takeGreater_23 ?_
      refine lv_iload_n hx hb dX4_takeGreater_24 rfl (lv_at hl 3 rfl) ?_
      obtain ⟨i5, h⟩ := cix_s h
      refine k_lald X Y (10 + (x1).toNatClampNeg) (row_lt i4 (Nat.le_of_ble_eq_true rfl)) (rowX_10 _ (vp_lt i4)) i5 dX4_takeGreater_25 ?_
      refine W.lcmp hx hb dX4_takeGreater_26 ?_
      refine lv_if_le (tgt := 53) hx hb dX4_takeGreater_27 (by decide) (fun c6 => ?_) (fun c6 => ?_)
      · have h := ite_t h c6
        exact w_X4_takeGreater_53_8 X rc2 hrc2 h Y  (lv_sub hl [0, 1, 2, 3] rfl)
      · have h := ite_f h c6
        exact w_X4_takeGreater_30_8 X rc2 hrc2 h Y  (lv_sub hl [0, 1, 2, 3] rfl)
theorem w_X4_takeGreater_2_8 (X : Cx g p s m args meth c cX4_takeGreater 4 RX4 none) {x1 : Int32} {x2 : Int32}  {st9 : Sg}   : ∀ (k : Nat) (x3 : Int32) (st : Sg) (ls : Array Slot) (H : Heap) (locs : List Loc), X4_takeGreater_2 8 x1 x2 k x3 st = some st9 → Hp g nwX (ceX g) A s.heap st H locs → lv_has ls 4 [(0, .ref (g.2.1 8)), (1, .int x1), (2, .int x2), (3, .int x3)] → W p l e rm_X4_takeGreater s m args below meth c H locs 0 0 (MQ below (QV g nwX (ceX g) A st9) args s 0 0 A) (F0 m 2 ls []) := by
  intro k
  induction k with
  | zero =>
    intro x3 st ls H locs h
    exact none_s h
  | succ k ih =>
    intro x3 st ls H locs h Y hl
    exact w_X4_takeGreater_2b_8 X  (X4_takeGreater_2 8 x1 x2 k) ih h Y  hl
set_option maxHeartbeats 4000000 in
set_option maxRecDepth 100000 in
theorem w_X4_takeGreater_8 (X : Cx g p s m args meth c cX4_takeGreater 4 RX4 none) {x1 : Int32} {x2 : Int32} {st : Sg} {st9 : Sg}  (h : X4_takeGreater 8 x1 x2 st = some st9) (Y : Hp g nwX (ceX g) A s.heap st H locs)  (hl : lv_has ls 4 [(0, .ref (g.2.1 8)), (1, .int x1), (2, .int x2)]) : W p l e rm_X4_takeGreater s m args below meth c H locs 0 0 (MQ below (QV g nwX (ceX g) A st9) args s 0 0 A) (F0 m 0 ls []) := by
  have hx := X.1
  have hb := X.2.1
  unfold X4_takeGreater at h
  refine lv_iconst (v := 0) hx hb dX4_takeGreater_0 (by decide) ?_
  refine lv_istore_n (lv' := [(3, .int 0), (0, .ref (g.2.1 8)), (1, .int x1), (2, .int x2)]) hx hb dX4_takeGreater_1 rfl hl (by decide) rfl (fun ls hl => ?_)
  exact w_X4_takeGreater_2_8 X   FU 0 st _ _ _ h Y (lv_sub hl [1, 2, 3, 0] rfl)
theorem c_X4_takeGreater_8 (l : Launch) {g : Gx} {x1 : Int32} {x2 : Int32} {st : Sg} {st9 : Sg} (h : X4_takeGreater 8 x1 x2 st = some st9) : MetV l yX4_takeGreater cX4_takeGreater 4 none rm_X4_takeGreater g nwX (ceX g) [.ref (g.2.1 8), .int x1, .int x2] st st9 :=
  met_of (Qc := fun A => QV g nwX (ceX g) A st9) (by decide) (Nat.le_of_ble_eq_true rfl) (fun p e s m below meth c A ls X Y hl => w_X4_takeGreater_8 X h Y hl)
set_option maxHeartbeats 4000000 in
set_option maxRecDepth 100000 in
theorem w_X4_takeGreater_53_25 (X : Cx g p s m args meth c cX4_takeGreater 4 RX4 none) {x1 : Int32} {x2 : Int32} {x3 : Int32} {st : Sg} {st9 : Sg} (rc2 : Int32 → Sg → Option Sg) (hrc2 : ∀ (x3 : Int32) (st : Sg) (ls : Array Slot) (H : Heap) (locs : List Loc), rc2 x3 st = some st9 → Hp g nwX (ceX g) A s.heap st H locs → lv_has ls 4 [(0, .ref (g.2.1 25)), (1, .int x1), (2, .int x2), (3, .int x3)] → W p l e rm_X4_takeGreater s m args below meth c H locs 0 0 (MQ below (QV g nwX (ceX g) A st9) args s 0 0 A) (F0 m 2 ls [])) (h : X4_takeGreater_53 25 rc2 x1 x2 x3 st = some st9) (Y : Hp g nwX (ceX g) A s.heap st H locs)  (hl : lv_has ls 4 [(0, .ref (g.2.1 25)), (1, .int x1), (2, .int x2), (3, .int x3)]) : W p l e rm_X4_takeGreater s m args below meth c H locs 0 0 (MQ below (QV g nwX (ceX g) A st9) args s 0 0 A) (F0 m 53 ls []) := by
  have hx := X.1
  have hb := X.2.1
  unfold X4_takeGreater_53 at h
  obtain ⟨v1, ev1, h⟩ := nm_s h
  refine lv_iinc (v := v1) (lv' := [(3, .int v1), (0, .ref (g.2.1 25)), (1, .int x1), (2, .int x2)]) hx hb dX4_takeGreater_53 hl (k := 3) rfl (by rw [ev1]; rfl) (by decide) rfl (fun ls hl => ?_)
  refine lv_goto (tgt := 2) hx hb dX4_takeGreater_56 (by decide) ?_
  exact hrc2 v1 st _ _ _ h Y (lv_sub hl [1, 2, 3, 0] rfl)
set_option maxHeartbeats 4000000 in
set_option maxRecDepth 100000 in
theorem w_X4_takeGreater_30_25 (X : Cx g p s m args meth c cX4_takeGreater 4 RX4 none) {x1 : Int32} {x2 : Int32} {x3 : Int32} {st : Sg} {st9 : Sg} (rc2 : Int32 → Sg → Option Sg) (hrc2 : ∀ (x3 : Int32) (st : Sg) (ls : Array Slot) (H : Heap) (locs : List Loc), rc2 x3 st = some st9 → Hp g nwX (ceX g) A s.heap st H locs → lv_has ls 4 [(0, .ref (g.2.1 25)), (1, .int x1), (2, .int x2), (3, .int x3)] → W p l e rm_X4_takeGreater s m args below meth c H locs 0 0 (MQ below (QV g nwX (ceX g) A st9) args s 0 0 A) (F0 m 2 ls [])) (h : X4_takeGreater_30 25 rc2 x1 x2 x3 st = some st9) (Y : Hp g nwX (ceX g) A s.heap st H locs)  (hl : lv_has ls 4 [(0, .ref (g.2.1 25)), (1, .int x1), (2, .int x2), (3, .int x3)]) : W p l e rm_X4_takeGreater s m args below meth c H locs 0 0 (MQ below (QV g nwX (ceX g) A st9) args s 0 0 A) (F0 m 30 ls []) := by
  have hx := X.1
  have hb := X.2.1
  unfold X4_takeGreater_30 at h
  refine lv_aload_n hx hb dX4_takeGreater_30 rfl (lv_at hl 0 rfl) ?_
  refine k_get (v := .ref (g.2.1 26)) X Y fl_4_11 25 (Nat.le_of_ble_eq_true rfl) rfl rfl dX4_takeGreater_31 ?_
  refine lv_iload_n hx hb dX4_takeGreater_34 rfl (lv_at hl 1 rfl) ?_
  obtain ⟨i1, h⟩ := cix_s h
  refine k_aaldJ (b := 27) X Y 26 (Nat.le_of_ble_eq_true rfl) (fun _ _ => rfl) i1 dX4_takeGreater_35 ?_
  refine lv_iload_n hx hb dX4_takeGreater_36 rfl (lv_at hl 3 rfl) ?_
  refine lv_aload_n hx hb dX4_takeGreater_37 rfl (lv_at hl 0 rfl) ?_
  refine k_get (v := .ref (g.2.1 41)) X Y fl_4_21 25 (Nat.le_of_ble_eq_true rfl) rfl rfl dX4_takeGreater_38 ?_
  refine lv_iload_n hx hb dX4_takeGreater_41 rfl (lv_at hl 3 rfl) ?_
  obtain ⟨i2, h⟩ := cix_s h
  refine k_lald X Y 41 (Nat.le_of_ble_eq_true rfl) (fun _ _ => rfl) i2 dX4_takeGreater_42 ?_
  obtain ⟨i3, h⟩ := cix_s h
  refine k_last X Y (27 + (x1).toNatClampNeg) (row_lt i1 (Nat.le_of_ble_eq_true rfl)) (rowX_27 _ (vp_lt i1)) i3 dX4_takeGreater_43 (fun H locs Y => ?_)
  obtain ⟨st4, est4, h⟩ := nm_s h
  have Y : Hp g nwX (ceX g) A s.heap st4 H locs := by rw [est4]; exact Y
  refine lv_aload_n hx hb dX4_takeGreater_44 rfl (lv_at hl 0 rfl) ?_
  refine k_get (v := .ref (g.2.1 34)) X Y fl_4_18 25 (Nat.le_of_ble_eq_true rfl) rfl rfl dX4_takeGreater_45 ?_
  refine lv_iload_n hx hb dX4_takeGreater_48 rfl (lv_at hl 1 rfl) ?_
  obtain ⟨i5, h⟩ := cix_s h
  refine k_aaldI (b := 35) X Y 34 (Nat.le_of_ble_eq_true rfl) (fun _ _ => rfl) i5 dX4_takeGreater_49 ?_
  refine lv_iload_n hx hb dX4_takeGreater_50 rfl (lv_at hl 3 rfl) ?_
  refine lv_iload_n hx hb dX4_takeGreater_51 rfl (lv_at hl 2 rfl) ?_
  obtain ⟨i6, h⟩ := cix_s h
  refine k_iast X Y (35 + (x1).toNatClampNeg) (row_lt i5 (Nat.le_of_ble_eq_true rfl)) (rowX_35 _ (vp_lt i5)) i6 dX4_takeGreater_52 (fun H locs Y => ?_)
  obtain ⟨st7, est7, h⟩ := nm_s h
  have Y : Hp g nwX (ceX g) A s.heap st7 H locs := by rw [est7]; exact Y
  exact w_X4_takeGreater_53_25 X rc2 hrc2 h Y  (lv_sub hl [0, 1, 2, 3] rfl)
set_option maxHeartbeats 4000000 in
set_option maxRecDepth 100000 in
theorem w_X4_takeGreater_59_25 (X : Cx g p s m args meth c cX4_takeGreater 4 RX4 none)  {st : Sg} {st9 : Sg}  (h : X4_takeGreater_59 25 st = some st9) (Y : Hp g nwX (ceX g) A s.heap st H locs)  (hl : lv_has ls 4 []) : W p l e rm_X4_takeGreater s m args below meth c H locs 0 0 (MQ below (QV g nwX (ceX g) A st9) args s 0 0 A) (F0 m 59 ls []) := by
  have hx := X.1
  have hb := X.2.1
  unfold X4_takeGreater_59 at h
  exact k_vretW X Y h dX4_takeGreater_59
set_option maxHeartbeats 4000000 in
set_option maxRecDepth 100000 in
theorem w_X4_takeGreater_2b_25 (X : Cx g p s m args meth c cX4_takeGreater 4 RX4 none) {x1 : Int32} {x2 : Int32} {x3 : Int32} {st : Sg} {st9 : Sg} (rc2 : Int32 → Sg → Option Sg) (hrc2 : ∀ (x3 : Int32) (st : Sg) (ls : Array Slot) (H : Heap) (locs : List Loc), rc2 x3 st = some st9 → Hp g nwX (ceX g) A s.heap st H locs → lv_has ls 4 [(0, .ref (g.2.1 25)), (1, .int x1), (2, .int x2), (3, .int x3)] → W p l e rm_X4_takeGreater s m args below meth c H locs 0 0 (MQ below (QV g nwX (ceX g) A st9) args s 0 0 A) (F0 m 2 ls [])) (h : X4_takeGreater_2b 25 rc2 x1 x2 x3 st = some st9) (Y : Hp g nwX (ceX g) A s.heap st H locs)  (hl : lv_has ls 4 [(0, .ref (g.2.1 25)), (1, .int x1), (2, .int x2), (3, .int x3)]) : W p l e rm_X4_takeGreater s m args below meth c H locs 0 0 (MQ below (QV g nwX (ceX g) A st9) args s 0 0 A) (F0 m 2 ls []) := by
  have hx := X.1
  have hb := X.2.1
  unfold X4_takeGreater_2b at h
  refine lv_iload_n hx hb dX4_takeGreater_2 rfl (lv_at hl 3 rfl) ?_
  refine lv_bipush (v := 12) hx hb dX4_takeGreater_3 (by decide) ?_
  refine lv_icmp_gt (tgt := 59) hx hb dX4_takeGreater_5 (by decide) (fun c1 => ?_) (fun c1 => ?_)
  · have h := ite_t h c1
    exact w_X4_takeGreater_59_25 X  h Y  (lv_sub hl [] rfl)
  · have h := ite_f h c1
    refine lv_iload_n hx hb dX4_takeGreater_8 rfl (lv_at hl 2 rfl) ?_
    refine lv_if_eq (tgt := 30) hx hb dX4_takeGreater_9 (by decide) (fun c2 => ?_) (fun c2 => ?_)
    · have h := ite_t h c2
      exact w_X4_takeGreater_30_25 X rc2 hrc2 h Y  (lv_sub hl [0, 1, 2, 3] rfl)
    · have h := ite_f h c2
      refine lv_aload_n hx hb dX4_takeGreater_12 rfl (lv_at hl 0 rfl) ?_
      refine k_get (v := .ref (g.2.1 41)) X Y fl_4_21 25 (Nat.le_of_ble_eq_true rfl) rfl rfl dX4_takeGreater_13 ?_
      refine lv_iload_n hx hb dX4_takeGreater_16 rfl (lv_at hl 3 rfl) ?_
      obtain ⟨i3, h⟩ := cix_s h
      refine k_lald X Y 41 (Nat.le_of_ble_eq_true rfl) (fun _ _ => rfl) i3 dX4_takeGreater_17 ?_
      refine lv_aload_n hx hb dX4_takeGreater_18 rfl (lv_at hl 0 rfl) ?_
      refine k_get (v := .ref (g.2.1 26)) X Y fl_4_11 25 (Nat.le_of_ble_eq_true rfl) rfl rfl dX4_takeGreater_19 ?_
      refine lv_iload_n hx hb dX4_takeGreater_22 rfl (lv_at hl 1 rfl) ?_
      obtain ⟨i4, h⟩ := cix_s h
      refine k_aaldJ (b := 27) X Y 26 (Nat.le_of_ble_eq_true rfl) (fun _ _ => rfl) i4 dX4_takeGreater_23 ?_
      refine lv_iload_n hx hb dX4_takeGreater_24 rfl (lv_at hl 3 rfl) ?_
      obtain ⟨i5, h⟩ := cix_s h
      refine k_lald X Y (27 + (x1).toNatClampNeg) (row_lt i4 (Nat.le_of_ble_eq_true rfl)) (rowX_27 _ (vp_lt i4)) i5 dX4_takeGreater_25 ?_
      refine W.lcmp hx hb dX4_takeGreater_26 ?_
      refine lv_if_le (tgt := 53) hx hb dX4_takeGreater_27 (by decide) (fun c6 => ?_) (fun c6 => ?_)
      · have h := ite_t h c6
        exact w_X4_takeGreater_53_25 X rc2 hrc2 h Y  (lv_sub hl [0, 1, 2, 3] rfl)
      · have h := ite_f h c6
        exact w_X4_takeGreater_30_25 X rc2 hrc2 h Y  (lv_sub hl [0, 1, 2, 3] rfl)
theorem w_X4_takeGreater_2_25 (X : Cx g p s m args meth c cX4_takeGreater 4 RX4 none) {x1 : Int32} {x2 : Int32}  {st9 : Sg}   : ∀ (k : Nat) (x3 : Int32) (st : Sg) (ls : Array Slot) (H : Heap) (locs : List Loc), X4_takeGreater_2 25 x1 x2 k x3 st = some st9 → Hp g nwX (ceX g) A s.heap st H locs → lv_has ls 4 [(0, .ref (g.2.1 25)), (1, .int x1), (2, .int x2), (3, .int x3)] → W p l e rm_X4_takeGreater s m args below meth c H locs 0 0 (MQ below (QV g nwX (ceX g) A st9) args s 0 0 A) (F0 m 2 ls []) := by
  intro k
  induction k with
  | zero =>
    intro x3 st ls H locs h
    exact none_s h
  | succ k ih =>
    intro x3 st ls H locs h Y hl
    exact w_X4_takeGreater_2b_25 X  (X4_takeGreater_2 25 x1 x2 k) ih h Y  hl
set_option maxHeartbeats 4000000 in
set_option maxRecDepth 100000 in
theorem w_X4_takeGreater_25 (X : Cx g p s m args meth c cX4_takeGreater 4 RX4 none) {x1 : Int32} {x2 : Int32} {st : Sg} {st9 : Sg}  (h : X4_takeGreater 25 x1 x2 st = some st9) (Y : Hp g nwX (ceX g) A s.heap st H locs)  (hl : lv_has ls 4 [(0, .ref (g.2.1 25)), (1, .int x1), (2, .int x2)]) : W p l e rm_X4_takeGreater s m args below meth c H locs 0 0 (MQ below (QV g nwX (ceX g) A st9) args s 0 0 A) (F0 m 0 ls []) := by
  have hx := X.1
  have hb := X.2.1
  unfold X4_takeGreater at h
  refine lv_iconst (v := 0) hx hb dX4_takeGreater_0 (by decide) ?_
  refine lv_istore_n (lv' := [(3, .int 0), (0, .ref (g.2.1 25)), (1, .int x1), (2, .int x2)]) hx hb dX4_takeGreater_1 rfl hl (by decide) rfl (fun ls hl => ?_)
  exact w_X4_takeGreater_2_25 X   FU 0 st _ _ _ h Y (lv_sub hl [1, 2, 3, 0] rfl)
theorem c_X4_takeGreater_25 (l : Launch) {g : Gx} {x1 : Int32} {x2 : Int32} {st : Sg} {st9 : Sg} (h : X4_takeGreater 25 x1 x2 st = some st9) : MetV l yX4_takeGreater cX4_takeGreater 4 none rm_X4_takeGreater g nwX (ceX g) [.ref (g.2.1 25), .int x1, .int x2] st st9 :=
  met_of (Qc := fun A => QV g nwX (ceX g) A st9) (by decide) (Nat.le_of_ble_eq_true rfl) (fun p e s m below meth c A ls X Y hl => w_X4_takeGreater_25 X h Y hl)
end LIFT
