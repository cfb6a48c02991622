/-! lifted by program: SaturdaySale$Walk.mean, SaturdaySale.brings, SaturdaySale$Sale.isSort, SaturdaySale$Sale.isWaiting, SaturdaySale$Sale.waitTold, SaturdaySale.change, SaturdaySale.dip, SaturdaySale.isOtherWith, SaturdaySale.edge, SaturdaySale$Text.isFact, SaturdaySale$Text.isPriceDigit, SaturdaySale$Text.isCompare, SaturdaySale$Text.isDigit, SaturdaySale$Text.follow -/
section LIFT
variable {p : Program} {l : Launch} {e : Env} {s : State} {m : MethodId} {args : Array Value} {below : List Frame} {meth : Method} {c : Code} {g : Gx} {A : Nat → Prop} {H : Heap} {locs : List Loc} {ls : Array Slot}
def X6_mean_53   (x2 : Int64) (st : Sg) : Option Int64 :=
  some x2
def X6_mean_13b  (rc13 : Int64 → Int32 → Option Int64) (x2 : Int64) (x4 : Int32) (st : Sg) : Option Int64 :=
  if (st.1 1 0) < x4 then
    X6_mean_53 x2 st
  else
    cix (st.1 1 1) 7 <|
    cix x4 13 <|
    nm (x2 + (((st.2 (44 + (st.1 1 1).toNatClampNeg) x4.toNatClampNeg) * (x4.toInt64)) * ((st.1 1 2).toInt64))) fun v4 =>
    nm (x4 + 1) fun v5 =>
    rc13 v4 v5
def X6_mean_13    (st : Sg) : Nat → Int64 → Int32 → Option Int64
  | 0, _, _ => none
  | k + 1, x2, x4 => X6_mean_13b   (X6_mean_13 st k) x2 x4 st
def X6_mean    (st : Sg) : Option Int64 :=
  cix (st.1 1 1) 7 <|
  nm (st.2 51 (st.1 1 1).toNatClampNeg) fun v2 =>
  X6_mean_13 st FU v2 1
abbrev rm_X6_mean : Room := { frames := 0, cells := 0, slots := 0, locals := 0 }
set_option maxHeartbeats 4000000 in
set_option maxRecDepth 100000 in
theorem w_X6_mean_53 (X : Cx g p s m args meth c cX6_mean 5 RX6 (some .long)) {x2 : Int64} {st : Sg} {r9 : Int64}  (h : X6_mean_53 x2 st = some r9) (Y : Hp g nwX (ceX g) A s.heap st H locs)  (hl : lv_has ls 5 [(2, .long x2)]) : W p l e rm_X6_mean s m args below meth c H locs 0 0 (MQ below (QJ g nwX (ceX g) A r9 st) args s 0 0 A) (F0 m 53 ls []) := by
  have hx := X.1
  have hb := X.2.1
  unfold X6_mean_53 at h
  refine lv_lload_n hx hb dX6_mean_53 rfl (lv_at hl 0 rfl) ?_
  exact k_lretR X Y h dX6_mean_54
set_option maxHeartbeats 4000000 in
set_option maxRecDepth 100000 in
theorem w_X6_mean_13b (X : Cx g p s m args meth c cX6_mean 5 RX6 (some .long)) {x2 : Int64} {x4 : Int32} {st : Sg} {r9 : Int64} (rc13 : Int64 → Int32 → Option Int64) (hrc13 : ∀ (x2 : Int64) (x4 : Int32) (ls : Array Slot) (H : Heap) (locs : List Loc), rc13 x2 x4 = some r9 → Hp g nwX (ceX g) A s.heap st H locs → lv_has ls 5 [(0, .ref (g.2.1 42)), (1, .ref (g.2.1 1)), (2, .long x2), (4, .int x4)] → W p l e rm_X6_mean s m args below meth c H locs 0 0 (MQ below (QJ g nwX (ceX g) A r9 st) args s 0 0 A) (F0 m 13 ls [])) (h : X6_mean_13b rc13 x2 x4 st = some r9) (Y : Hp g nwX (ceX g) A s.heap st H locs)  (hl : lv_has ls 5 [(0, .ref (g.2.1 42)), (1, .ref (g.2.1 1)), (2, .long x2), (4, .int x4)]) : W p l e rm_X6_mean s m args below meth c H locs 0 0 (MQ below (QJ g nwX (ceX g) A r9 st) args s 0 0 A) (F0 m 13 ls []) := by
  have hx := X.1
  have hb := X.2.1
  unfold X6_mean_13b at h
  refine lv_iload hx hb dX6_mean_13 (lv_at hl 3 rfl) ?_
  refine lv_aload_n hx hb dX6_mean_15 rfl (lv_at hl 1 rfl) ?_
  refine k_get (v := .int (st.1 1 0)) X Y fl_6_62 1 (Nat.le_of_ble_eq_true rfl) rfl rfl dX6_mean_16 ?_
  refine lv_icmp_gt (tgt := 53) hx hb dX6_mean_19 (by decide) (fun c1 => ?_) (fun c1 => ?_)
  · have h := ite_t h c1
    exact w_X6_mean_53 X  h Y  (lv_sub hl [2] rfl)
  · have h := ite_f h c1
    refine lv_lload_n hx hb dX6_mean_22 rfl (lv_at hl 2 rfl) ?_
    refine lv_aload_n hx hb dX6_mean_23 rfl (lv_at hl 0 rfl) ?_
    refine k_get (v := .ref (g.2.1 43)) X Y fl_6_11 42 (Nat.le_of_ble_eq_true rfl) rfl rfl dX6_mean_24 ?_
    refine lv_aload_n hx hb dX6_mean_27 rfl (lv_at hl 1 rfl) ?_
    refine k_get (v := .int (st.1 1 1)) X Y fl_6_29 1 (Nat.le_of_ble_eq_true rfl) rfl rfl dX6_mean_28 ?_
    obtain ⟨i2, h⟩ := cix_s h
    refine k_aaldJ (b := 44) X Y 43 (Nat.le_of_ble_eq_true rfl) (fun _ _ => rfl) i2 dX6_mean_31 ?_
    refine lv_iload hx hb dX6_mean_32 (lv_at hl 3 rfl) ?_
    obtain ⟨i3, h⟩ := cix_s h
    refine k_lald X Y (44 + (st.1 1 1).toNatClampNeg) (row_lt i2 (Nat.le_of_ble_eq_true rfl)) (rowX_44 _ (vp_lt i2)) i3 dX6_mean_34 ?_
    refine lv_iload hx hb dX6_mean_35 (lv_at hl 3 rfl) ?_
    refine lv_i2l hx hb dX6_mean_37 rfl ?_
    refine lv_lmul hx hb dX6_mean_38 ?_
    refine lv_aload_n hx hb dX6_mean_39 rfl (lv_at hl 1 rfl) ?_
    refine k_get (v := .int (st.1 1 2)) X Y fl_6_65 1 (Nat.le_of_ble_eq_true rfl) rfl rfl dX6_mean_40 ?_
    refine lv_i2l hx hb dX6_mean_43 rfl ?_
    refine lv_lmul hx hb dX6_mean_44 ?_
    refine lv_ladd hx hb dX6_mean_45 ?_
    obtain ⟨v4, ev4, h⟩ := nm_s h
    refine k_nmJ ev4 ?_
    refine lv_lstore_n (lv' := [(2, .long v4), (0, .ref (g.2.1 42)), (1, .ref (g.2.1 1)), (4, .int x4)]) hx hb dX6_mean_46 rfl hl (by decide) rfl (fun ls hl => ?_)
    obtain ⟨v5, ev5, h⟩ := nm_s h
    refine lv_iinc (v := v5) (lv' := [(4, .int v5), (2, .long v4), (0, .ref (g.2.1 42)), (1, .ref (g.2.1 1))]) hx hb dX6_mean_47 hl (k := 3) rfl (by rw [ev5]; rfl) (by decide) rfl (fun ls hl => ?_)
    refine lv_goto (tgt := 13) hx hb dX6_mean_50 (by decide) ?_
    exact hrc13 v4 v5 _ _ _ h Y (lv_sub hl [2, 3, 1, 0] rfl)
theorem w_X6_mean_13 (X : Cx g p s m args meth c cX6_mean 5 RX6 (some .long))  {st : Sg} {r9 : Int64}   : ∀ (k : Nat) (x2 : Int64) (x4 : Int32) (ls : Array Slot) (H : Heap) (locs : List Loc), X6_mean_13 st k x2 x4 = some r9 → Hp g nwX (ceX g) A s.heap st H locs → lv_has ls 5 [(0, .ref (g.2.1 42)), (1, .ref (g.2.1 1)), (2, .long x2), (4, .int x4)] → W p l e rm_X6_mean s m args below meth c H locs 0 0 (MQ below (QJ g nwX (ceX g) A r9 st) args s 0 0 A) (F0 m 13 ls []) := by
  intro k
  induction k with
  | zero =>
    intro x2 x4 ls H locs h
    exact none_s h
  | succ k ih =>
    intro x2 x4 ls H locs h Y hl
    exact w_X6_mean_13b X  (X6_mean_13 st k) ih h Y  hl
set_option maxHeartbeats 4000000 in
set_option maxRecDepth 100000 in
theorem w_X6_mean (X : Cx g p s m args meth c cX6_mean 5 RX6 (some .long))  {st : Sg} {r9 : Int64}  (h : X6_mean st = some r9) (Y : Hp g nwX (ceX g) A s.heap st H locs)  (hl : lv_has ls 5 [(0, .ref (g.2.1 42)), (1, .ref (g.2.1 1))]) : W p l e rm_X6_mean s m args below meth c H locs 0 0 (MQ below (QJ g nwX (ceX g) A r9 st) args s 0 0 A) (F0 m 0 ls []) := by
  have hx := X.1
  have hb := X.2.1
  unfold X6_mean at h
  refine lv_aload_n hx hb dX6_mean_0 rfl (lv_at hl 0 rfl) ?_
  refine k_get (v := .ref (g.2.1 51)) X Y fl_6_16 42 (Nat.le_of_ble_eq_true rfl) rfl rfl dX6_mean_1 ?_
  refine lv_aload_n hx hb dX6_mean_4 rfl (lv_at hl 1 rfl) ?_
  refine k_get (v := .int (st.1 1 1)) X Y fl_6_29 1 (Nat.le_of_ble_eq_true rfl) rfl rfl dX6_mean_5 ?_
  obtain ⟨i1, h⟩ := cix_s h
  refine k_lald X Y 51 (Nat.le_of_ble_eq_true rfl) (fun _ _ => rfl) i1 dX6_mean_8 ?_
  obtain ⟨v2, ev2, h⟩ := nm_s h
  refine k_nmJ ev2 ?_
  refine lv_lstore_n (lv' := [(2, .long v2), (0, .ref (g.2.1 42)), (1, .ref (g.2.1 1))]) hx hb dX6_mean_9 rfl hl (by decide) rfl (fun ls hl => ?_)
  refine lv_iconst (v := 1) hx hb dX6_mean_10 (by decide) ?_
  refine lv_istore (lv' := [(4, .int 1), (2, .long v2), (0, .ref (g.2.1 42)), (1, .ref (g.2.1 1))]) hx hb dX6_mean_11 hl (by decide) rfl (fun ls hl => ?_)
  exact w_X6_mean_13 X   FU v2 1 _ _ _ h Y (lv_sub hl [2, 3, 1, 0] rfl)
theorem c_X6_mean (l : Launch) {g : Gx}  {st : Sg} {r9 : Int64} (h : X6_mean st = some r9) : MetJ l yX6_mean cX6_mean 5 (some .long) rm_X6_mean g nwX (ceX g) [.ref (g.2.1 42), .ref (g.2.1 1)] st r9 st :=
  met_of (Qc := fun A => QJ g nwX (ceX g) A r9 st) (by decide) (Nat.le_of_ble_eq_true rfl) (fun p e s m below meth c A ls X Y hl => w_X6_mean X h Y hl)
def X7_brings   (x1 : Int32) (st : Sg) : Option (Int64 × Sg) :=
  bnd1 (X7_isPart x1) fun v2 =>
  bnd1 (X7_refusalOf v2 st) fun v4 =>
  if v4 = (0 : Int32) then
    bnd1 (X6_goByPlan 7 0 st) fun st7 =>
    bnd1 (X6_mean st7) fun v9 =>
    bnd1 (X3_scale (st7.1 1 1) st7) fun v11 =>
    bnd1 (X7_partOf v9 v11 x1) fun v13 =>
    some (v13, st7)
  else
    some ((-1000000000000000000) + (v4.toInt64), st)
abbrev rm_X7_brings : Room := { frames := 3, cells := 0, slots := 0, locals := 74 }
set_option maxHeartbeats 4000000 in
set_option maxRecDepth 100000 in
theorem w_X7_brings (X : Cx g p s m args meth c cX7_brings 3 RX7 (some .long)) {x1 : Int32} {st : Sg} {r9 : Int64} {st9 : Sg}  (h : X7_brings x1 st = some (r9, st9)) (Y : Hp g nwX (ceX g) A s.heap st H locs)  (hl : lv_has ls 3 [(0, .ref (g.2.1 0)), (1, .int x1)]) : W p l e rm_X7_brings s m args below meth c H locs 0 0 (MQ below (QJ g nwX (ceX g) A r9 st9) args s 0 0 A) (F0 m 0 ls []) := by
  have hx := X.1
  have hb := X.2.1
  unfold X7_brings at h
  refine lv_aload_n hx hb dX7_brings_0 rfl (lv_at hl 0 rfl) ?_
  refine lv_iload_n hx hb dX7_brings_1 rfl (lv_at hl 1 rfl) ?_
  obtain ⟨v2, hc1, h⟩ := bnd1_s h
  refine k_cI Y (k_runS (As := [.int x1]) (rest := [.ref (g.2.1 0)]) X Y cl_7_133 (c_X7_isPart l hc1 _) ⟨rfl, rfl, Nat.le_of_ble_eq_true rfl, Nat.le_of_ble_eq_true rfl⟩ rfl hl.1 rfl (Nat.le_of_ble_eq_true rfl) dX7_brings_2 ⟨Nat.zero_le _, Nat.zero_le _⟩) (fun H locs Y => ?_)
  obtain ⟨v4, hc3, h⟩ := bnd1_s h
  refine k_cI Y (k_runV (As := [.int v2]) (rest := []) (o := 0) X Y cl_7_136 (c_X7_refusalOf l hc3 _) ⟨rfl, rfl, Nat.le_of_ble_eq_true rfl, Nat.le_of_ble_eq_true rfl⟩ (Nat.le_of_ble_eq_true rfl) rfl rfl hl.1 rfl (Nat.le_of_ble_eq_true rfl) dX7_brings_5 ⟨Nat.zero_le _, Nat.zero_le _⟩) (fun H locs Y => ?_)
  refine lv_istore_n (lv' := [(2, .int v4), (0, .ref (g.2.1 0)), (1, .int x1)]) hx hb dX7_brings_8 rfl hl (by decide) rfl (fun ls hl => ?_)
  refine lv_iload_n hx hb dX7_brings_9 rfl (lv_at hl 0 rfl) ?_
  refine lv_if_eq (tgt := 20) hx hb dX7_brings_10 (by decide) (fun c5 => ?_) (fun c5 => ?_)
  · have h := ite_t h c5
    refine lv_aload_n hx hb dX7_brings_20 rfl (lv_at hl 1 rfl) ?_
    refine k_get (v := .ref (g.2.1 42)) X Y fl_7_33 0 (Nat.le_of_ble_eq_true rfl) rfl rfl dX7_brings_21 ?_
    refine lv_aload_n hx hb dX7_brings_24 rfl (lv_at hl 1 rfl) ?_
    refine k_get (v := .ref (g.2.1 1)) X Y fl_7_10 0 (Nat.le_of_ble_eq_true rfl) rfl rfl dX7_brings_25 ?_
    refine lv_aload_n hx hb dX7_brings_28 rfl (lv_at hl 1 rfl) ?_
    refine k_get (v := .ref (g.2.1 7)) X Y fl_7_16 0 (Nat.le_of_ble_eq_true rfl) rfl rfl dX7_brings_29 ?_
    refine lv_iconst (v := 0) hx hb dX7_brings_32 (by decide) ?_
    obtain ⟨st7, hc6, h⟩ := bnd1_s h
    refine k_cV Y (k_runV (As := [.ref (g.2.1 1), .ref (g.2.1 7), .int 0]) (rest := []) (o := 42) X Y cl_7_142 (c_X6_goByPlan_7 l hc6 _) ⟨rfl, rfl, Nat.le_of_ble_eq_true rfl, Nat.le_of_ble_eq_true rfl⟩ (Nat.le_of_ble_eq_true rfl) rfl rfl hl.1 rfl (Nat.le_of_ble_eq_true rfl) dX7_brings_33 ⟨Nat.zero_le _, Nat.zero_le _⟩) (fun H locs Y => ?_)
    refine lv_aload_n hx hb dX7_brings_36 rfl (lv_at hl 1 rfl) ?_
    refine k_get (v := .ref (g.2.1 42)) X Y fl_7_33 0 (Nat.le_of_ble_eq_true rfl) rfl rfl dX7_brings_37 ?_
    refine lv_aload_n hx hb dX7_brings_40 rfl (lv_at hl 1 rfl) ?_
    refine k_get (v := .ref (g.2.1 1)) X Y fl_7_10 0 (Nat.le_of_ble_eq_true rfl) rfl rfl dX7_brings_41 ?_
    obtain ⟨v9, hc8, h⟩ := bnd1_s h
    refine k_cJ Y (k_runV (As := [.ref (g.2.1 1)]) (rest := []) (o := 42) X Y cl_7_146 (c_X6_mean l hc8 _) ⟨rfl, rfl, Nat.le_of_ble_eq_true rfl, Nat.le_of_ble_eq_true rfl⟩ (Nat.le_of_ble_eq_true rfl) rfl rfl hl.1 rfl (Nat.le_of_ble_eq_true rfl) dX7_brings_44 ⟨Nat.zero_le _, Nat.zero_le _⟩) (fun H locs Y => ?_)
    refine lv_aload_n hx hb dX7_brings_47 rfl (lv_at hl 1 rfl) ?_
    refine k_get (v := .ref (g.2.1 1)) X Y fl_7_10 0 (Nat.le_of_ble_eq_true rfl) rfl rfl dX7_brings_48 ?_
    refine lv_aload_n hx hb dX7_brings_51 rfl (lv_at hl 1 rfl) ?_
    refine k_get (v := .ref (g.2.1 1)) X Y fl_7_10 0 (Nat.le_of_ble_eq_true rfl) rfl rfl dX7_brings_52 ?_
    refine k_get (v := .int (st7.1 1 1)) X Y fl_7_88 1 (Nat.le_of_ble_eq_true rfl) rfl rfl dX7_brings_55 ?_
    obtain ⟨v11, hc10, h⟩ := bnd1_s h
    refine k_cJ Y (k_runV (As := [.int (st7.1 1 1)]) (rest := [.long v9]) (o := 1) X Y cl_7_150 (c_X3_scale l hc10 _) ⟨rfl, rfl, Nat.le_of_ble_eq_true rfl, Nat.le_of_ble_eq_true rfl⟩ (Nat.le_of_ble_eq_true rfl) rfl rfl hl.1 rfl (Nat.le_of_ble_eq_true rfl) dX7_brings_58 ⟨Nat.zero_le _, Nat.zero_le _⟩) (fun H locs Y => ?_)
    refine lv_iload_n hx hb dX7_brings_61 rfl (lv_at hl 2 rfl) ?_
    obtain ⟨v13, hc12, h⟩ := bnd1_s h
    refine k_cJ Y (k_runS (As := [.long v9, .long v11, .int x1]) (rest := []) X Y cl_7_154 (c_X7_partOf l hc12 _) ⟨rfl, rfl, Nat.le_of_ble_eq_true rfl, Nat.le_of_ble_eq_true rfl⟩ rfl hl.1 rfl (Nat.le_of_ble_eq_true rfl) dX7_brings_62 ⟨Nat.zero_le _, Nat.zero_le _⟩) (fun H locs Y => ?_)
    exact k_lretW X Y h dX7_brings_65
  · have h := ite_f h c5
    refine k_ldc2 X lg_7_140 dX7_brings_13 ?_
    refine lv_iload_n hx hb dX7_brings_16 rfl (lv_at hl 0 rfl) ?_
    refine lv_i2l hx hb dX7_brings_17 rfl ?_
    refine lv_ladd hx hb dX7_brings_18 ?_
    exact k_lretW X Y h dX7_brings_19
theorem c_X7_brings (l : Launch) {g : Gx} {x1 : Int32} {st : Sg} {r9 : Int64} {st9 : Sg} (h : X7_brings x1 st = some (r9, st9)) : MetJ l yX7_brings cX7_brings 3 (some .long) rm_X7_brings g nwX (ceX g) [.ref (g.2.1 0), .int x1] st r9 st9 :=
  met_of (Qc := fun A => QJ g nwX (ceX g) A r9 st9) (by decide) (Nat.le_of_ble_eq_true rfl) (fun p e s m below meth c A ls X Y hl => w_X7_brings X h Y hl)
def X3_isSort_17   (k0 : Int32) (st : Sg) : Option Int32 :=
  cb01 k0 <| some k0
def X3_isSort_16    (st : Sg) : Option Int32 :=
  X3_isSort_17 0 st
def X3_isSort   (x1 : Int32) (st : Sg) : Option Int32 :=
  if x1 < (0 : Int32) then
    X3_isSort_16 st
  else
    if (st.1 1 9) ≤ x1 then
      X3_isSort_16 st
    else
      X3_isSort_17 1 st
abbrev rm_X3_isSort : Room := { frames := 0, cells := 0, slots := 0, locals := 0 }
set_option maxHeartbeats 4000000 in
set_option maxRecDepth 100000 in
theorem w_X3_isSort_17 (X : Cx g p s m args meth c cX3_isSort 2 RX3 (some .boolean)) {k0 : Int32} {st : Sg} {r9 : Int32}  (h : X3_isSort_17 k0 st = some r9) (Y : Hp g nwX (ceX g) A s.heap st H locs)  (hl : lv_has ls 2 []) : W p l e rm_X3_isSort s m args below meth c H locs 0 0 (MQ below (QI g nwX (ceX g) A r9 st) args s 0 0 A) (F0 m 17 ls [.int k0]) := by
  have hx := X.1
  have hb := X.2.1
  unfold X3_isSort_17 at h
  obtain ⟨b1, h⟩ := cb01_s h
  exact k_zretR X Y b1 h dX3_isSort_17
set_option maxHeartbeats 4000000 in
set_option maxRecDepth 100000 in
theorem w_X3_isSort_16 (X : Cx g p s m args meth c cX3_isSort 2 RX3 (some .boolean))  {st : Sg} {r9 : Int32}  (h : X3_isSort_16 st = some r9) (Y : Hp g nwX (ceX g) A s.heap st H locs)  (hl : lv_has ls 2 []) : W p l e rm_X3_isSort s m args below meth c H locs 0 0 (MQ below (QI g nwX (ceX g) A r9 st) args s 0 0 A) (F0 m 16 ls []) := by
  have hx := X.1
  have hb := X.2.1
  unfold X3_isSort_16 at h
  refine lv_iconst (v := 0) hx hb dX3_isSort_16 (by decide) ?_
  exact w_X3_isSort_17 X  h Y  (lv_sub hl [] rfl)
set_option maxHeartbeats 4000000 in
set_option maxRecDepth 100000 in
theorem w_X3_isSort (X : Cx g p s m args meth c cX3_isSort 2 RX3 (some .boolean)) {x1 : Int32} {st : Sg} {r9 : Int32}  (h : X3_isSort x1 st = some r9) (Y : Hp g nwX (ceX g) A s.heap st H locs)  (hl : lv_has ls 2 [(0, .ref (g.2.1 1)), (1, .int x1)]) : W p l e rm_X3_isSort s m args below meth c H locs 0 0 (MQ below (QI g nwX (ceX g) A r9 st) args s 0 0 A) (F0 m 0 ls []) := by
  have hx := X.1
  have hb := X.2.1
  unfold X3_isSort at h
  refine lv_iload_n hx hb dX3_isSort_0 rfl (lv_at hl 1 rfl) ?_
  refine lv_if_lt (tgt := 16) hx hb dX3_isSort_1 (by decide) (fun c1 => ?_) (fun c1 => ?_)
  · have h := ite_t h c1
    exact w_X3_isSort_16 X  h Y  (lv_sub hl [] rfl)
  · have h := ite_f h c1
    refine lv_iload_n hx hb dX3_isSort_4 rfl (lv_at hl 1 rfl) ?_
    refine lv_aload_n hx hb dX3_isSort_5 rfl (lv_at hl 0 rfl) ?_
    refine k_get (v := .int (st.1 1 9)) X Y fl_3_40 1 (Nat.le_of_ble_eq_true rfl) rfl rfl dX3_isSort_6 ?_
    refine lv_icmp_ge (tgt := 16) hx hb dX3_isSort_9 (by decide) (fun c2 => ?_) (fun c2 => ?_)
    · have h := ite_t h c2
      exact w_X3_isSort_16 X  h Y  (lv_sub hl [] rfl)
    · have h := ite_f h c2
      refine lv_iconst (v := 1) hx hb dX3_isSort_12 (by decide) ?_
      refine lv_goto (tgt := 17) hx hb dX3_isSort_13 (by decide) ?_
      exact w_X3_isSort_17 X  h Y  (lv_sub hl [] rfl)
theorem c_X3_isSort (l : Launch) {g : Gx} {x1 : Int32} {st : Sg} {r9 : Int32} (h : X3_isSort x1 st = some r9) : MetI l yX3_isSort cX3_isSort 2 (some .boolean) rm_X3_isSort g nwX (ceX g) [.ref (g.2.1 1), .int x1] st r9 st :=
  met_of (Qc := fun A => QI g nwX (ceX g) A r9 st) (by decide) (Nat.le_of_ble_eq_true rfl) (fun p e s m below meth c A ls X Y hl => w_X3_isSort X h Y hl)
def X3_isWaiting_15   (k0 : Int32) (st : Sg) : Option Int32 :=
  cb01 k0 <| some k0
def X3_isWaiting   (x1 : Int32) (st : Sg) : Option Int32 :=
  cix x1 3 <|
  if (st.1 6 x1.toNatClampNeg) = ((-1) : Int32) then
    X3_isWaiting_15 0 st
  else
    X3_isWaiting_15 1 st
abbrev rm_X3_isWaiting : Room := { frames := 0, cells := 0, slots := 0, locals := 0 }
set_option maxHeartbeats 4000000 in
set_option maxRecDepth 100000 in
theorem w_X3_isWaiting_15 (X : Cx g p s m args meth c cX3_isWaiting 2 RX3 (some .boolean)) {k0 : Int32} {st : Sg} {r9 : Int32}  (h : X3_isWaiting_15 k0 st = some r9) (Y : Hp g nwX (ceX g) A s.heap st H locs)  (hl : lv_has ls 2 []) : W p l e rm_X3_isWaiting s m args below meth c H locs 0 0 (MQ below (QI g nwX (ceX g) A r9 st) args s 0 0 A) (F0 m 15 ls [.int k0]) := by
  have hx := X.1
  have hb := X.2.1
  unfold X3_isWaiting_15 at h
  obtain ⟨b1, h⟩ := cb01_s h
  exact k_zretR X Y b1 h dX3_isWaiting_15
set_option maxHeartbeats 4000000 in
set_option maxRecDepth 100000 in
theorem w_X3_isWaiting (X : Cx g p s m args meth c cX3_isWaiting 2 RX3 (some .boolean)) {x1 : Int32} {st : Sg} {r9 : Int32}  (h : X3_isWaiting x1 st = some r9) (Y : Hp g nwX (ceX g) A s.heap st H locs)  (hl : lv_has ls 2 [(0, .ref (g.2.1 1)), (1, .int x1)]) : W p l e rm_X3_isWaiting s m args below meth c H locs 0 0 (MQ below (QI g nwX (ceX g) A r9 st) args s 0 0 A) (F0 m 0 ls []) := by
  have hx := X.1
  have hb := X.2.1
  unfold X3_isWaiting at h
  refine lv_aload_n hx hb dX3_isWaiting_0 rfl (lv_at hl 0 rfl) ?_
  refine k_get (v := .ref (g.2.1 6)) X Y fl_3_37 1 (Nat.le_of_ble_eq_true rfl) rfl rfl dX3_isWaiting_1 ?_
  refine lv_iload_n hx hb dX3_isWaiting_4 rfl (lv_at hl 1 rfl) ?_
  obtain ⟨i1, h⟩ := cix_s h
  refine k_iald X Y 6 (Nat.le_of_ble_eq_true rfl) (fun _ _ => rfl) i1 dX3_isWaiting_5 ?_
  refine lv_iconst (v := (-1)) hx hb dX3_isWaiting_6 (by decide) ?_
  refine lv_icmp_eq (tgt := 14) hx hb dX3_isWaiting_7 (by decide) (fun c2 => ?_) (fun c2 => ?_)
  · have h := ite_t h c2
    refine lv_iconst (v := 0) hx hb dX3_isWaiting_14 (by decide) ?_
    exact w_X3_isWaiting_15 X  h Y  (lv_sub hl [] rfl)
  · have h := ite_f h c2
    refine lv_iconst (v := 1) hx hb dX3_isWaiting_10 (by decide) ?_
    refine lv_goto (tgt := 15) hx hb dX3_isWaiting_11 (by decide) ?_
    exact w_X3_isWaiting_15 X  h Y  (lv_sub hl [] rfl)
theorem c_X3_isWaiting (l : Launch) {g : Gx} {x1 : Int32} {st : Sg} {r9 : Int32} (h : X3_isWaiting x1 st = some r9) : MetI l yX3_isWaiting cX3_isWaiting 2 (some .boolean) rm_X3_isWaiting g nwX (ceX g) [.ref (g.2.1 1), .int x1] st r9 st :=
  met_of (Qc := fun A => QI g nwX (ceX g) A r9 st) (by decide) (Nat.le_of_ble_eq_true rfl) (fun p e s m below meth c A ls X Y hl => w_X3_isWaiting X h Y hl)
def X3_waitTold_19   (k0 : Int32) (st : Sg) : Option Int32 :=
  some k0
def X3_waitTold   (x1 : Int32) (st : Sg) : Option Int32 :=
  bnd1 (X3_isWaiting x1 st) fun v2 =>
  if v2 = (0 : Int32) then
    X3_waitTold_19 (-6) st
  else
    cix x1 3 <|
    X3_waitTold_19 (st.1 6 x1.toNatClampNeg) st
abbrev rm_X3_waitTold : Room := { frames := 1, cells := 0, slots := 0, locals := 21 }
set_option maxHeartbeats 4000000 in
set_option maxRecDepth 100000 in
theorem w_X3_waitTold_19 (X : Cx g p s m args meth c cX3_waitTold 2 RX3 (some .int)) {k0 : Int32} {st : Sg} {r9 : Int32}  (h : X3_waitTold_19 k0 st = some r9) (Y : Hp g nwX (ceX g) A s.heap st H locs)  (hl : lv_has ls 2 []) : W p l e rm_X3_waitTold s m args below meth c H locs 0 0 (MQ below (QI g nwX (ceX g) A r9 st) args s 0 0 A) (F0 m 19 ls [.int k0]) := by
  have hx := X.1
  have hb := X.2.1
  unfold X3_waitTold_19 at h
  exact k_iretR X Y h dX3_waitTold_19
set_option maxHeartbeats 4000000 in
set_option maxRecDepth 100000 in
theorem w_X3_waitTold (X : Cx g p s m args meth c cX3_waitTold 2 RX3 (some .int)) {x1 : Int32} {st : Sg} {r9 : Int32}  (h : X3_waitTold x1 st = some r9) (Y : Hp g nwX (ceX g) A s.heap st H locs)  (hl : lv_has ls 2 [(0, .ref (g.2.1 1)), (1, .int x1)]) : W p l e rm_X3_waitTold s m args below meth c H locs 0 0 (MQ below (QI g nwX (ceX g) A r9 st) args s 0 0 A) (F0 m 0 ls []) := by
  have hx := X.1
  have hb := X.2.1
  unfold X3_waitTold at h
  refine lv_aload_n hx hb dX3_waitTold_0 rfl (lv_at hl 0 rfl) ?_
  refine lv_iload_n hx hb dX3_waitTold_1 rfl (lv_at hl 1 rfl) ?_
  obtain ⟨v2, hc1, h⟩ := bnd1_s h
  refine k_cI Y (k_runV (As := [.int x1]) (rest := []) (o := 1) X Y cl_3_46 (c_X3_isWaiting l hc1 _) ⟨rfl, rfl, Nat.le_of_ble_eq_true rfl, Nat.le_of_ble_eq_true rfl⟩ (Nat.le_of_ble_eq_true rfl) rfl rfl hl.1 rfl (Nat.le_of_ble_eq_true rfl) dX3_waitTold_2 ⟨Nat.zero_le _, Nat.zero_le _⟩) (fun H locs Y => ?_)
  refine lv_if_eq (tgt := 17) hx hb dX3_waitTold_5 (by decide) (fun c3 => ?_) (fun c3 => ?_)
  · have h := ite_t h c3
    refine lv_bipush (v := (-6)) hx hb dX3_waitTold_17 (by decide) ?_
    exact w_X3_waitTold_19 X  h Y  (lv_sub hl [] rfl)
  · have h := ite_f h c3
    refine lv_aload_n hx hb dX3_waitTold_8 rfl (lv_at hl 0 rfl) ?_
    refine k_get (v := .ref (g.2.1 6)) X Y fl_3_37 1 (Nat.le_of_ble_eq_true rfl) rfl rfl dX3_waitTold_9 ?_
    refine lv_iload_n hx hb dX3_waitTold_12 rfl (lv_at hl 1 rfl) ?_
    obtain ⟨i4, h⟩ := cix_s h
    refine k_iald X Y 6 (Nat.le_of_ble_eq_true rfl) (fun _ _ => rfl) i4 dX3_waitTold_13 ?_
    refine lv_goto (tgt := 19) hx hb dX3_waitTold_14 (by decide) ?_
    exact w_X3_waitTold_19 X  h Y  (lv_sub hl [] rfl)
theorem c_X3_waitTold (l : Launch) {g : Gx} {x1 : Int32} {st : Sg} {r9 : Int32} (h : X3_waitTold x1 st = some r9) : MetI l yX3_waitTold cX3_waitTold 2 (some .int) rm_X3_waitTold g nwX (ceX g) [.ref (g.2.1 1), .int x1] st r9 st :=
  met_of (Qc := fun A => QI g nwX (ceX g) A r9 st) (by decide) (Nat.le_of_ble_eq_true rfl) (fun p e s m below meth c A ls X Y hl => w_X3_waitTold X h Y hl)
def X7_change_166    (st : Sg) : Option (Int32 × Sg) :=
  some ((-2), st)
def X7_change_169   (x4 : Int32) (st : Sg) : Option (Int32 × Sg) :=
  nm (sI st 1 10 ((st.1 1 10) + 1)) fun st1 =>
  some (x4, st1)
def X7_change_128   (x1 : Int32) (x2 : Int32) (x3 : Int32) (st : Sg) : Option (Int32 × Sg) :=
  if x2 = (3 : Int32) then
    bnd1 (X7_isWithin x3 (-1) 30) fun v3 =>
    if v3 = (0 : Int32) then
      X7_change_166 st
    else
      bnd1 (X3_waitTold x1 st) fun v6 =>
      cix x1 3 <|
      nm (sI st 6 x1.toNatClampNeg x3) fun st8 =>
      X7_change_169 v6 st8
  else
    X7_change_166 st
def X7_change_89   (x1 : Int32) (x2 : Int32) (x3 : Int32) (st : Sg) : Option (Int32 × Sg) :=
  if x2 = (2 : Int32) then
    bnd1 (X7_isWithin x3 0 30) fun v3 =>
    if v3 = (0 : Int32) then
      X7_change_128 x1 x2 x3 st
    else
      cix x1 3 <|
      nm (st.1 5 x1.toNatClampNeg) fun v6 =>
      cix x1 3 <|
      nm (sI st 5 x1.toNatClampNeg x3) fun st8 =>
      X7_change_169 v6 st8
  else
    X7_change_128 x1 x2 x3 st
def X7_change_50   (x1 : Int32) (x2 : Int32) (x3 : Int32) (st : Sg) : Option (Int32 × Sg) :=
  if x2 = (1 : Int32) then
    bnd1 (X7_isWithin x3 0 99) fun v3 =>
    if v3 = (0 : Int32) then
      X7_change_89 x1 x2 x3 st
    else
      cix x1 3 <|
      nm (st.1 4 x1.toNatClampNeg) fun v6 =>
      cix x1 3 <|
      nm (sI st 4 x1.toNatClampNeg x3) fun st8 =>
      X7_change_169 v6 st8
  else
    X7_change_89 x1 x2 x3 st
def X7_change   (x1 : Int32) (x2 : Int32) (x3 : Int32) (st : Sg) : Option (Int32 × Sg) :=
  bnd1 (X3_isSort x1 st) fun v2 =>
  if v2 = (0 : Int32) then
    some ((-1), st)
  else
    if x2 = (0 : Int32) then
      bnd1 (X7_isWithin x3 0 4) fun v6 =>
      if v6 = (0 : Int32) then
        X7_change_50 x1 x2 x3 st
      else
        cix x1 3 <|
        nm (st.1 3 x1.toNatClampNeg) fun v9 =>
        cix x1 3 <|
        nm (sI st 3 x1.toNatClampNeg x3) fun st11 =>
        X7_change_169 v9 st11
    else
      X7_change_50 x1 x2 x3 st
abbrev rm_X7_change : Room := { frames := 2, cells := 0, slots := 0, locals := 42 }
set_option maxHeartbeats 4000000 in
set_option maxRecDepth 100000 in
theorem w_X7_change_166 (X : Cx g p s m args meth c cX7_change 5 RX7 (some .int))  {st : Sg} {r9 : Int32} {st9 : Sg}  (h : X7_change_166 st = some (r9, st9)) (Y : Hp g nwX (ceX g) A s.heap st H locs)  (hl : lv_has ls 5 []) : W p l e rm_X7_change s m args below meth c H locs 0 0 (MQ below (QI g nwX (ceX g) A r9 st9) args s 0 0 A) (F0 m 166 ls []) := by
  have hx := X.1
  have hb := X.2.1
  unfold X7_change_166 at h
  refine lv_bipush (v := (-2)) hx hb dX7_change_166 (by decide) ?_
  exact k_iretW X Y h dX7_change_168
set_option maxHeartbeats 4000000 in
set_option maxRecDepth 100000 in
theorem w_X7_change_169 (X : Cx g p s m args meth c cX7_change 5 RX7 (some .int)) {x4 : Int32} {st : Sg} {r9 : Int32} {st9 : Sg}  (h : X7_change_169 x4 st = some (r9, st9)) (Y : Hp g nwX (ceX g) A s.heap st H locs)  (hl : lv_has ls 5 [(0, .ref (g.2.1 0)), (4, .int x4)]) : W p l e rm_X7_change s m args below meth c H locs 0 0 (MQ below (QI g nwX (ceX g) A r9 st9) args s 0 0 A) (F0 m 169 ls []) := by
  have hx := X.1
  have hb := X.2.1
  unfold X7_change_169 at h
  refine lv_aload_n hx hb dX7_change_169 rfl (lv_at hl 0 rfl) ?_
  refine k_get (v := .ref (g.2.1 1)) X Y fl_7_10 0 (Nat.le_of_ble_eq_true rfl) rfl rfl dX7_change_170 ?_
  refine lv_dup hx hb dX7_change_173 rfl ?_
  refine k_get (v := .int (st.1 1 10)) X Y fl_7_94 1 (Nat.le_of_ble_eq_true rfl) rfl rfl dX7_change_174 ?_
  refine lv_iconst (v := 1) hx hb dX7_change_177 (by decide) ?_
  refine lv_iadd hx hb dX7_change_178 ?_
  refine k_putI X Y fl_7_94 1 (Nat.le_of_ble_eq_true rfl) rfl rfl rfl (Nat.le_of_ble_eq_true rfl) rfl dX7_change_179 (fun H locs Y => ?_)
  obtain ⟨st1, est1, h⟩ := nm_s h
  have Y : Hp g nwX (ceX g) A s.heap st1 H locs := by rw [est1]; exact Y
  refine lv_iload hx hb dX7_change_182 (lv_at hl 1 rfl) ?_
  exact k_iretW X Y h dX7_change_184
set_option maxHeartbeats 4000000 in
set_option maxRecDepth 100000 in
theorem w_X7_change_128 (X : Cx g p s m args meth c cX7_change 5 RX7 (some .int)) {x1 : Int32} {x2 : Int32} {x3 : Int32} {st : Sg} {r9 : Int32} {st9 : Sg}  (h : X7_change_128 x1 x2 x3 st = some (r9, st9)) (Y : Hp g nwX (ceX g) A s.heap st H locs)  (hl : lv_has ls 5 [(0, .ref (g.2.1 0)), (1, .int x1), (2, .int x2), (3, .int x3)]) : W p l e rm_X7_change s m args below meth c H locs 0 0 (MQ below (QI g nwX (ceX g) A r9 st9) args s 0 0 A) (F0 m 128 ls []) := by
  have hx := X.1
  have hb := X.2.1
  unfold X7_change_128 at h
  refine lv_iload_n hx hb dX7_change_128 rfl (lv_at hl 2 rfl) ?_
  refine lv_iconst (v := 3) hx hb dX7_change_129 (by decide) ?_
  refine lv_icmp_ne (tgt := 166) hx hb dX7_change_130 (by decide) (fun c1 => ?_) (fun c1 => ?_)
  · have h := ite_f h c1
    exact w_X7_change_166 X  h Y  (lv_sub hl [] rfl)
  · have h := ite_t h c1
    refine lv_iload_n hx hb dX7_change_133 rfl (lv_at hl 3 rfl) ?_
    refine lv_iconst (v := (-1)) hx hb dX7_change_134 (by decide) ?_
    refine lv_bipush (v := 30) hx hb dX7_change_135 (by decide) ?_
    obtain ⟨v3, hc2, h⟩ := bnd1_s h
    refine k_cI Y (k_runS (As := [.int x3, .int (-1), .int 30]) (rest := []) X Y cl_7_81 (c_X7_isWithin l hc2 _) ⟨rfl, rfl, Nat.le_of_ble_eq_true rfl, Nat.le_of_ble_eq_true rfl⟩ rfl hl.1 rfl (Nat.le_of_ble_eq_true rfl) dX7_change_137 ⟨Nat.zero_le _, Nat.zero_le _⟩) (fun H locs Y => ?_)
    refine lv_if_eq (tgt := 166) hx hb dX7_change_140 (by decide) (fun c4 => ?_) (fun c4 => ?_)
    · have h := ite_t h c4
      exact w_X7_change_166 X  h Y  (lv_sub hl [] rfl)
    · have h := ite_f h c4
      refine lv_aload_n hx hb dX7_change_143 rfl (lv_at hl 0 rfl) ?_
      refine k_get (v := .ref (g.2.1 1)) X Y fl_7_10 0 (Nat.le_of_ble_eq_true rfl) rfl rfl dX7_change_144 ?_
      refine lv_iload_n hx hb dX7_change_147 rfl (lv_at hl 1 rfl) ?_
      obtain ⟨v6, hc5, h⟩ := bnd1_s h
      refine k_cI Y (k_runV (As := [.int x1]) (rest := []) (o := 1) X Y cl_7_122 (c_X3_waitTold l hc5 _) ⟨rfl, rfl, Nat.le_of_ble_eq_true rfl, Nat.le_of_ble_eq_true rfl⟩ (Nat.le_of_ble_eq_true rfl) rfl rfl hl.1 rfl (Nat.le_of_ble_eq_true rfl) dX7_change_148 ⟨Nat.zero_le _, Nat.zero_le _⟩) (fun H locs Y => ?_)
      refine lv_istore (lv' := [(4, .int v6), (0, .ref (g.2.1 0)), (1, .int x1), (2, .int x2), (3, .int x3)]) hx hb dX7_change_151 hl (by decide) rfl (fun ls hl => ?_)
      refine lv_aload_n hx hb dX7_change_153 rfl (lv_at hl 1 rfl) ?_
      refine k_get (v := .ref (g.2.1 1)) X Y fl_7_10 0 (Nat.le_of_ble_eq_true rfl) rfl rfl dX7_change_154 ?_
      refine k_get (v := .ref (g.2.1 6)) X Y fl_7_115 1 (Nat.le_of_ble_eq_true rfl) rfl rfl dX7_change_157 ?_
      refine lv_iload_n hx hb dX7_change_160 rfl (lv_at hl 2 rfl) ?_
      refine lv_iload_n hx hb dX7_change_161 rfl (lv_at hl 4 rfl) ?_
      obtain ⟨i7, h⟩ := cix_s h
      refine k_iast X Y 6 (Nat.le_of_ble_eq_true rfl) (fun _ _ => rfl) i7 dX7_change_162 (fun H locs Y => ?_)
      obtain ⟨st8, est8, h⟩ := nm_s h
      have Y : Hp g nwX (ceX g) A s.heap st8 H locs := by rw [est8]; exact Y
      refine lv_goto (tgt := 169) hx hb dX7_change_163 (by decide) ?_
      exact w_X7_change_169 X  h Y  (lv_sub hl [1, 0] rfl)
set_option maxHeartbeats 4000000 in
set_option maxRecDepth 100000 in
theorem w_X7_change_89 (X : Cx g p s m args meth c cX7_change 5 RX7 (some .int)) {x1 : Int32} {x2 : Int32} {x3 : Int32} {st : Sg} {r9 : Int32} {st9 : Sg}  (h : X7_change_89 x1 x2 x3 st = some (r9, st9)) (Y : Hp g nwX (ceX g) A s.heap st H locs)  (hl : lv_has ls 5 [(0, .ref (g.2.1 0)), (1, .int x1), (2, .int x2), (3, .int x3)]) : W p l e rm_X7_change s m args below meth c H locs 0 0 (MQ below (QI g nwX (ceX g) A r9 st9) args s 0 0 A) (F0 m 89 ls []) := by
  have hx := X.1
  have hb := X.2.1
  unfold X7_change_89 at h
  refine lv_iload_n hx hb dX7_change_89 rfl (lv_at hl 2 rfl) ?_
  refine lv_iconst (v := 2) hx hb dX7_change_90 (by decide) ?_
  refine lv_icmp_ne (tgt := 128) hx hb dX7_change_91 (by decide) (fun c1 => ?_) (fun c1 => ?_)
  · have h := ite_f h c1
    exact w_X7_change_128 X  h Y  (lv_sub hl [0, 1, 2, 3] rfl)
  · have h := ite_t h c1
    refine lv_iload_n hx hb dX7_change_94 rfl (lv_at hl 3 rfl) ?_
    refine lv_iconst (v := 0) hx hb dX7_change_95 (by decide) ?_
    refine lv_bipush (v := 30) hx hb dX7_change_96 (by decide) ?_
    obtain ⟨v3, hc2, h⟩ := bnd1_s h
    refine k_cI Y (k_runS (As := [.int x3, .int 0, .int 30]) (rest := []) X Y cl_7_81 (c_X7_isWithin l hc2 _) ⟨rfl, rfl, Nat.le_of_ble_eq_true rfl, Nat.le_of_ble_eq_true rfl⟩ rfl hl.1 rfl (Nat.le_of_ble_eq_true rfl) dX7_change_98 ⟨Nat.zero_le _, Nat.zero_le _⟩) (fun H locs Y => ?_)
    refine lv_if_eq (tgt := 128) hx hb dX7_change_101 (by decide) (fun c4 => ?_) (fun c4 => ?_)
    · have h := ite_t h c4
      exact w_X7_change_128 X  h Y  (lv_sub hl [0, 1, 2, 3] rfl)
    · have h := ite_f h c4
      refine lv_aload_n hx hb dX7_change_104 rfl (lv_at hl 0 rfl) ?_
      refine k_get (v := .ref (g.2.1 1)) X Y fl_7_10 0 (Nat.le_of_ble_eq_true rfl) rfl rfl dX7_change_105 ?_
      refine k_get (v := .ref (g.2.1 5)) X Y fl_7_112 1 (Nat.le_of_ble_eq_true rfl) rfl rfl dX7_change_108 ?_
      refine lv_iload_n hx hb dX7_change_111 rfl (lv_at hl 1 rfl) ?_
      obtain ⟨i5, h⟩ := cix_s h
      refine k_iald X Y 5 (Nat.le_of_ble_eq_true rfl) (fun _ _ => rfl) i5 dX7_change_112 ?_
      obtain ⟨v6, ev6, h⟩ := nm_s h
      refine k_nmI ev6 ?_
      refine lv_istore (lv' := [(4, .int v6), (0, .ref (g.2.1 0)), (1, .int x1), (2, .int x2), (3, .int x3)]) hx hb dX7_change_113 hl (by decide) rfl (fun ls hl => ?_)
      refine lv_aload_n hx hb dX7_change_115 rfl (lv_at hl 1 rfl) ?_
      refine k_get (v := .ref (g.2.1 1)) X Y fl_7_10 0 (Nat.le_of_ble_eq_true rfl) rfl rfl dX7_change_116 ?_
      refine k_get (v := .ref (g.2.1 5)) X Y fl_7_112 1 (Nat.le_of_ble_eq_true rfl) rfl rfl dX7_change_119 ?_
      refine lv_iload_n hx hb dX7_change_122 rfl (lv_at hl 2 rfl) ?_
      refine lv_iload_n hx hb dX7_change_123 rfl (lv_at hl 4 rfl) ?_
      obtain ⟨i7, h⟩ := cix_s h
      refine k_iast X Y 5 (Nat.le_of_ble_eq_true rfl) (fun _ _ => rfl) i7 dX7_change_124 (fun H locs Y => ?_)
      obtain ⟨st8, est8, h⟩ := nm_s h
      have Y : Hp g nwX (ceX g) A s.heap st8 H locs := by rw [est8]; exact Y
      refine lv_goto (tgt := 169) hx hb dX7_change_125 (by decide) ?_
      exact w_X7_change_169 X  h Y  (lv_sub hl [1, 0] rfl)
set_option maxHeartbeats 4000000 in
set_option maxRecDepth 100000 in
theorem w_X7_change_50 (X : Cx g p s m args meth c cX7_change 5 RX7 (some .int)) {x1 : Int32} {x2 : Int32} {x3 : Int32} {st : Sg} {r9 : Int32} {st9 : Sg}  (h : X7_change_50 x1 x2 x3 st = some (r9, st9)) (Y : Hp g nwX (ceX g) A s.heap st H locs)  (hl : lv_has ls 5 [(0, .ref (g.2.1 0)), (1, .int x1), (2, .int x2), (3, .int x3)]) : W p l e rm_X7_change s m args below meth c H locs 0 0 (MQ below (QI g nwX (ceX g) A r9 st9) args s 0 0 A) (F0 m 50 ls []) := by
  have hx := X.1
  have hb := X.2.1
  unfold X7_change_50 at h
  refine lv_iload_n hx hb dX7_change_50 rfl (lv_at hl 2 rfl) ?_
  refine lv_iconst (v := 1) hx hb dX7_change_51 (by decide) ?_
  refine lv_icmp_ne (tgt := 89) hx hb dX7_change_52 (by decide) (fun c1 => ?_) (fun c1 => ?_)
  · have h := ite_f h c1
    exact w_X7_change_89 X  h Y  (lv_sub hl [0, 1, 2, 3] rfl)
  · have h := ite_t h c1
    refine lv_iload_n hx hb dX7_change_55 rfl (lv_at hl 3 rfl) ?_
    refine lv_iconst (v := 0) hx hb dX7_change_56 (by decide) ?_
    refine lv_bipush (v := 99) hx hb dX7_change_57 (by decide) ?_
    obtain ⟨v3, hc2, h⟩ := bnd1_s h
    refine k_cI Y (k_runS (As := [.int x3, .int 0, .int 99]) (rest := []) X Y cl_7_81 (c_X7_isWithin l hc2 _) ⟨rfl, rfl, Nat.le_of_ble_eq_true rfl, Nat.le_of_ble_eq_true rfl⟩ rfl hl.1 rfl (Nat.le_of_ble_eq_true rfl) dX7_change_59 ⟨Nat.zero_le _, Nat.zero_le _⟩) (fun H locs Y => ?_)
    refine lv_if_eq (tgt := 89) hx hb dX7_change_62 (by decide) (fun c4 => ?_) (fun c4 => ?_)
    · have h := ite_t h c4
      exact w_X7_change_89 X  h Y  (lv_sub hl [0, 1, 2, 3] rfl)
    · have h := ite_f h c4
      refine lv_aload_n hx hb dX7_change_65 rfl (lv_at hl 0 rfl) ?_
      refine k_get (v := .ref (g.2.1 1)) X Y fl_7_10 0 (Nat.le_of_ble_eq_true rfl) rfl rfl dX7_change_66 ?_
      refine k_get (v := .ref (g.2.1 4)) X Y fl_7_109 1 (Nat.le_of_ble_eq_true rfl) rfl rfl dX7_change_69 ?_
      refine lv_iload_n hx hb dX7_change_72 rfl (lv_at hl 1 rfl) ?_
      obtain ⟨i5, h⟩ := cix_s h
      refine k_iald X Y 4 (Nat.le_of_ble_eq_true rfl) (fun _ _ => rfl) i5 dX7_change_73 ?_
      obtain ⟨v6, ev6, h⟩ := nm_s h
      refine k_nmI ev6 ?_
      refine lv_istore (lv' := [(4, .int v6), (0, .ref (g.2.1 0)), (1, .int x1), (2, .int x2), (3, .int x3)]) hx hb dX7_change_74 hl (by decide) rfl (fun ls hl => ?_)
      refine lv_aload_n hx hb dX7_change_76 rfl (lv_at hl 1 rfl) ?_
      refine k_get (v := .ref (g.2.1 1)) X Y fl_7_10 0 (Nat.le_of_ble_eq_true rfl) rfl rfl dX7_change_77 ?_
      refine k_get (v := .ref (g.2.1 4)) X Y fl_7_109 1 (Nat.le_of_ble_eq_true rfl) rfl rfl dX7_change_80 ?_
      refine lv_iload_n hx hb dX7_change_83 rfl (lv_at hl 2 rfl) ?_
      refine lv_iload_n hx hb dX7_change_84 rfl (lv_at hl 4 rfl) ?_
      obtain ⟨i7, h⟩ := cix_s h
      refine k_iast X Y 4 (Nat.le_of_ble_eq_true rfl) (fun _ _ => rfl) i7 dX7_change_85 (fun H locs Y => ?_)
      obtain ⟨st8, est8, h⟩ := nm_s h
      have Y : Hp g nwX (ceX g) A s.heap st8 H locs := by rw [est8]; exact Y
      refine lv_goto (tgt := 169) hx hb dX7_change_86 (by decide) ?_
      exact w_X7_change_169 X  h Y  (lv_sub hl [1, 0] rfl)
set_option maxHeartbeats 4000000 in
set_option maxRecDepth 100000 in
theorem w_X7_change (X : Cx g p s m args meth c cX7_change 5 RX7 (some .int)) {x1 : Int32} {x2 : Int32} {x3 : Int32} {st : Sg} {r9 : Int32} {st9 : Sg}  (h : X7_change x1 x2 x3 st = some (r9, st9)) (Y : Hp g nwX (ceX g) A s.heap st H locs)  (hl : lv_has ls 5 [(0, .ref (g.2.1 0)), (1, .int x1), (2, .int x2), (3, .int x3)]) : W p l e rm_X7_change s m args below meth c H locs 0 0 (MQ below (QI g nwX (ceX g) A r9 st9) args s 0 0 A) (F0 m 0 ls []) := by
  have hx := X.1
  have hb := X.2.1
  unfold X7_change at h
  refine lv_aload_n hx hb dX7_change_0 rfl (lv_at hl 0 rfl) ?_
  refine k_get (v := .ref (g.2.1 1)) X Y fl_7_10 0 (Nat.le_of_ble_eq_true rfl) rfl rfl dX7_change_1 ?_
  refine lv_iload_n hx hb dX7_change_4 rfl (lv_at hl 1 rfl) ?_
  obtain ⟨v2, hc1, h⟩ := bnd1_s h
  refine k_cI Y (k_runV (As := [.int x1]) (rest := []) (o := 1) X Y cl_7_118 (c_X3_isSort l hc1 _) ⟨rfl, rfl, Nat.le_of_ble_eq_true rfl, Nat.le_of_ble_eq_true rfl⟩ (Nat.le_of_ble_eq_true rfl) rfl rfl hl.1 rfl (Nat.le_of_ble_eq_true rfl) dX7_change_5 ⟨Nat.zero_le _, Nat.zero_le _⟩) (fun H locs Y => ?_)
  refine lv_if_ne (tgt := 13) hx hb dX7_change_8 (by decide) (fun c3 => ?_) (fun c3 => ?_)
  · have h := ite_f h c3
    refine lv_iload_n hx hb dX7_change_13 rfl (lv_at hl 2 rfl) ?_
    refine lv_if_ne (tgt := 50) hx hb dX7_change_14 (by decide) (fun c4 => ?_) (fun c4 => ?_)
    · have h := ite_f h c4
      exact w_X7_change_50 X  h Y  (lv_sub hl [0, 1, 2, 3] rfl)
    · have h := ite_t h c4
      refine lv_iload_n hx hb dX7_change_17 rfl (lv_at hl 3 rfl) ?_
      refine lv_iconst (v := 0) hx hb dX7_change_18 (by decide) ?_
      refine lv_iconst (v := 4) hx hb dX7_change_19 (by decide) ?_
      obtain ⟨v6, hc5, h⟩ := bnd1_s h
      refine k_cI Y (k_runS (As := [.int x3, .int 0, .int 4]) (rest := []) X Y cl_7_81 (c_X7_isWithin l hc5 _) ⟨rfl, rfl, Nat.le_of_ble_eq_true rfl, Nat.le_of_ble_eq_true rfl⟩ rfl hl.1 rfl (Nat.le_of_ble_eq_true rfl) dX7_change_20 ⟨Nat.zero_le _, Nat.zero_le _⟩) (fun H locs Y => ?_)
      refine lv_if_eq (tgt := 50) hx hb dX7_change_23 (by decide) (fun c7 => ?_) (fun c7 => ?_)
      · have h := ite_t h c7
        exact w_X7_change_50 X  h Y  (lv_sub hl [0, 1, 2, 3] rfl)
      · have h := ite_f h c7
        refine lv_aload_n hx hb dX7_change_26 rfl (lv_at hl 0 rfl) ?_
        refine k_get (v := .ref (g.2.1 1)) X Y fl_7_10 0 (Nat.le_of_ble_eq_true rfl) rfl rfl dX7_change_27 ?_
        refine k_get (v := .ref (g.2.1 3)) X Y fl_7_106 1 (Nat.le_of_ble_eq_true rfl) rfl rfl dX7_change_30 ?_
        refine lv_iload_n hx hb dX7_change_33 rfl (lv_at hl 1 rfl) ?_
        obtain ⟨i8, h⟩ := cix_s h
        refine k_iald X Y 3 (Nat.le_of_ble_eq_true rfl) (fun _ _ => rfl) i8 dX7_change_34 ?_
        obtain ⟨v9, ev9, h⟩ := nm_s h
        refine k_nmI ev9 ?_
        refine lv_istore (lv' := [(4, .int v9), (0, .ref (g.2.1 0)), (1, .int x1), (2, .int x2), (3, .int x3)]) hx hb dX7_change_35 hl (by decide) rfl (fun ls hl => ?_)
        refine lv_aload_n hx hb dX7_change_37 rfl (lv_at hl 1 rfl) ?_
        refine k_get (v := .ref (g.2.1 1)) X Y fl_7_10 0 (Nat.le_of_ble_eq_true rfl) rfl rfl dX7_change_38 ?_
        refine k_get (v := .ref (g.2.1 3)) X Y fl_7_106 1 (Nat.le_of_ble_eq_true rfl) rfl rfl dX7_change_41 ?_
        refine lv_iload_n hx hb dX7_change_44 rfl (lv_at hl 2 rfl) ?_
        refine lv_iload_n hx hb dX7_change_45 rfl (lv_at hl 4 rfl) ?_
        obtain ⟨i10, h⟩ := cix_s h
        refine k_iast X Y 3 (Nat.le_of_ble_eq_true rfl) (fun _ _ => rfl) i10 dX7_change_46 (fun H locs Y => ?_)
        obtain ⟨st11, est11, h⟩ := nm_s h
        have Y : Hp g nwX (ceX g) A s.heap st11 H locs := by rw [est11]; exact Y
        refine lv_goto (tgt := 169) hx hb dX7_change_47 (by decide) ?_
        exact w_X7_change_169 X  h Y  (lv_sub hl [1, 0] rfl)
  · have h := ite_t h c3
    refine lv_iconst (v := (-1)) hx hb dX7_change_11 (by decide) ?_
    exact k_iretW X Y h dX7_change_12
theorem c_X7_change (l : Launch) {g : Gx} {x1 : Int32} {x2 : Int32} {x3 : Int32} {st : Sg} {r9 : Int32} {st9 : Sg} (h : X7_change x1 x2 x3 st = some (r9, st9)) : MetI l yX7_change cX7_change 5 (some .int) rm_X7_change g nwX (ceX g) [.ref (g.2.1 0), .int x1, .int x2, .int x3] st r9 st9 :=
  met_of (Qc := fun A => QI g nwX (ceX g) A r9 st9) (by decide) (Nat.le_of_ble_eq_true rfl) (fun p e s m below meth c A ls X Y hl => w_X7_change X h Y hl)
def X7_dip_84   (x4 : Int32) (x5 : Int32) (st : Sg) : Option (Int32 × Sg) :=
  some ((100 * x4) + x5, st)
def X7_dip_96  (rc21 : Int32 → Int32 → Sg → Option (Int32 × Sg)) (rc36 : Int32 → Int32 → Sg → Option (Int32 × Sg)) (x1 : Int32) (x3 : Int32) (x4 : Int32) (x5 : Int32) (st : Sg) : Option (Int32 × Sg) :=
  nm (x5 + 1) fun v1 =>
  rc36 x3 v1 st
def X7_dip_102  (rc21 : Int32 → Int32 → Sg → Option (Int32 × Sg)) (x1 : Int32) (x3 : Int32) (x4 : Int32) (st : Sg) : Option (Int32 × Sg) :=
  nm (x4 + 1) fun v1 =>
  rc21 x3 v1 st
def X7_dip_36b  (rc21 : Int32 → Int32 → Sg → Option (Int32 × Sg)) (rc36 : Int32 → Int32 → Sg → Option (Int32 × Sg)) (x1 : Int32) (x3 : Int32) (x4 : Int32) (x5 : Int32) (st : Sg) : Option (Int32 × Sg) :=
  if (st.1 1 0) ≤ x5 then
    X7_dip_102 rc21 x1 x3 x4 st
  else
    cix x4 6 <|
    cix x5 13 <|
    cix x4 6 <|
    cix (x5 + 1) 13 <|
    if (st.1 (18 + (x4).toNatClampNeg) x5.toNatClampNeg) ≤ (st.1 (18 + (x4).toNatClampNeg) (x5 + 1).toNatClampNeg) then
      X7_dip_96 rc21 rc36 x1 x3 x4 x5 st
    else
      if x3 = x1 then
        X7_dip_84 x4 x5 st
      else
        nm (x3 + 1) fun v8 =>
        X7_dip_96 rc21 rc36 x1 v8 x4 x5 st
def X7_dip_36  (rc21 : Int32 → Int32 → Sg → Option (Int32 × Sg)) (x1 : Int32) (x4 : Int32) : Nat → Int32 → Int32 → Sg → Option (Int32 × Sg)
  | 0, _, _, _ => none
  | k + 1, x3, x5, st => X7_dip_36b  rc21 (X7_dip_36 rc21 x1 x4 k) x1 x3 x4 x5 st
def X7_dip_119   (k0 : Int32) (st : Sg) : Option (Int32 × Sg) :=
  some (k0, st)
def X7_dip_108   (x1 : Int32) (x3 : Int32) (st : Sg) : Option (Int32 × Sg) :=
  if x1 = ((-1) : Int32) then
    X7_dip_119 x3 st
  else
    X7_dip_119 (-6) st
def X7_dip_21b  (rc21 : Int32 → Int32 → Sg → Option (Int32 × Sg)) (x1 : Int32) (x3 : Int32) (x4 : Int32) (st : Sg) : Option (Int32 × Sg) :=
  if (st.1 1 1) ≤ x4 then
    X7_dip_108 x1 x3 st
  else
    X7_dip_36 rc21 x1 x4 FU x3 1 st
def X7_dip_21   (x1 : Int32) : Nat → Int32 → Int32 → Sg → Option (Int32 × Sg)
  | 0, _, _, _ => none
  | k + 1, x3, x4, st => X7_dip_21b   (X7_dip_21 x1 k) x1 x3 x4 st
def X7_dip   (x1 : Int32) (st : Sg) : Option (Int32 × Sg) :=
  bnd1 (X7_refusalOf 1 st) fun v2 =>
  if v2 = (0 : Int32) then
    bnd1 (X7_findBest st) fun st5 =>
    X7_dip_21 x1 FU 0 0 st5
  else
    some (v2, st)
abbrev rm_X7_dip : Room := { frames := 5, cells := 0, slots := 0, locals := 115 }
set_option maxHeartbeats 4000000 in
set_option maxRecDepth 100000 in
theorem w_X7_dip_84 (X : Cx g p s m args meth c cX7_dip 6 RX7 (some .int)) {x4 : Int32} {x5 : Int32} {st : Sg} {r9 : Int32} {st9 : Sg}  (h : X7_dip_84 x4 x5 st = some (r9, st9)) (Y : Hp g nwX (ceX g) A s.heap st H locs)  (hl : lv_has ls 6 [(4, .int x4), (5, .int x5)]) : W p l e rm_X7_dip s m args below meth c H locs 0 0 (MQ below (QI g nwX (ceX g) A r9 st9) args s 0 0 A) (F0 m 84 ls []) := by
  have hx := X.1
  have hb := X.2.1
  unfold X7_dip_84 at h
  refine lv_bipush (v := 100) hx hb dX7_dip_84 (by decide) ?_
  refine lv_iload hx hb dX7_dip_86 (lv_at hl 0 rfl) ?_
  refine lv_imul hx hb dX7_dip_88 ?_
  refine lv_iload hx hb dX7_dip_89 (lv_at hl 1 rfl) ?_
  refine lv_iadd hx hb dX7_dip_91 ?_
  exact k_iretW X Y h dX7_dip_92
set_option maxHeartbeats 4000000 in
set_option maxRecDepth 100000 in
theorem w_X7_dip_96 (X : Cx g p s m args meth c cX7_dip 6 RX7 (some .int)) {x1 : Int32} {x3 : Int32} {x4 : Int32} {x5 : Int32} {st : Sg} {r9 : Int32} {st9 : Sg} (rc21 : Int32 → Int32 → Sg → Option (Int32 × Sg)) (hrc21 : ∀ (x3 : Int32) (x4 : Int32) (st : Sg) (ls : Array Slot) (H : Heap) (locs : List Loc), rc21 x3 x4 st = some (r9, st9) → Hp g nwX (ceX g) A s.heap st H locs → lv_has ls 6 [(0, .ref (g.2.1 0)), (1, .int x1), (3, .int x3), (4, .int x4)] → W p l e rm_X7_dip s m args below meth c H locs 0 0 (MQ below (QI g nwX (ceX g) A r9 st9) args s 0 0 A) (F0 m 21 ls [])) (rc36 : Int32 → Int32 → Sg → Option (Int32 × Sg)) (hrc36 : ∀ (x3 : Int32) (x5 : Int32) (st : Sg) (ls : Array Slot) (H : Heap) (locs : List Loc), rc36 x3 x5 st = some (r9, st9) → Hp g nwX (ceX g) A s.heap st H locs → lv_has ls 6 [(0, .ref (g.2.1 0)), (1, .int x1), (3, .int x3), (4, .int x4), (5, .int x5)] → W p l e rm_X7_dip s m args below meth c H locs 0 0 (MQ below (QI g nwX (ceX g) A r9 st9) args s 0 0 A) (F0 m 36 ls [])) (h : X7_dip_96 rc21 rc36 x1 x3 x4 x5 st = some (r9, st9)) (Y : Hp g nwX (ceX g) A s.heap st H locs)  (hl : lv_has ls 6 [(0, .ref (g.2.1 0)), (1, .int x1), (3, .int x3), (4, .int x4), (5, .int x5)]) : W p l e rm_X7_dip s m args below meth c H locs 0 0 (MQ below (QI g nwX (ceX g) A r9 st9) args s 0 0 A) (F0 m 96 ls []) := by
  have hx := X.1
  have hb := X.2.1
  unfold X7_dip_96 at h
  obtain ⟨v1, ev1, h⟩ := nm_s h
  refine lv_iinc (v := v1) (lv' := [(5, .int v1), (0, .ref (g.2.1 0)), (1, .int x1), (3, .int x3), (4, .int x4)]) hx hb dX7_dip_96 hl (k := 4) rfl (by rw [ev1]; rfl) (by decide) rfl (fun ls hl => ?_)
  refine lv_goto (tgt := 36) hx hb dX7_dip_99 (by decide) ?_
  exact hrc36 x3 v1 st _ _ _ h Y (lv_sub hl [1, 2, 3, 4, 0] rfl)
set_option maxHeartbeats 4000000 in
set_option maxRecDepth 100000 in
theorem w_X7_dip_102 (X : Cx g p s m args meth c cX7_dip 6 RX7 (some .int)) {x1 : Int32} {x3 : Int32} {x4 : Int32} {st : Sg} {r9 : Int32} {st9 : Sg} (rc21 : Int32 → Int32 → Sg → Option (Int32 × Sg)) (hrc21 : ∀ (x3 : Int32) (x4 : Int32) (st : Sg) (ls : Array Slot) (H : Heap) (locs : List Loc), rc21 x3 x4 st = some (r9, st9) → Hp g nwX (ceX g) A s.heap st H locs → lv_has ls 6 [(0, .ref (g.2.1 0)), (1, .int x1), (3, .int x3), (4, .int x4)] → W p l e rm_X7_dip s m args below meth c H locs 0 0 (MQ below (QI g nwX (ceX g) A r9 st9) args s 0 0 A) (F0 m 21 ls [])) (h : X7_dip_102 rc21 x1 x3 x4 st = some (r9, st9)) (Y : Hp g nwX (ceX g) A s.heap st H locs)  (hl : lv_has ls 6 [(0, .ref (g.2.1 0)), (1, .int x1), (3, .int x3), (4, .int x4)]) : W p l e rm_X7_dip s m args below meth c H locs 0 0 (MQ below (QI g nwX (ceX g) A r9 st9) args s 0 0 A) (F0 m 102 ls []) := by
  have hx := X.1
  have hb := X.2.1
  unfold X7_dip_102 at h
  obtain ⟨v1, ev1, h⟩ := nm_s h
  refine lv_iinc (v := v1) (lv' := [(4, .int v1), (0, .ref (g.2.1 0)), (1, .int x1), (3, .int x3)]) hx hb dX7_dip_102 hl (k := 3) rfl (by rw [ev1]; rfl) (by decide) rfl (fun ls hl => ?_)
  refine lv_goto (tgt := 21) hx hb dX7_dip_105 (by decide) ?_
  exact hrc21 x3 v1 st _ _ _ h Y (lv_sub hl [1, 2, 3, 0] rfl)
set_option maxHeartbeats 4000000 in
set_option maxRecDepth 100000 in
theorem w_X7_dip_36b (X : Cx g p s m args meth c cX7_dip 6 RX7 (some .int)) {x1 : Int32} {x3 : Int32} {x4 : Int32} {x5 : Int32} {st : Sg} {r9 : Int32} {st9 : Sg} (rc21 : Int32 → Int32 → Sg → Option (Int32 × Sg)) (hrc21 : ∀ (x3 : Int32) (x4 : Int32) (st : Sg) (ls : Array Slot) (H : Heap) (locs : List Loc), rc21 x3 x4 st = some (r9, st9) → Hp g nwX (ceX g) A s.heap st H locs → lv_has ls 6 [(0, .ref (g.2.1 0)), (1, .int x1), (3, .int x3), (4, .int x4)] → W p l e rm_X7_dip s m args below meth c H locs 0 0 (MQ below (QI g nwX (ceX g) A r9 st9) args s 0 0 A) (F0 m 21 ls [])) (rc36 : Int32 → Int32 → Sg → Option (Int32 × Sg)) (hrc36 : ∀ (x3 : Int32) (x5 : Int32) (st : Sg) (ls : Array Slot) (H : Heap) (locs : List Loc), rc36 x3 x5 st = some (r9, st9) → Hp g nwX (ceX g) A s.heap st H locs → lv_has ls 6 [(0, .ref (g.2.1 0)), (1, .int x1), (3, .int x3), (4, .int x4), (5, .int x5)] → W p l e rm_X7_dip s m args below meth c H locs 0 0 (MQ below (QI g nwX (ceX g) A r9 st9) args s 0 0 A) (F0 m 36 ls [])) (h : X7_dip_36b rc21 rc36 x1 x3 x4 x5 st = some (r9, st9)) (Y : Hp g nwX (ceX g) A s.heap st H locs)  (hl : lv_has ls 6 [(0, .ref (g.2.1 0)), (1, .int x1), (3, .int x3), (4, .int x4), (5, .int x5)]) : W p l e rm_X7_dip s m args below meth c H locs 0 0 (MQ below (QI g nwX (ceX g) A r9 st9) args s 0 0 A) (F0 m 36 ls []) := by
  have hx := X.1
  have hb := X.2.1
  unfold X7_dip_36b at h
  refine lv_iload hx hb dX7_dip_36 (lv_at hl 4 rfl) ?_
  refine lv_aload_n hx hb dX7_dip_38 rfl (lv_at hl 0 rfl) ?_
  refine k_get (v := .ref (g.2.1 1)) X Y fl_7_10 0 (Nat.le_of_ble_eq_true rfl) rfl rfl dX7_dip_39 ?_
  refine k_get (v := .int (st.1 1 0)) X Y fl_7_85 1 (Nat.le_of_ble_eq_true rfl) rfl rfl dX7_dip_42 ?_
  refine lv_icmp_ge (tgt := 102) hx hb dX7_dip_45 (by decide) (fun c1 => ?_) (fun c1 => ?_)
  · have h := ite_t h c1
    exact w_X7_dip_102 X rc21 hrc21 h Y  (lv_sub hl [0, 1, 2, 3] rfl)
  · have h := ite_f h c1
    refine lv_aload_n hx hb dX7_dip_48 rfl (lv_at hl 0 rfl) ?_
    refine k_get (v := .ref (g.2.1 8)) X Y fl_7_23 0 (Nat.le_of_ble_eq_true rfl) rfl rfl dX7_dip_49 ?_
    refine k_get (v := .ref (g.2.1 17)) X Y fl_7_168 8 (Nat.le_of_ble_eq_true rfl) rfl rfl dX7_dip_52 ?_
    refine lv_iload hx hb dX7_dip_55 (lv_at hl 3 rfl) ?_
    obtain ⟨i2, h⟩ := cix_s h
    refine k_aaldI (b := 18) X Y 17 (Nat.le_of_ble_eq_true rfl) (fun _ _ => rfl) i2 dX7_dip_57 ?_
    refine lv_iload hx hb dX7_dip_58 (lv_at hl 4 rfl) ?_
    obtain ⟨i3, h⟩ := cix_s h
    refine k_iald X Y (18 + (x4).toNatClampNeg) (row_lt i2 (Nat.le_of_ble_eq_true rfl)) (rowX_18 _ (vp_lt i2)) i3 dX7_dip_60 ?_
    refine lv_aload_n hx hb dX7_dip_61 rfl (lv_at hl 0 rfl) ?_
    refine k_get (v := .ref (g.2.1 8)) X Y fl_7_23 0 (Nat.le_of_ble_eq_true rfl) rfl rfl dX7_dip_62 ?_
    refine k_get (v := .ref (g.2.1 17)) X Y fl_7_168 8 (Nat.le_of_ble_eq_true rfl) rfl rfl dX7_dip_65 ?_
    refine lv_iload hx hb dX7_dip_68 (lv_at hl 3 rfl) ?_
    obtain ⟨i4, h⟩ := cix_s h
    refine k_aaldI (b := 18) X Y 17 (Nat.le_of_ble_eq_true rfl) (fun _ _ => rfl) i4 dX7_dip_70 ?_
    refine lv_iload hx hb dX7_dip_71 (lv_at hl 4 rfl) ?_
    refine lv_iconst (v := 1) hx hb dX7_dip_73 (by decide) ?_
    refine lv_iadd hx hb dX7_dip_74 ?_
    obtain ⟨i5, h⟩ := cix_s h
    refine k_iald X Y (18 + (x4).toNatClampNeg) (row_lt i4 (Nat.le_of_ble_eq_true rfl)) (rowX_18 _ (vp_lt i4)) i5 dX7_dip_75 ?_
    refine lv_icmp_le (tgt := 96) hx hb dX7_dip_76 (by decide) (fun c6 => ?_) (fun c6 => ?_)
    · have h := ite_t h c6
      exact w_X7_dip_96 X rc21 hrc21 rc36 hrc36 h Y  (lv_sub hl [0, 1, 2, 3, 4] rfl)
    · have h := ite_f h c6
      refine lv_iload_n hx hb dX7_dip_79 rfl (lv_at hl 2 rfl) ?_
      refine lv_iload_n hx hb dX7_dip_80 rfl (lv_at hl 1 rfl) ?_
      refine lv_icmp_ne (tgt := 93) hx hb dX7_dip_81 (by decide) (fun c7 => ?_) (fun c7 => ?_)
      · have h := ite_f h c7
        obtain ⟨v8, ev8, h⟩ := nm_s h
        refine lv_iinc (v := v8) (lv' := [(3, .int v8), (0, .ref (g.2.1 0)), (1, .int x1), (4, .int x4), (5, .int x5)]) hx hb dX7_dip_93 hl (k := 2) rfl (by rw [ev8]; rfl) (by decide) rfl (fun ls hl => ?_)
        exact w_X7_dip_96 X rc21 hrc21 rc36 hrc36 h Y  (lv_sub hl [1, 2, 0, 3, 4] rfl)
      · have h := ite_t h c7
        exact w_X7_dip_84 X  h Y  (lv_sub hl [3, 4] rfl)
theorem w_X7_dip_36 (X : Cx g p s m args meth c cX7_dip 6 RX7 (some .int)) {x1 : Int32} {x4 : Int32}  {r9 : Int32} {st9 : Sg} (rc21 : Int32 → Int32 → Sg → Option (Int32 × Sg)) (hrc21 : ∀ (x3 : Int32) (x4 : Int32) (st : Sg) (ls : Array Slot) (H : Heap) (locs : List Loc), rc21 x3 x4 st = some (r9, st9) → Hp g nwX (ceX g) A s.heap st H locs → lv_has ls 6 [(0, .ref (g.2.1 0)), (1, .int x1), (3, .int x3), (4, .int x4)] → W p l e rm_X7_dip s m args below meth c H locs 0 0 (MQ below (QI g nwX (ceX g) A r9 st9) args s 0 0 A) (F0 m 21 ls []))  : ∀ (k : Nat) (x3 : Int32) (x5 : Int32) (st : Sg) (ls : Array Slot) (H : Heap) (locs : List Loc), X7_dip_36 rc21 x1 x4 k x3 x5 st = some (r9, st9) → Hp g nwX (ceX g) A s.heap st H locs → lv_has ls 6 [(0, .ref (g.2.1 0)), (1, .int x1), (3, .int x3), (4, .int x4), (5, .int x5)] → W p l e rm_X7_dip s m args below meth c H locs 0 0 (MQ below (QI g nwX (ceX g) A r9 st9) args s 0 0 A) (F0 m 36 ls []) := by
  intro k
  induction k with
  | zero =>
    intro x3 x5 st ls H locs h
    exact none_s h
  | succ k ih =>
    intro x3 x5 st ls H locs h Y hl
    exact w_X7_dip_36b X rc21 hrc21 (X7_dip_36 rc21 x1 x4 k) ih h Y  hl
set_option maxHeartbeats 4000000 in
set_option maxRecDepth 100000 in
theorem w_X7_dip_119 (X : Cx g p s m args meth c cX7_dip 6 RX7 (some .int)) {k0 : Int32} {st : Sg} {r9 : Int32} {st9 : Sg}  (h : X7_dip_119 k0 st = some (r9, st9)) (Y : Hp g nwX (ceX g) A s.heap st H locs)  (hl : lv_has ls 6 []) : W p l e rm_X7_dip s m args below meth c H locs 0 0 (MQ below (QI g nwX (ceX g) A r9 st9) args s 0 0 A) (F0 m 119 ls [.int k0]) := by
  have hx := X.1
  have hb := X.2.1
  unfold X7_dip_119 at h
  exact k_iretW X Y h dX7_dip_119
set_option maxHeartbeats 4000000 in
set_option maxRecDepth 100000 in
theorem w_X7_dip_108 (X : Cx g p s m args meth c cX7_dip 6 RX7 (some .int)) {x1 : Int32} {x3 : Int32} {st : Sg} {r9 : Int32} {st9 : Sg}  (h : X7_dip_108 x1 x3 st = some (r9, st9)) (Y : Hp g nwX (ceX g) A s.heap st H locs)  (hl : lv_has ls 6 [(1, .int x1), (3, .int x3)]) : W p l e rm_X7_dip s m args below meth c H locs 0 0 (MQ below (QI g nwX (ceX g) A r9 st9) args s 0 0 A) (F0 m 108 ls []) := by
  have hx := X.1
  have hb := X.2.1
  unfold X7_dip_108 at h
  refine lv_iload_n hx hb dX7_dip_108 rfl (lv_at hl 0 rfl) ?_
  refine lv_iconst (v := (-1)) hx hb dX7_dip_109 (by decide) ?_
  refine lv_icmp_ne (tgt := 117) hx hb dX7_dip_110 (by decide) (fun c1 => ?_) (fun c1 => ?_)
  · have h := ite_f h c1
    refine lv_bipush (v := (-6)) hx hb dX7_dip_117 (by decide) ?_
    exact w_X7_dip_119 X  h Y  (lv_sub hl [] rfl)
  · have h := ite_t h c1
    refine lv_iload_n hx hb dX7_dip_113 rfl (lv_at hl 1 rfl) ?_
    refine lv_goto (tgt := 119) hx hb dX7_dip_114 (by decide) ?_
    exact w_X7_dip_119 X  h Y  (lv_sub hl [] rfl)
set_option maxHeartbeats 4000000 in
set_option maxRecDepth 100000 in
theorem w_X7_dip_21b (X : Cx g p s m args meth c cX7_dip 6 RX7 (some .int)) {x1 : Int32} {x3 : Int32} {x4 : Int32} {st : Sg} {r9 : Int32} {st9 : Sg} (rc21 : Int32 → Int32 → Sg → Option (Int32 × Sg)) (hrc21 : ∀ (x3 : Int32) (x4 : Int32) (st : Sg) (ls : Array Slot) (H : Heap) (locs : List Loc), rc21 x3 x4 st = some (r9, st9) → Hp g nwX (ceX g) A s.heap st H locs → lv_has ls 6 [(0, .ref (g.2.1 0)), (1, .int x1), (3, .int x3), (4, .int x4)] → W p l e rm_X7_dip s m args below meth c H locs 0 0 (MQ below (QI g nwX (ceX g) A r9 st9) args s 0 0 A) (F0 m 21 ls [])) (h : X7_dip_21b rc21 x1 x3 x4 st = some (r9, st9)) (Y : Hp g nwX (ceX g) A s.heap st H locs)  (hl : lv_has ls 6 [(0, .ref (g.2.1 0)), (1, .int x1), (3, .int x3), (4, .int x4)]) : W p l e rm_X7_dip s m args below meth c H locs 0 0 (MQ below (QI g nwX (ceX g) A r9 st9) args s 0 0 A) (F0 m 21 ls []) := by
  have hx := X.1
  have hb := X.2.1
  unfold X7_dip_21b at h
  refine lv_iload hx hb dX7_dip_21 (lv_at hl 3 rfl) ?_
  refine lv_aload_n hx hb dX7_dip_23 rfl (lv_at hl 0 rfl) ?_
  refine k_get (v := .ref (g.2.1 1)) X Y fl_7_10 0 (Nat.le_of_ble_eq_true rfl) rfl rfl dX7_dip_24 ?_
  refine k_get (v := .int (st.1 1 1)) X Y fl_7_88 1 (Nat.le_of_ble_eq_true rfl) rfl rfl dX7_dip_27 ?_
  refine lv_icmp_ge (tgt := 108) hx hb dX7_dip_30 (by decide) (fun c1 => ?_) (fun c1 => ?_)
  · have h := ite_t h c1
    exact w_X7_dip_108 X  h Y  (lv_sub hl [1, 2] rfl)
  · have h := ite_f h c1
    refine lv_iconst (v := 1) hx hb dX7_dip_33 (by decide) ?_
    refine lv_istore (lv' := [(5, .int 1), (0, .ref (g.2.1 0)), (1, .int x1), (3, .int x3), (4, .int x4)]) hx hb dX7_dip_34 hl (by decide) rfl (fun ls hl => ?_)
    exact w_X7_dip_36 X rc21 hrc21  FU x3 1 st _ _ _ h Y (lv_sub hl [1, 2, 3, 4, 0] rfl)
theorem w_X7_dip_21 (X : Cx g p s m args meth c cX7_dip 6 RX7 (some .int)) {x1 : Int32}  {r9 : Int32} {st9 : Sg}   : ∀ (k : Nat) (x3 : Int32) (x4 : Int32) (st : Sg) (ls : Array Slot) (H : Heap) (locs : List Loc), X7_dip_21 x1 k x3 x4 st = some (r9, st9) → Hp g nwX (ceX g) A s.heap st H locs → lv_has ls 6 [(0, .ref (g.2.1 0)), (1, .int x1), (3, .int x3), (4, .int x4)] → W p l e rm_X7_dip s m args below meth c H locs 0 0 (MQ below (QI g nwX (ceX g) A r9 st9) args s 0 0 A) (F0 m 21 ls []) := by
  intro k
  induction k with
  | zero =>
    intro x3 x4 st ls H locs h
    exact none_s h
  | succ k ih =>
    intro x3 x4 st ls H locs h Y hl
    exact w_X7_dip_21b X  (X7_dip_21 x1 k) ih h Y  hl
set_option maxHeartbeats 4000000 in
set_option maxRecDepth 100000 in
theorem w_X7_dip (X : Cx g p s m args meth c cX7_dip 6 RX7 (some .int)) {x1 : Int32} {st : Sg} {r9 : Int32} {st9 : Sg}  (h : X7_dip x1 st = some (r9, st9)) (Y : Hp g nwX (ceX g) A s.heap st H locs)  (hl : lv_has ls 6 [(0, .ref (g.2.1 0)), (1, .int x1)]) : W p l e rm_X7_dip s m args below meth c H locs 0 0 (MQ below (QI g nwX (ceX g) A r9 st9) args s 0 0 A) (F0 m 0 ls []) := by
  have hx := X.1
  have hb := X.2.1
  unfold X7_dip at h
  refine lv_aload_n hx hb dX7_dip_0 rfl (lv_at hl 0 rfl) ?_
  refine lv_iconst (v := 1) hx hb dX7_dip_1 (by decide) ?_
  obtain ⟨v2, hc1, h⟩ := bnd1_s h
  refine k_cI Y (k_runV (As := [.int 1]) (rest := []) (o := 0) X Y cl_7_136 (c_X7_refusalOf l hc1 _) ⟨rfl, rfl, Nat.le_of_ble_eq_true rfl, Nat.le_of_ble_eq_true rfl⟩ (Nat.le_of_ble_eq_true rfl) rfl rfl hl.1 rfl (Nat.le_of_ble_eq_true rfl) dX7_dip_2 ⟨Nat.zero_le _, Nat.zero_le _⟩) (fun H locs Y => ?_)
  refine lv_istore_n (lv' := [(2, .int v2), (0, .ref (g.2.1 0)), (1, .int x1)]) hx hb dX7_dip_5 rfl hl (by decide) rfl (fun ls hl => ?_)
  refine lv_iload_n hx hb dX7_dip_6 rfl (lv_at hl 0 rfl) ?_
  refine lv_if_eq (tgt := 12) hx hb dX7_dip_7 (by decide) (fun c3 => ?_) (fun c3 => ?_)
  · have h := ite_t h c3
    refine lv_aload_n hx hb dX7_dip_12 rfl (lv_at hl 1 rfl) ?_
    obtain ⟨st5, hc4, h⟩ := bnd1_s h
    refine k_cV Y (k_runV (As := []) (rest := []) (o := 0) X Y cl_7_165 (c_X7_findBest l hc4 _) ⟨rfl, rfl, Nat.le_of_ble_eq_true rfl, Nat.le_of_ble_eq_true rfl⟩ (Nat.le_of_ble_eq_true rfl) rfl rfl hl.1 rfl (Nat.le_of_ble_eq_true rfl) dX7_dip_13 ⟨Nat.zero_le _, Nat.zero_le _⟩) (fun H locs Y => ?_)
    refine lv_iconst (v := 0) hx hb dX7_dip_16 (by decide) ?_
    refine lv_istore_n (lv' := [(3, .int 0), (2, .int v2), (0, .ref (g.2.1 0)), (1, .int x1)]) hx hb dX7_dip_17 rfl hl (by decide) rfl (fun ls hl => ?_)
    refine lv_iconst (v := 0) hx hb dX7_dip_18 (by decide) ?_
    refine lv_istore (lv' := [(4, .int 0), (3, .int 0), (2, .int v2), (0, .ref (g.2.1 0)), (1, .int x1)]) hx hb dX7_dip_19 hl (by decide) rfl (fun ls hl => ?_)
    exact w_X7_dip_21 X   FU 0 0 st5 _ _ _ h Y (lv_sub hl [3, 4, 1, 0] rfl)
  · have h := ite_f h c3
    refine lv_iload_n hx hb dX7_dip_10 rfl (lv_at hl 0 rfl) ?_
    exact k_iretW X Y h dX7_dip_11
theorem c_X7_dip (l : Launch) {g : Gx} {x1 : Int32} {st : Sg} {r9 : Int32} {st9 : Sg} (h : X7_dip x1 st = some (r9, st9)) : MetI l yX7_dip cX7_dip 6 (some .int) rm_X7_dip g nwX (ceX g) [.ref (g.2.1 0), .int x1] st r9 st9 :=
  met_of (Qc := fun A => QI g nwX (ceX g) A r9 st9) (by decide) (Nat.le_of_ble_eq_true rfl) (fun p e s m below meth c A ls X Y hl => w_X7_dip X h Y hl)
def X7_isOtherWith_87   (k0 : Int32) (st : Sg) : Option (Int32 × Sg) :=
  cb01 k0 <| some (k0, st)
def X7_isOtherWith   (x1 : Int32) (x2 : Int32) (st : Sg) : Option (Int32 × Sg) :=
  bnd1 (X7_findBest st) fun st2 =>
  cix x1 3 <|
  nm (st2.1 3 x1.toNatClampNeg) fun v4 =>
  cix x1 3 <|
  nm (sI st2 3 x1.toNatClampNeg x2) fun st6 =>
  bnd1 (X4_fillBest 25 st6) fun st8 =>
  cix x1 3 <|
  nm (sI st8 3 x1.toNatClampNeg v4) fun st10 =>
  cix 0 6 <|
  cix (st10.1 1 0) 13 <|
  cix 0 6 <|
  cix (st10.1 1 0) 13 <|
  if (st10.1 (35 + ((0 : Int32)).toNatClampNeg) (st10.1 1 0).toNatClampNeg) = (st10.1 (18 + ((0 : Int32)).toNatClampNeg) (st10.1 1 0).toNatClampNeg) then
    X7_isOtherWith_87 0 st10
  else
    X7_isOtherWith_87 1 st10
abbrev rm_X7_isOtherWith : Room := { frames := 5, cells := 0, slots := 0, locals := 115 }
set_option maxHeartbeats 4000000 in
set_option maxRecDepth 100000 in
theorem w_X7_isOtherWith_87 (X : Cx g p s m args meth c cX7_isOtherWith 4 RX7 (some .boolean)) {k0 : Int32} {st : Sg} {r9 : Int32} {st9 : Sg}  (h : X7_isOtherWith_87 k0 st = some (r9, st9)) (Y : Hp g nwX (ceX g) A s.heap st H locs)  (hl : lv_has ls 4 []) : W p l e rm_X7_isOtherWith s m args below meth c H locs 0 0 (MQ below (QI g nwX (ceX g) A r9 st9) args s 0 0 A) (F0 m 87 ls [.int k0]) := by
  have hx := X.1
  have hb := X.2.1
  unfold X7_isOtherWith_87 at h
  obtain ⟨b1, h⟩ := cb01_s h
  exact k_zretW X Y b1 h dX7_isOtherWith_87
set_option maxHeartbeats 4000000 in
set_option maxRecDepth 100000 in
theorem w_X7_isOtherWith (X : Cx g p s m args meth c cX7_isOtherWith 4 RX7 (some .boolean)) {x1 : Int32} {x2 : Int32} {st : Sg} {r9 : Int32} {st9 : Sg}  (h : X7_isOtherWith x1 x2 st = some (r9, st9)) (Y : Hp g nwX (ceX g) A s.heap st H locs)  (hl : lv_has ls 4 [(0, .ref (g.2.1 0)), (1, .int x1), (2, .int x2)]) : W p l e rm_X7_isOtherWith s m args below meth c H locs 0 0 (MQ below (QI g nwX (ceX g) A r9 st9) args s 0 0 A) (F0 m 0 ls []) := by
  have hx := X.1
  have hb := X.2.1
  unfold X7_isOtherWith at h
  refine lv_aload_n hx hb dX7_isOtherWith_0 rfl (lv_at hl 0 rfl) ?_
  obtain ⟨st2, hc1, h⟩ := bnd1_s h
  refine k_cV Y (k_runV (As := []) (rest := []) (o := 0) X Y cl_7_165 (c_X7_findBest l hc1 _) ⟨rfl, rfl, Nat.le_of_ble_eq_true rfl, Nat.le_of_ble_eq_true rfl⟩ (Nat.le_of_ble_eq_true rfl) rfl rfl hl.1 rfl (Nat.le_of_ble_eq_true rfl) dX7_isOtherWith_1 ⟨Nat.zero_le _, Nat.zero_le _⟩) (fun H locs Y => ?_)
  refine lv_aload_n hx hb dX7_isOtherWith_4 rfl (lv_at hl 0 rfl) ?_
  refine k_get (v := .ref (g.2.1 1)) X Y fl_7_10 0 (Nat.le_of_ble_eq_true rfl) rfl rfl dX7_isOtherWith_5 ?_
  refine k_get (v := .ref (g.2.1 3)) X Y fl_7_106 1 (Nat.le_of_ble_eq_true rfl) rfl rfl dX7_isOtherWith_8 ?_
  refine lv_iload_n hx hb dX7_isOtherWith_11 rfl (lv_at hl 1 rfl) ?_
  obtain ⟨i3, h⟩ := cix_s h
  refine k_iald X Y 3 (Nat.le_of_ble_eq_true rfl) (fun _ _ => rfl) i3 dX7_isOtherWith_12 ?_
  obtain ⟨v4, ev4, h⟩ := nm_s h
  refine k_nmI ev4 ?_
  refine lv_istore_n (lv' := [(3, .int v4), (0, .ref (g.2.1 0)), (1, .int x1), (2, .int x2)]) hx hb dX7_isOtherWith_13 rfl hl (by decide) rfl (fun ls hl => ?_)
  refine lv_aload_n hx hb dX7_isOtherWith_14 rfl (lv_at hl 1 rfl) ?_
  refine k_get (v := .ref (g.2.1 1)) X Y fl_7_10 0 (Nat.le_of_ble_eq_true rfl) rfl rfl dX7_isOtherWith_15 ?_
  refine k_get (v := .ref (g.2.1 3)) X Y fl_7_106 1 (Nat.le_of_ble_eq_true rfl) rfl rfl dX7_isOtherWith_18 ?_
  refine lv_iload_n hx hb dX7_isOtherWith_21 rfl (lv_at hl 2 rfl) ?_
  refine lv_iload_n hx hb dX7_isOtherWith_22 rfl (lv_at hl 3 rfl) ?_
  obtain ⟨i5, h⟩ := cix_s h
  refine k_iast X Y 3 (Nat.le_of_ble_eq_true rfl) (fun _ _ => rfl) i5 dX7_isOtherWith_23 (fun H locs Y => ?_)
  obtain ⟨st6, est6, h⟩ := nm_s h
  have Y : Hp g nwX (ceX g) A s.heap st6 H locs := by rw [est6]; exact Y
  refine lv_aload_n hx hb dX7_isOtherWith_24 rfl (lv_at hl 1 rfl) ?_
  refine k_get (v := .ref (g.2.1 25)) X Y fl_7_27 0 (Nat.le_of_ble_eq_true rfl) rfl rfl dX7_isOtherWith_25 ?_
  refine lv_aload_n hx hb dX7_isOtherWith_28 rfl (lv_at hl 1 rfl) ?_
  refine k_get (v := .ref (g.2.1 1)) X Y fl_7_10 0 (Nat.le_of_ble_eq_true rfl) rfl rfl dX7_isOtherWith_29 ?_
  obtain ⟨st8, hc7, h⟩ := bnd1_s h
  refine k_cV Y (k_runV (As := [.ref (g.2.1 1)]) (rest := []) (o := 25) X Y cl_7_238 (c_X4_fillBest_25 l hc7 _) ⟨rfl, rfl, Nat.le_of_ble_eq_true rfl, Nat.le_of_ble_eq_true rfl⟩ (Nat.le_of_ble_eq_true rfl) rfl rfl hl.1 rfl (Nat.le_of_ble_eq_true rfl) dX7_isOtherWith_32 ⟨Nat.zero_le _, Nat.zero_le _⟩) (fun H locs Y => ?_)
  refine lv_aload_n hx hb dX7_isOtherWith_35 rfl (lv_at hl 1 rfl) ?_
  refine k_get (v := .ref (g.2.1 1)) X Y fl_7_10 0 (Nat.le_of_ble_eq_true rfl) rfl rfl dX7_isOtherWith_36 ?_
  refine k_get (v := .ref (g.2.1 3)) X Y fl_7_106 1 (Nat.le_of_ble_eq_true rfl) rfl rfl dX7_isOtherWith_39 ?_
  refine lv_iload_n hx hb dX7_isOtherWith_42 rfl (lv_at hl 2 rfl) ?_
  refine lv_iload_n hx hb dX7_isOtherWith_43 rfl (lv_at hl 0 rfl) ?_
  obtain ⟨i9, h⟩ := cix_s h
  refine k_iast X Y 3 (Nat.le_of_ble_eq_true rfl) (fun _ _ => rfl) i9 dX7_isOtherWith_44 (fun H locs Y => ?_)
  obtain ⟨st10, est10, h⟩ := nm_s h
  have Y : Hp g nwX (ceX g) A s.heap st10 H locs := by rw [est10]; exact Y
  refine lv_aload_n hx hb dX7_isOtherWith_45 rfl (lv_at hl 1 rfl) ?_
  refine k_get (v := .ref (g.2.1 25)) X Y fl_7_27 0 (Nat.le_of_ble_eq_true rfl) rfl rfl dX7_isOtherWith_46 ?_
  refine k_get (v := .ref (g.2.1 34)) X Y fl_7_168 25 (Nat.le_of_ble_eq_true rfl) rfl rfl dX7_isOtherWith_49 ?_
  refine lv_iconst (v := 0) hx hb dX7_isOtherWith_52 (by decide) ?_
  obtain ⟨i11, h⟩ := cix_s h
  refine k_aaldI (b := 35) X Y 34 (Nat.le_of_ble_eq_true rfl) (fun _ _ => rfl) i11 dX7_isOtherWith_53 ?_
  refine lv_aload_n hx hb dX7_isOtherWith_54 rfl (lv_at hl 1 rfl) ?_
  refine k_get (v := .ref (g.2.1 1)) X Y fl_7_10 0 (Nat.le_of_ble_eq_true rfl) rfl rfl dX7_isOtherWith_55 ?_
  refine k_get (v := .int (st10.1 1 0)) X Y fl_7_85 1 (Nat.le_of_ble_eq_true rfl) rfl rfl dX7_isOtherWith_58 ?_
  obtain ⟨i12, h⟩ := cix_s h
  refine k_iald X Y (35 + ((0 : Int32)).toNatClampNeg) (row_lt i11 (Nat.le_of_ble_eq_true rfl)) (rowX_35 _ (vp_lt i11)) i12 dX7_isOtherWith_61 ?_
  refine lv_aload_n hx hb dX7_isOtherWith_62 rfl (lv_at hl 1 rfl) ?_
  refine k_get (v := .ref (g.2.1 8)) X Y fl_7_23 0 (Nat.le_of_ble_eq_true rfl) rfl rfl dX7_isOtherWith_63 ?_
  refine k_get (v := .ref (g.2.1 17)) X Y fl_7_168 8 (Nat.le_of_ble_eq_true rfl) rfl rfl dX7_isOtherWith_66 ?_
  refine lv_iconst (v := 0) hx hb dX7_isOtherWith_69 (by decide) ?_
  obtain ⟨i13, h⟩ := cix_s h
  refine k_aaldI (b := 18) X Y 17 (Nat.le_of_ble_eq_true rfl) (fun _ _ => rfl) i13 dX7_isOtherWith_70 ?_
  refine lv_aload_n hx hb dX7_isOtherWith_71 rfl (lv_at hl 1 rfl) ?_
  refine k_get (v := .ref (g.2.1 1)) X Y fl_7_10 0 (Nat.le_of_ble_eq_true rfl) rfl rfl dX7_isOtherWith_72 ?_
  refine k_get (v := .int (st10.1 1 0)) X Y fl_7_85 1 (Nat.le_of_ble_eq_true rfl) rfl rfl dX7_isOtherWith_75 ?_
  obtain ⟨i14, h⟩ := cix_s h
  refine k_iald X Y (18 + ((0 : Int32)).toNatClampNeg) (row_lt i13 (Nat.le_of_ble_eq_true rfl)) (rowX_18 _ (vp_lt i13)) i14 dX7_isOtherWith_78 ?_
  refine lv_icmp_eq (tgt := 86) hx hb dX7_isOtherWith_79 (by decide) (fun c15 => ?_) (fun c15 => ?_)
  · have h := ite_t h c15
    refine lv_iconst (v := 0) hx hb dX7_isOtherWith_86 (by decide) ?_
    exact w_X7_isOtherWith_87 X  h Y  (lv_sub hl [] rfl)
  · have h := ite_f h c15
    refine lv_iconst (v := 1) hx hb dX7_isOtherWith_82 (by decide) ?_
    refine lv_goto (tgt := 87) hx hb dX7_isOtherWith_83 (by decide) ?_
    exact w_X7_isOtherWith_87 X  h Y  (lv_sub hl [] rfl)
theorem c_X7_isOtherWith (l : Launch) {g : Gx} {x1 : Int32} {x2 : Int32} {st : Sg} {r9 : Int32} {st9 : Sg} (h : X7_isOtherWith x1 x2 st = some (r9, st9)) : MetI l yX7_isOtherWith cX7_isOtherWith 4 (some .boolean) rm_X7_isOtherWith g nwX (ceX g) [.ref (g.2.1 0), .int x1, .int x2] st r9 st9 :=
  met_of (Qc := fun A => QI g nwX (ceX g) A r9 st9) (by decide) (Nat.le_of_ble_eq_true rfl) (fun p e s m below meth c A ls X Y hl => w_X7_isOtherWith X h Y hl)
def X7_edge_33    (st : Sg) : Option (Int32 × Sg) :=
  some ((-3), st)
def X7_edge_70   (x2 : Int32) (x3 : Int32) (st : Sg) : Option (Int32 × Sg) :=
  some (x2 - x3, st)
def X7_edge_92   (x2 : Int32) (x3 : Int32) (st : Sg) : Option (Int32 × Sg) :=
  some (x2 + x3, st)
def X7_edge_96  (rc48 : Int32 → Sg → Option (Int32 × Sg)) (x1 : Int32) (x2 : Int32) (x3 : Int32) (st : Sg) : Option (Int32 × Sg) :=
  nm (x3 + 1) fun v1 =>
  rc48 v1 st
def X7_edge_74  (rc48 : Int32 → Sg → Option (Int32 × Sg)) (x1 : Int32) (x2 : Int32) (x3 : Int32) (st : Sg) : Option (Int32 × Sg) :=
  if (4 : Int32) < (x2 + x3) then
    X7_edge_96 rc48 x1 x2 x3 st
  else
    bnd2 (X7_isOtherWith x1 (x2 + x3) st) fun v4 st3 =>
    if v4 = (0 : Int32) then
      X7_edge_96 rc48 x1 x2 x3 st3
    else
      X7_edge_92 x2 x3 st3
def X7_edge_102    (st : Sg) : Option (Int32 × Sg) :=
  some ((-6), st)
def X7_edge_48b  (rc48 : Int32 → Sg → Option (Int32 × Sg)) (x1 : Int32) (x2 : Int32) (x3 : Int32) (st : Sg) : Option (Int32 × Sg) :=
  if (4 : Int32) < x3 then
    X7_edge_102 st
  else
    if (x2 - x3) < (0 : Int32) then
      X7_edge_74 rc48 x1 x2 x3 st
    else
      bnd2 (X7_isOtherWith x1 (x2 - x3) st) fun v5 st4 =>
      if v5 = (0 : Int32) then
        X7_edge_74 rc48 x1 x2 x3 st4
      else
        X7_edge_70 x2 x3 st4
def X7_edge_48   (x1 : Int32) (x2 : Int32) : Nat → Int32 → Sg → Option (Int32 × Sg)
  | 0, _, _ => none
  | k + 1, x3, st => X7_edge_48b   (X7_edge_48 x1 x2 k) x1 x2 x3 st
def X7_edge   (x1 : Int32) (st : Sg) : Option (Int32 × Sg) :=
  bnd1 (X3_isSort x1 st) fun v2 =>
  if v2 = (0 : Int32) then
    some ((-1), st)
  else
    if (st.1 1 4) = (0 : Int32) then
      X7_edge_33 st
    else
      if (st.1 1 0) = (0 : Int32) then
        X7_edge_33 st
      else
        cix x1 3 <|
        nm (st.1 3 x1.toNatClampNeg) fun v7 =>
        X7_edge_48 x1 v7 FU 1 st
abbrev rm_X7_edge : Room := { frames := 6, cells := 0, slots := 0, locals := 138 }
set_option maxHeartbeats 4000000 in
set_option maxRecDepth 100000 in
theorem w_X7_edge_33 (X : Cx g p s m args meth c cX7_edge 4 RX7 (some .int))  {st : Sg} {r9 : Int32} {st9 : Sg}  (h : X7_edge_33 st = some (r9, st9)) (Y : Hp g nwX (ceX g) A s.heap st H locs)  (hl : lv_has ls 4 []) : W p l e rm_X7_edge s m args below meth c H locs 0 0 (MQ below (QI g nwX (ceX g) A r9 st9) args s 0 0 A) (F0 m 33 ls []) := by
  have hx := X.1
  have hb := X.2.1
  unfold X7_edge_33 at h
  refine lv_bipush (v := (-3)) hx hb dX7_edge_33 (by decide) ?_
  exact k_iretW X Y h dX7_edge_35
set_option maxHeartbeats 4000000 in
set_option maxRecDepth 100000 in
theorem w_X7_edge_70 (X : Cx g p s m args meth c cX7_edge 4 RX7 (some .int)) {x2 : Int32} {x3 : Int32} {st : Sg} {r9 : Int32} {st9 : Sg}  (h : X7_edge_70 x2 x3 st = some (r9, st9)) (Y : Hp g nwX (ceX g) A s.heap st H locs)  (hl : lv_has ls 4 [(2, .int x2), (3, .int x3)]) : W p l e rm_X7_edge s m args below meth c H locs 0 0 (MQ below (QI g nwX (ceX g) A r9 st9) args s 0 0 A) (F0 m 70 ls []) := by
  have hx := X.1
  have hb := X.2.1
  unfold X7_edge_70 at h
  refine lv_iload_n hx hb dX7_edge_70 rfl (lv_at hl 0 rfl) ?_
  refine lv_iload_n hx hb dX7_edge_71 rfl (lv_at hl 1 rfl) ?_
  refine lv_isub hx hb dX7_edge_72 ?_
  exact k_iretW X Y h dX7_edge_73
set_option maxHeartbeats 4000000 in
set_option maxRecDepth 100000 in
theorem w_X7_edge_92 (X : Cx g p s m args meth c cX7_edge 4 RX7 (some .int)) {x2 : Int32} {x3 : Int32} {st : Sg} {r9 : Int32} {st9 : Sg}  (h : X7_edge_92 x2 x3 st = some (r9, st9)) (Y : Hp g nwX (ceX g) A s.heap st H locs)  (hl : lv_has ls 4 [(2, .int x2), (3, .int x3)]) : W p l e rm_X7_edge s m args below meth c H locs 0 0 (MQ below (QI g nwX (ceX g) A r9 st9) args s 0 0 A) (F0 m 92 ls []) := by
  have hx := X.1
  have hb := X.2.1
  unfold X7_edge_92 at h
  refine lv_iload_n hx hb dX7_edge_92 rfl (lv_at hl 0 rfl) ?_
  refine lv_iload_n hx hb dX7_edge_93 rfl (lv_at hl 1 rfl) ?_
  refine lv_iadd hx hb dX7_edge_94 ?_
  exact k_iretW X Y h dX7_edge_95
set_option maxHeartbeats 4000000 in
set_option maxRecDepth 100000 in
theorem w_X7_edge_96 (X : Cx g p s m args meth c cX7_edge 4 RX7 (some .int)) {x1 : Int32} {x2 : Int32} {x3 : Int32} {st : Sg} {r9 : Int32} {st9 : Sg} (rc48 : Int32 → Sg → Option (Int32 × Sg)) (hrc48 : ∀ (x3 : Int32) (st : Sg) (ls : Array Slot) (H : Heap) (locs : List Loc), rc48 x3 st = some (r9, st9) → Hp g nwX (ceX g) A s.heap st H locs → lv_has ls 4 [(0, .ref (g.2.1 0)), (1, .int x1), (2, .int x2), (3, .int x3)] → W p l e rm_X7_edge s m args below meth c H locs 0 0 (MQ below (QI g nwX (ceX g) A r9 st9) args s 0 0 A) (F0 m 48 ls [])) (h : X7_edge_96 rc48 x1 x2 x3 st = some (r9, st9)) (Y : Hp g nwX (ceX g) A s.heap st H locs)  (hl : lv_has ls 4 [(0, .ref (g.2.1 0)), (1, .int x1), (2, .int x2), (3, .int x3)]) : W p l e rm_X7_edge s m args below meth c H locs 0 0 (MQ below (QI g nwX (ceX g) A r9 st9) args s 0 0 A) (F0 m 96 ls []) := by
  have hx := X.1
  have hb := X.2.1
  unfold X7_edge_96 at h
  obtain ⟨v1, ev1, h⟩ := nm_s h
  refine lv_iinc (v := v1) (lv' := [(3, .int v1), (0, .ref (g.2.1 0)), (1, .int x1), (2, .int x2)]) hx hb dX7_edge_96 hl (k := 3) rfl (by rw [ev1]; rfl) (by decide) rfl (fun ls hl => ?_)
  refine lv_goto (tgt := 48) hx hb dX7_edge_99 (by decide) ?_
  exact hrc48 v1 st _ _ _ h Y (lv_sub hl [1, 2, 3, 0] rfl)
set_option maxHeartbeats 4000000 in
set_option maxRecDepth 100000 in
theorem w_X7_edge_74 (X : Cx g p s m args meth c cX7_edge 4 RX7 (some .int)) {x1 : Int32} {x2 : Int32} {x3 : Int32} {st : Sg} {r9 : Int32} {st9 : Sg} (rc48 : Int32 → Sg → Option (Int32 × Sg)) (hrc48 : ∀ (x3 : Int32) (st : Sg) (ls : Array Slot) (H : Heap) (locs : List Loc), rc48 x3 st = some (r9, st9) → Hp g nwX (ceX g) A s.heap st H locs → lv_has ls 4 [(0, .ref (g.2.1 0)), (1, .int x1), (2, .int x2), (3, .int x3)] → W p l e rm_X7_edge s m args below meth c H locs 0 0 (MQ below (QI g nwX (ceX g) A r9 st9) args s 0 0 A) (F0 m 48 ls [])) (h : X7_edge_74 rc48 x1 x2 x3 st = some (r9, st9)) (Y : Hp g nwX (ceX g) A s.heap st H locs)  (hl : lv_has ls 4 [(0, .ref (g.2.1 0)), (1, .int x1), (2, .int x2), (3, .int x3)]) : W p l e rm_X7_edge s m args below meth c H locs 0 0 (MQ below (QI g nwX (ceX g) A r9 st9) args s 0 0 A) (F0 m 74 ls []) := by
  have hx := X.1
  have hb := X.2.1
  unfold X7_edge_74 at h
  refine lv_iload_n hx hb dX7_edge_74 rfl (lv_at hl 2 rfl) ?_
  refine lv_iload_n hx hb dX7_edge_75 rfl (lv_at hl 3 rfl) ?_
  refine lv_iadd hx hb dX7_edge_76 ?_
  refine lv_iconst (v := 4) hx hb dX7_edge_77 (by decide) ?_
  refine lv_icmp_gt (tgt := 96) hx hb dX7_edge_78 (by decide) (fun c1 => ?_) (fun c1 => ?_)
  · have h := ite_t h c1
    exact w_X7_edge_96 X rc48 hrc48 h Y  (lv_sub hl [0, 1, 2, 3] rfl)
  · have h := ite_f h c1
    refine lv_aload_n hx hb dX7_edge_81 rfl (lv_at hl 0 rfl) ?_
    refine lv_iload_n hx hb dX7_edge_82 rfl (lv_at hl 1 rfl) ?_
    refine lv_iload_n hx hb dX7_edge_83 rfl (lv_at hl 2 rfl) ?_
    refine lv_iload_n hx hb dX7_edge_84 rfl (lv_at hl 3 rfl) ?_
    refine lv_iadd hx hb dX7_edge_85 ?_
    obtain ⟨v4, st3, hc2, h⟩ := bnd2_s h
    refine k_cI Y (k_runV (As := [.int x1, .int (x2 + x3)]) (rest := []) (o := 0) X Y cl_7_230 (c_X7_isOtherWith l hc2 _) ⟨rfl, rfl, Nat.le_of_ble_eq_true rfl, Nat.le_of_ble_eq_true rfl⟩ (Nat.le_of_ble_eq_true rfl) rfl rfl hl.1 rfl (Nat.le_of_ble_eq_true rfl) dX7_edge_86 ⟨Nat.zero_le _, Nat.zero_le _⟩) (fun H locs Y => ?_)
    refine lv_if_eq (tgt := 96) hx hb dX7_edge_89 (by decide) (fun c5 => ?_) (fun c5 => ?_)
    · have h := ite_t h c5
      exact w_X7_edge_96 X rc48 hrc48 h Y  (lv_sub hl [0, 1, 2, 3] rfl)
    · have h := ite_f h c5
      exact w_X7_edge_92 X  h Y  (lv_sub hl [2, 3] rfl)
set_option maxHeartbeats 4000000 in
set_option maxRecDepth 100000 in
theorem w_X7_edge_102 (X : Cx g p s m args meth c cX7_edge 4 RX7 (some .int))  {st : Sg} {r9 : Int32} {st9 : Sg}  (h : X7_edge_102 st = some (r9, st9)) (Y : Hp g nwX (ceX g) A s.heap st H locs)  (hl : lv_has ls 4 []) : W p l e rm_X7_edge s m args below meth c H locs 0 0 (MQ below (QI g nwX (ceX g) A r9 st9) args s 0 0 A) (F0 m 102 ls []) := by
  have hx := X.1
  have hb := X.2.1
  unfold X7_edge_102 at h
  refine lv_bipush (v := (-6)) hx hb dX7_edge_102 (by decide) ?_
  exact k_iretW X Y h dX7_edge_104
set_option maxHeartbeats 4000000 in
set_option maxRecDepth 100000 in
theorem w_X7_edge_48b (X : Cx g p s m args meth c cX7_edge 4 RX7 (some .int)) {x1 : Int32} {x2 : Int32} {x3 : Int32} {st : Sg} {r9 : Int32} {st9 : Sg} (rc48 : Int32 → Sg → Option (Int32 × Sg)) (hrc48 : ∀ (x3 : Int32) (st : Sg) (ls : Array Slot) (H : Heap) (locs : List Loc), rc48 x3 st = some (r9, st9) → Hp g nwX (ceX g) A s.heap st H locs → lv_has ls 4 [(0, .ref (g.2.1 0)), (1, .int x1), (2, .int x2), (3, .int x3)] → W p l e rm_X7_edge s m args below meth c H locs 0 0 (MQ below (QI g nwX (ceX g) A r9 st9) args s 0 0 A) (F0 m 48 ls [])) (h : X7_edge_48b rc48 x1 x2 x3 st = some (r9, st9)) (Y : Hp g nwX (ceX g) A s.heap st H locs)  (hl : lv_has ls 4 [(0, .ref (g.2.1 0)), (1, .int x1), (2, .int x2), (3, .int x3)]) : W p l e rm_X7_edge s m args below meth c H locs 0 0 (MQ below (QI g nwX (ceX g) A r9 st9) args s 0 0 A) (F0 m 48 ls []) := by
  have hx := X.1
  have hb := X.2.1
  unfold X7_edge_48b at h
  refine lv_iload_n hx hb dX7_edge_48 rfl (lv_at hl 3 rfl) ?_
  refine lv_iconst (v := 4) hx hb dX7_edge_49 (by decide) ?_
  refine lv_icmp_gt (tgt := 102) hx hb dX7_edge_50 (by decide) (fun c1 => ?_) (fun c1 => ?_)
  · have h := ite_t h c1
    exact w_X7_edge_102 X  h Y  (lv_sub hl [] rfl)
  · have h := ite_f h c1
    refine lv_iload_n hx hb dX7_edge_53 rfl (lv_at hl 2 rfl) ?_
    refine lv_iload_n hx hb dX7_edge_54 rfl (lv_at hl 3 rfl) ?_
    refine lv_isub hx hb dX7_edge_55 ?_
    refine lv_if_lt (tgt := 74) hx hb dX7_edge_56 (by decide) (fun c2 => ?_) (fun c2 => ?_)
    · have h := ite_t h c2
      exact w_X7_edge_74 X rc48 hrc48 h Y  (lv_sub hl [0, 1, 2, 3] rfl)
    · have h := ite_f h c2
      refine lv_aload_n hx hb dX7_edge_59 rfl (lv_at hl 0 rfl) ?_
      refine lv_iload_n hx hb dX7_edge_60 rfl (lv_at hl 1 rfl) ?_
      refine lv_iload_n hx hb dX7_edge_61 rfl (lv_at hl 2 rfl) ?_
      refine lv_iload_n hx hb dX7_edge_62 rfl (lv_at hl 3 rfl) ?_
      refine lv_isub hx hb dX7_edge_63 ?_
      obtain ⟨v5, st4, hc3, h⟩ := bnd2_s h
      refine k_cI Y (k_runV (As := [.int x1, .int (x2 - x3)]) (rest := []) (o := 0) X Y cl_7_230 (c_X7_isOtherWith l hc3 _) ⟨rfl, rfl, Nat.le_of_ble_eq_true rfl, Nat.le_of_ble_eq_true rfl⟩ (Nat.le_of_ble_eq_true rfl) rfl rfl hl.1 rfl (Nat.le_of_ble_eq_true rfl) dX7_edge_64 ⟨Nat.zero_le _, Nat.zero_le _⟩) (fun H locs Y => ?_)
      refine lv_if_eq (tgt := 74) hx hb dX7_edge_67 (by decide) (fun c6 => ?_) (fun c6 => ?_)
      · have h := ite_t h c6
        exact w_X7_edge_74 X rc48 hrc48 h Y  (lv_sub hl [0, 1, 2, 3] rfl)
      · have h := ite_f h c6
        exact w_X7_edge_70 X  h Y  (lv_sub hl [2, 3] rfl)
theorem w_X7_edge_48 (X : Cx g p s m args meth c cX7_edge 4 RX7 (some .int)) {x1 : Int32} {x2 : Int32}  {r9 : Int32} {st9 : Sg}   : ∀ (k : Nat) (x3 : Int32) (st : Sg) (ls : Array Slot) (H : Heap) (locs : List Loc), X7_edge_48 x1 x2 k x3 st = some (r9, st9) → Hp g nwX (ceX g) A s.heap st H locs → lv_has ls 4 [(0, .ref (g.2.1 0)), (1, .int x1), (2, .int x2), (3, .int x3)] → W p l e rm_X7_edge s m args below meth c H locs 0 0 (MQ below (QI g nwX (ceX g) A r9 st9) args s 0 0 A) (F0 m 48 ls []) := by
  intro k
  induction k with
  | zero =>
    intro x3 st ls H locs h
    exact none_s h
  | succ k ih =>
    intro x3 st ls H locs h Y hl
    exact w_X7_edge_48b X  (X7_edge_48 x1 x2 k) ih h Y  hl
set_option maxHeartbeats 4000000 in
set_option maxRecDepth 100000 in
theorem w_X7_edge (X : Cx g p s m args meth c cX7_edge 4 RX7 (some .int)) {x1 : Int32} {st : Sg} {r9 : Int32} {st9 : Sg}  (h : X7_edge x1 st = some (r9, st9)) (Y : Hp g nwX (ceX g) A s.heap st H locs)  (hl : lv_has ls 4 [(0, .ref (g.2.1 0)), (1, .int x1)]) : W p l e rm_X7_edge s m args below meth c H locs 0 0 (MQ below (QI g nwX (ceX g) A r9 st9) args s 0 0 A) (F0 m 0 ls []) := by
  have hx := X.1
  have hb := X.2.1
  unfold X7_edge at h
  refine lv_aload_n hx hb dX7_edge_0 rfl (lv_at hl 0 rfl) ?_
  refine k_get (v := .ref (g.2.1 1)) X Y fl_7_10 0 (Nat.le_of_ble_eq_true rfl) rfl rfl dX7_edge_1 ?_
  refine lv_iload_n hx hb dX7_edge_4 rfl (lv_at hl 1 rfl) ?_
  obtain ⟨v2, hc1, h⟩ := bnd1_s h
  refine k_cI Y (k_runV (As := [.int x1]) (rest := []) (o := 1) X Y cl_7_118 (c_X3_isSort l hc1 _) ⟨rfl, rfl, Nat.le_of_ble_eq_true rfl, Nat.le_of_ble_eq_true rfl⟩ (Nat.le_of_ble_eq_true rfl) rfl rfl hl.1 rfl (Nat.le_of_ble_eq_true rfl) dX7_edge_5 ⟨Nat.zero_le _, Nat.zero_le _⟩) (fun H locs Y => ?_)
  refine lv_if_ne (tgt := 13) hx hb dX7_edge_8 (by decide) (fun c3 => ?_) (fun c3 => ?_)
  · have h := ite_f h c3
    refine lv_aload_n hx hb dX7_edge_13 rfl (lv_at hl 0 rfl) ?_
    refine k_get (v := .ref (g.2.1 1)) X Y fl_7_10 0 (Nat.le_of_ble_eq_true rfl) rfl rfl dX7_edge_14 ?_
    refine k_get (v := .int (st.1 1 4)) X Y fl_7_97 1 (Nat.le_of_ble_eq_true rfl) rfl rfl dX7_edge_17 ?_
    refine lv_if_eq (tgt := 33) hx hb dX7_edge_20 (by decide) (fun c4 => ?_) (fun c4 => ?_)
    · have h := ite_t h c4
      exact w_X7_edge_33 X  h Y  (lv_sub hl [] rfl)
    · have h := ite_f h c4
      refine lv_aload_n hx hb dX7_edge_23 rfl (lv_at hl 0 rfl) ?_
      refine k_get (v := .ref (g.2.1 1)) X Y fl_7_10 0 (Nat.le_of_ble_eq_true rfl) rfl rfl dX7_edge_24 ?_
      refine k_get (v := .int (st.1 1 0)) X Y fl_7_85 1 (Nat.le_of_ble_eq_true rfl) rfl rfl dX7_edge_27 ?_
      refine lv_if_ne (tgt := 36) hx hb dX7_edge_30 (by decide) (fun c5 => ?_) (fun c5 => ?_)
      · have h := ite_f h c5
        refine lv_aload_n hx hb dX7_edge_36 rfl (lv_at hl 0 rfl) ?_
        refine k_get (v := .ref (g.2.1 1)) X Y fl_7_10 0 (Nat.le_of_ble_eq_true rfl) rfl rfl dX7_edge_37 ?_
        refine k_get (v := .ref (g.2.1 3)) X Y fl_7_106 1 (Nat.le_of_ble_eq_true rfl) rfl rfl dX7_edge_40 ?_
        refine lv_iload_n hx hb dX7_edge_43 rfl (lv_at hl 1 rfl) ?_
        obtain ⟨i6, h⟩ := cix_s h
        refine k_iald X Y 3 (Nat.le_of_ble_eq_true rfl) (fun _ _ => rfl) i6 dX7_edge_44 ?_
        obtain ⟨v7, ev7, h⟩ := nm_s h
        refine k_nmI ev7 ?_
        refine lv_istore_n (lv' := [(2, .int v7), (0, .ref (g.2.1 0)), (1, .int x1)]) hx hb dX7_edge_45 rfl hl (by decide) rfl (fun ls hl => ?_)
        refine lv_iconst (v := 1) hx hb dX7_edge_46 (by decide) ?_
        refine lv_istore_n (lv' := [(3, .int 1), (2, .int v7), (0, .ref (g.2.1 0)), (1, .int x1)]) hx hb dX7_edge_47 rfl hl (by decide) rfl (fun ls hl => ?_)
        exact w_X7_edge_48 X   FU 1 st _ _ _ h Y (lv_sub hl [2, 3, 1, 0] rfl)
      · have h := ite_t h c5
        exact w_X7_edge_33 X  h Y  (lv_sub hl [] rfl)
  · have h := ite_t h c3
    refine lv_iconst (v := (-1)) hx hb dX7_edge_11 (by decide) ?_
    exact k_iretW X Y h dX7_edge_12
theorem c_X7_edge (l : Launch) {g : Gx} {x1 : Int32} {st : Sg} {r9 : Int32} {st9 : Sg} (h : X7_edge x1 st = some (r9, st9)) : MetI l yX7_edge cX7_edge 4 (some .int) rm_X7_edge g nwX (ceX g) [.ref (g.2.1 0), .int x1] st r9 st9 :=
  met_of (Qc := fun A => QI g nwX (ceX g) A r9 st9) (by decide) (Nat.le_of_ble_eq_true rfl) (fun p e s m below meth c A ls X Y hl => w_X7_edge X h Y hl)
def X5_isFact_17   (k0 : Int32) : Option Int32 :=
  cb01 k0 <| some k0
def X5_isFact_12    : Option Int32 :=
  X5_isFact_17 1
def X5_isFact   (x0 : Int32) : Option Int32 :=
  if x0 = (108 : Int32) then
    X5_isFact_12
  else
    if x0 = (100 : Int32) then
      X5_isFact_12
    else
      X5_isFact_17 0
abbrev rm_X5_isFact : Room := { frames := 0, cells := 0, slots := 0, locals := 0 }
set_option maxHeartbeats 4000000 in
set_option maxRecDepth 100000 in
theorem w_X5_isFact_17 (X : Cx g p s m args meth c cX5_isFact 1 RX5 (some .boolean)) {k0 : Int32} {st : Sg} {r9 : Int32}  (h : X5_isFact_17 k0 = some r9) (Y : Hp g nwX (ceX g) A s.heap st H locs)  (hl : lv_has ls 1 []) : W p l e rm_X5_isFact s m args below meth c H locs 0 0 (MQ below (QI g nwX (ceX g) A r9 st) args s 0 0 A) (F0 m 17 ls [.int k0]) := by
  have hx := X.1
  have hb := X.2.1
  unfold X5_isFact_17 at h
  obtain ⟨b1, h⟩ := cb01_s h
  exact k_zretR X Y b1 h dX5_isFact_17
set_option maxHeartbeats 4000000 in
set_option maxRecDepth 100000 in
theorem w_X5_isFact_12 (X : Cx g p s m args meth c cX5_isFact 1 RX5 (some .boolean))  {st : Sg} {r9 : Int32}  (h : X5_isFact_12 = some r9) (Y : Hp g nwX (ceX g) A s.heap st H locs)  (hl : lv_has ls 1 []) : W p l e rm_X5_isFact s m args below meth c H locs 0 0 (MQ below (QI g nwX (ceX g) A r9 st) args s 0 0 A) (F0 m 12 ls []) := by
  have hx := X.1
  have hb := X.2.1
  unfold X5_isFact_12 at h
  refine lv_iconst (v := 1) hx hb dX5_isFact_12 (by decide) ?_
  refine lv_goto (tgt := 17) hx hb dX5_isFact_13 (by decide) ?_
  exact w_X5_isFact_17 X  h Y  (lv_sub hl [] rfl)
set_option maxHeartbeats 4000000 in
set_option maxRecDepth 100000 in
theorem w_X5_isFact (X : Cx g p s m args meth c cX5_isFact 1 RX5 (some .boolean)) {x0 : Int32} {st : Sg} {r9 : Int32}  (h : X5_isFact x0 = some r9) (Y : Hp g nwX (ceX g) A s.heap st H locs)  (hl : lv_has ls 1 [(0, .int x0)]) : W p l e rm_X5_isFact s m args below meth c H locs 0 0 (MQ below (QI g nwX (ceX g) A r9 st) args s 0 0 A) (F0 m 0 ls []) := by
  have hx := X.1
  have hb := X.2.1
  unfold X5_isFact at h
  refine lv_iload_n hx hb dX5_isFact_0 rfl (lv_at hl 0 rfl) ?_
  refine lv_bipush (v := 108) hx hb dX5_isFact_1 (by decide) ?_
  refine lv_icmp_eq (tgt := 12) hx hb dX5_isFact_3 (by decide) (fun c1 => ?_) (fun c1 => ?_)
  · have h := ite_t h c1
    exact w_X5_isFact_12 X  h Y  (lv_sub hl [] rfl)
  · have h := ite_f h c1
    refine lv_iload_n hx hb dX5_isFact_6 rfl (lv_at hl 0 rfl) ?_
    refine lv_bipush (v := 100) hx hb dX5_isFact_7 (by decide) ?_
    refine lv_icmp_ne (tgt := 16) hx hb dX5_isFact_9 (by decide) (fun c2 => ?_) (fun c2 => ?_)
    · have h := ite_f h c2
      refine lv_iconst (v := 0) hx hb dX5_isFact_16 (by decide) ?_
      exact w_X5_isFact_17 X  h Y  (lv_sub hl [] rfl)
    · have h := ite_t h c2
      exact w_X5_isFact_12 X  h Y  (lv_sub hl [] rfl)
theorem c_X5_isFact (l : Launch) {g : Gx} {x0 : Int32} {st : Sg} {r9 : Int32} (h : X5_isFact x0 = some r9) : MetI l yX5_isFact cX5_isFact 1 (some .boolean) rm_X5_isFact g nwX (ceX g) [.int x0] st r9 st :=
  met_of (Qc := fun A => QI g nwX (ceX g) A r9 st) (by decide) (Nat.le_of_ble_eq_true rfl) (fun p e s m below meth c A ls X Y hl => w_X5_isFact X h Y hl)
def X5_isPriceDigit_17   (k0 : Int32) : Option Int32 :=
  cb01 k0 <| some k0
def X5_isPriceDigit_16    : Option Int32 :=
  X5_isPriceDigit_17 0
def X5_isPriceDigit   (x0 : Int32) : Option Int32 :=
  if x0 < (48 : Int32) then
    X5_isPriceDigit_16
  else
    if (53 : Int32) ≤ x0 then
      X5_isPriceDigit_16
    else
      X5_isPriceDigit_17 1
abbrev rm_X5_isPriceDigit : Room := { frames := 0, cells := 0, slots := 0, locals := 0 }
set_option maxHeartbeats 4000000 in
set_option maxRecDepth 100000 in
theorem w_X5_isPriceDigit_17 (X : Cx g p s m args meth c cX5_isPriceDigit 1 RX5 (some .boolean)) {k0 : Int32} {st : Sg} {r9 : Int32}  (h : X5_isPriceDigit_17 k0 = some r9) (Y : Hp g nwX (ceX g) A s.heap st H locs)  (hl : lv_has ls 1 []) : W p l e rm_X5_isPriceDigit s m args below meth c H locs 0 0 (MQ below (QI g nwX (ceX g) A r9 st) args s 0 0 A) (F0 m 17 ls [.int k0]) := by
  have hx := X.1
  have hb := X.2.1
  unfold X5_isPriceDigit_17 at h
  obtain ⟨b1, h⟩ := cb01_s h
  exact k_zretR X Y b1 h dX5_isPriceDigit_17
set_option maxHeartbeats 4000000 in
set_option maxRecDepth 100000 in
theorem w_X5_isPriceDigit_16 (X : Cx g p s m args meth c cX5_isPriceDigit 1 RX5 (some .boolean))  {st : Sg} {r9 : Int32}  (h : X5_isPriceDigit_16 = some r9) (Y : Hp g nwX (ceX g) A s.heap st H locs)  (hl : lv_has ls 1 []) : W p l e rm_X5_isPriceDigit s m args below meth c H locs 0 0 (MQ below (QI g nwX (ceX g) A r9 st) args s 0 0 A) (F0 m 16 ls []) := by
  have hx := X.1
  have hb := X.2.1
  unfold X5_isPriceDigit_16 at h
  refine lv_iconst (v := 0) hx hb dX5_isPriceDigit_16 (by decide) ?_
  exact w_X5_isPriceDigit_17 X  h Y  (lv_sub hl [] rfl)
set_option maxHeartbeats 4000000 in
set_option maxRecDepth 100000 in
theorem w_X5_isPriceDigit (X : Cx g p s m args meth c cX5_isPriceDigit 1 RX5 (some .boolean)) {x0 : Int32} {st : Sg} {r9 : Int32}  (h : X5_isPriceDigit x0 = some r9) (Y : Hp g nwX (ceX g) A s.heap st H locs)  (hl : lv_has ls 1 [(0, .int x0)]) : W p l e rm_X5_isPriceDigit s m args below meth c H locs 0 0 (MQ below (QI g nwX (ceX g) A r9 st) args s 0 0 A) (F0 m 0 ls []) := by
  have hx := X.1
  have hb := X.2.1
  unfold X5_isPriceDigit at h
  refine lv_iload_n hx hb dX5_isPriceDigit_0 rfl (lv_at hl 0 rfl) ?_
  refine lv_bipush (v := 48) hx hb dX5_isPriceDigit_1 (by decide) ?_
  refine lv_icmp_lt (tgt := 16) hx hb dX5_isPriceDigit_3 (by decide) (fun c1 => ?_) (fun c1 => ?_)
  · have h := ite_t h c1
    exact w_X5_isPriceDigit_16 X  h Y  (lv_sub hl [] rfl)
  · have h := ite_f h c1
    refine lv_iload_n hx hb dX5_isPriceDigit_6 rfl (lv_at hl 0 rfl) ?_
    refine lv_bipush (v := 53) hx hb dX5_isPriceDigit_7 (by decide) ?_
    refine lv_icmp_ge (tgt := 16) hx hb dX5_isPriceDigit_9 (by decide) (fun c2 => ?_) (fun c2 => ?_)
    · have h := ite_t h c2
      exact w_X5_isPriceDigit_16 X  h Y  (lv_sub hl [] rfl)
    · have h := ite_f h c2
      refine lv_iconst (v := 1) hx hb dX5_isPriceDigit_12 (by decide) ?_
      refine lv_goto (tgt := 17) hx hb dX5_isPriceDigit_13 (by decide) ?_
      exact w_X5_isPriceDigit_17 X  h Y  (lv_sub hl [] rfl)
theorem c_X5_isPriceDigit (l : Launch) {g : Gx} {x0 : Int32} {st : Sg} {r9 : Int32} (h : X5_isPriceDigit x0 = some r9) : MetI l yX5_isPriceDigit cX5_isPriceDigit 1 (some .boolean) rm_X5_isPriceDigit g nwX (ceX g) [.int x0] st r9 st :=
  met_of (Qc := fun A => QI g nwX (ceX g) A r9 st) (by decide) (Nat.le_of_ble_eq_true rfl) (fun p e s m below meth c A ls X Y hl => w_X5_isPriceDigit X h Y hl)
def X5_isCompare_23   (k0 : Int32) : Option Int32 :=
  cb01 k0 <| some k0
def X5_isCompare_18    : Option Int32 :=
  X5_isCompare_23 1
def X5_isCompare   (x0 : Int32) : Option Int32 :=
  if x0 = (60 : Int32) then
    X5_isCompare_18
  else
    if x0 = (62 : Int32) then
      X5_isCompare_18
    else
      if x0 = (61 : Int32) then
        X5_isCompare_18
      else
        X5_isCompare_23 0
abbrev rm_X5_isCompare : Room := { frames := 0, cells := 0, slots := 0, locals := 0 }
set_option maxHeartbeats 4000000 in
set_option maxRecDepth 100000 in
theorem w_X5_isCompare_23 (X : Cx g p s m args meth c cX5_isCompare 1 RX5 (some .boolean)) {k0 : Int32} {st : Sg} {r9 : Int32}  (h : X5_isCompare_23 k0 = some r9) (Y : Hp g nwX (ceX g) A s.heap st H locs)  (hl : lv_has ls 1 []) : W p l e rm_X5_isCompare s m args below meth c H locs 0 0 (MQ below (QI g nwX (ceX g) A r9 st) args s 0 0 A) (F0 m 23 ls [.int k0]) := by
  have hx := X.1
  have hb := X.2.1
  unfold X5_isCompare_23 at h
  obtain ⟨b1, h⟩ := cb01_s h
  exact k_zretR X Y b1 h dX5_isCompare_23
set_option maxHeartbeats 4000000 in
set_option maxRecDepth 100000 in
theorem w_X5_isCompare_18 (X : Cx g p s m args meth c cX5_isCompare 1 RX5 (some .boolean))  {st : Sg} {r9 : Int32}  (h : X5_isCompare_18 = some r9) (Y : Hp g nwX (ceX g) A s.heap st H locs)  (hl : lv_has ls 1 []) : W p l e rm_X5_isCompare s m args below meth c H locs 0 0 (MQ below (QI g nwX (ceX g) A r9 st) args s 0 0 A) (F0 m 18 ls []) := by
  have hx := X.1
  have hb := X.2.1
  unfold X5_isCompare_18 at h
  refine lv_iconst (v := 1) hx hb dX5_isCompare_18 (by decide) ?_
  refine lv_goto (tgt := 23) hx hb dX5_isCompare_19 (by decide) ?_
  exact w_X5_isCompare_23 X  h Y  (lv_sub hl [] rfl)
set_option maxHeartbeats 4000000 in
set_option maxRecDepth 100000 in
theorem w_X5_isCompare (X : Cx g p s m args meth c cX5_isCompare 1 RX5 (some .boolean)) {x0 : Int32} {st : Sg} {r9 : Int32}  (h : X5_isCompare x0 = some r9) (Y : Hp g nwX (ceX g) A s.heap st H locs)  (hl : lv_has ls 1 [(0, .int x0)]) : W p l e rm_X5_isCompare s m args below meth c H locs 0 0 (MQ below (QI g nwX (ceX g) A r9 st) args s 0 0 A) (F0 m 0 ls []) := by
  have hx := X.1
  have hb := X.2.1
  unfold X5_isCompare at h
  refine lv_iload_n hx hb dX5_isCompare_0 rfl (lv_at hl 0 rfl) ?_
  refine lv_bipush (v := 60) hx hb dX5_isCompare_1 (by decide) ?_
  refine lv_icmp_eq (tgt := 18) hx hb dX5_isCompare_3 (by decide) (fun c1 => ?_) (fun c1 => ?_)
  · have h := ite_t h c1
    exact w_X5_isCompare_18 X  h Y  (lv_sub hl [] rfl)
  · have h := ite_f h c1
    refine lv_iload_n hx hb dX5_isCompare_6 rfl (lv_at hl 0 rfl) ?_
    refine lv_bipush (v := 62) hx hb dX5_isCompare_7 (by decide) ?_
    refine lv_icmp_eq (tgt := 18) hx hb dX5_isCompare_9 (by decide) (fun c2 => ?_) (fun c2 => ?_)
    · have h := ite_t h c2
      exact w_X5_isCompare_18 X  h Y  (lv_sub hl [] rfl)
    · have h := ite_f h c2
      refine lv_iload_n hx hb dX5_isCompare_12 rfl (lv_at hl 0 rfl) ?_
      refine lv_bipush (v := 61) hx hb dX5_isCompare_13 (by decide) ?_
      refine lv_icmp_ne (tgt := 22) hx hb dX5_isCompare_15 (by decide) (fun c3 => ?_) (fun c3 => ?_)
      · have h := ite_f h c3
        refine lv_iconst (v := 0) hx hb dX5_isCompare_22 (by decide) ?_
        exact w_X5_isCompare_23 X  h Y  (lv_sub hl [] rfl)
      · have h := ite_t h c3
        exact w_X5_isCompare_18 X  h Y  (lv_sub hl [] rfl)
theorem c_X5_isCompare (l : Launch) {g : Gx} {x0 : Int32} {st : Sg} {r9 : Int32} (h : X5_isCompare x0 = some r9) : MetI l yX5_isCompare cX5_isCompare 1 (some .boolean) rm_X5_isCompare g nwX (ceX g) [.int x0] st r9 st :=
  met_of (Qc := fun A => QI g nwX (ceX g) A r9 st) (by decide) (Nat.le_of_ble_eq_true rfl) (fun p e s m below meth c A ls X Y hl => w_X5_isCompare X h Y hl)
def X5_isDigit_17   (k0 : Int32) : Option Int32 :=
  cb01 k0 <| some k0
def X5_isDigit_16    : Option Int32 :=
  X5_isDigit_17 0
def X5_isDigit   (x0 : Int32) : Option Int32 :=
  if x0 < (48 : Int32) then
    X5_isDigit_16
  else
    if (57 : Int32) < x0 then
      X5_isDigit_16
    else
      X5_isDigit_17 1
abbrev rm_X5_isDigit : Room := { frames := 0, cells := 0, slots := 0, locals := 0 }
set_option maxHeartbeats 4000000 in
set_option maxRecDepth 100000 in
theorem w_X5_isDigit_17 (X : Cx g p s m args meth c cX5_isDigit 1 RX5 (some .boolean)) {k0 : Int32} {st : Sg} {r9 : Int32}  (h : X5_isDigit_17 k0 = some r9) (Y : Hp g nwX (ceX g) A s.heap st H locs)  (hl : lv_has ls 1 []) : W p l e rm_X5_isDigit s m args below meth c H locs 0 0 (MQ below (QI g nwX (ceX g) A r9 st) args s 0 0 A) (F0 m 17 ls [.int k0]) := by
  have hx := X.1
  have hb := X.2.1
  unfold X5_isDigit_17 at h
  obtain ⟨b1, h⟩ := cb01_s h
  exact k_zretR X Y b1 h dX5_isDigit_17
set_option maxHeartbeats 4000000 in
set_option maxRecDepth 100000 in
theorem w_X5_isDigit_16 (X : Cx g p s m args meth c cX5_isDigit 1 RX5 (some .boolean))  {st : Sg} {r9 : Int32}  (h : X5_isDigit_16 = some r9) (Y : Hp g nwX (ceX g) A s.heap st H locs)  (hl : lv_has ls 1 []) : W p l e rm_X5_isDigit s m args below meth c H locs 0 0 (MQ below (QI g nwX (ceX g) A r9 st) args s 0 0 A) (F0 m 16 ls []) := by
  have hx := X.1
  have hb := X.2.1
  unfold X5_isDigit_16 at h
  refine lv_iconst (v := 0) hx hb dX5_isDigit_16 (by decide) ?_
  exact w_X5_isDigit_17 X  h Y  (lv_sub hl [] rfl)
set_option maxHeartbeats 4000000 in
set_option maxRecDepth 100000 in
theorem w_X5_isDigit (X : Cx g p s m args meth c cX5_isDigit 1 RX5 (some .boolean)) {x0 : Int32} {st : Sg} {r9 : Int32}  (h : X5_isDigit x0 = some r9) (Y : Hp g nwX (ceX g) A s.heap st H locs)  (hl : lv_has ls 1 [(0, .int x0)]) : W p l e rm_X5_isDigit s m args below meth c H locs 0 0 (MQ below (QI g nwX (ceX g) A r9 st) args s 0 0 A) (F0 m 0 ls []) := by
  have hx := X.1
  have hb := X.2.1
  unfold X5_isDigit at h
  refine lv_iload_n hx hb dX5_isDigit_0 rfl (lv_at hl 0 rfl) ?_
  refine lv_bipush (v := 48) hx hb dX5_isDigit_1 (by decide) ?_
  refine lv_icmp_lt (tgt := 16) hx hb dX5_isDigit_3 (by decide) (fun c1 => ?_) (fun c1 => ?_)
  · have h := ite_t h c1
    exact w_X5_isDigit_16 X  h Y  (lv_sub hl [] rfl)
  · have h := ite_f h c1
    refine lv_iload_n hx hb dX5_isDigit_6 rfl (lv_at hl 0 rfl) ?_
    refine lv_bipush (v := 57) hx hb dX5_isDigit_7 (by decide) ?_
    refine lv_icmp_gt (tgt := 16) hx hb dX5_isDigit_9 (by decide) (fun c2 => ?_) (fun c2 => ?_)
    · have h := ite_t h c2
      exact w_X5_isDigit_16 X  h Y  (lv_sub hl [] rfl)
    · have h := ite_f h c2
      refine lv_iconst (v := 1) hx hb dX5_isDigit_12 (by decide) ?_
      refine lv_goto (tgt := 17) hx hb dX5_isDigit_13 (by decide) ?_
      exact w_X5_isDigit_17 X  h Y  (lv_sub hl [] rfl)
theorem c_X5_isDigit (l : Launch) {g : Gx} {x0 : Int32} {st : Sg} {r9 : Int32} (h : X5_isDigit x0 = some r9) : MetI l yX5_isDigit cX5_isDigit 1 (some .boolean) rm_X5_isDigit g nwX (ceX g) [.int x0] st r9 st :=
  met_of (Qc := fun A => QI g nwX (ceX g) A r9 st) (by decide) (Nat.le_of_ble_eq_true rfl) (fun p e s m below meth c A ls X Y hl => w_X5_isDigit X h Y hl)
def X5_follow_69   (k0 : Int32) : Option Int32 :=
  some k0
def X5_follow_83   (k0 : Int32) : Option Int32 :=
  some k0
def X5_follow_97   (k0 : Int32) : Option Int32 :=
  some k0
def X5_follow_121   (k0 : Int32) : Option Int32 :=
  some k0
def X5_follow_134   (k0 : Int32) : Option Int32 :=
  some k0
def X5_follow_149   (k0 : Int32) : Option Int32 :=
  some k0
def X5_follow_162   (k0 : Int32) : Option Int32 :=
  some k0
def X5_follow   (x0 : Int32) (x1 : Int32) : Option Int32 :=
  if x0 = (0 : Int32) then
    bnd1 (X5_isFact x1) fun v3 =>
    if v3 = (0 : Int32) then
      bnd1 (X5_isPriceDigit x1) fun v6 =>
      if v6 = (0 : Int32) then
        X5_follow_69 8
      else
        X5_follow_69 7
    else
      X5_follow_69 1
  else
    if x0 = (1 : Int32) then
      bnd1 (X5_isCompare x1) fun v10 =>
      if v10 = (0 : Int32) then
        X5_follow_83 8
      else
        X5_follow_83 2
    else
      if x0 = (2 : Int32) then
        bnd1 (X5_isDigit x1) fun v14 =>
        if v14 = (0 : Int32) then
          X5_follow_97 8
        else
          X5_follow_97 3
      else
        if x0 = (3 : Int32) then
          bnd1 (X5_isDigit x1) fun v18 =>
          if v18 = (0 : Int32) then
            if x1 = (58 : Int32) then
              X5_follow_121 5
            else
              X5_follow_121 8
          else
            X5_follow_121 4
        else
          if x0 = (4 : Int32) then
            if x1 = (58 : Int32) then
              X5_follow_134 5
            else
              X5_follow_134 8
          else
            if x0 = (5 : Int32) then
              bnd1 (X5_isPriceDigit x1) fun v25 =>
              if v25 = (0 : Int32) then
                X5_follow_149 8
              else
                X5_follow_149 6
            else
              if x0 = (6 : Int32) then
                if x1 = (59 : Int32) then
                  X5_follow_162 0
                else
                  X5_follow_162 8
              else
                some 8
abbrev rm_X5_follow : Room := { frames := 1, cells := 0, slots := 0, locals := 20 }
set_option maxHeartbeats 4000000 in
set_option maxRecDepth 100000 in
theorem w_X5_follow_69 (X : Cx g p s m args meth c cX5_follow 2 RX5 (some .int)) {k0 : Int32} {st : Sg} {r9 : Int32}  (h : X5_follow_69 k0 = some r9) (Y : Hp g nwX (ceX g) A s.heap st H locs)  (hl : lv_has ls 2 []) : W p l e rm_X5_follow s m args below meth c H locs 0 0 (MQ below (QI g nwX (ceX g) A r9 st) args s 0 0 A) (F0 m 69 ls [.int k0]) := by
  have hx := X.1
  have hb := X.2.1
  unfold X5_follow_69 at h
  exact k_iretR X Y h dX5_follow_69
set_option maxHeartbeats 4000000 in
set_option maxRecDepth 100000 in
theorem w_X5_follow_83 (X : Cx g p s m args meth c cX5_follow 2 RX5 (some .int)) {k0 : Int32} {st : Sg} {r9 : Int32}  (h : X5_follow_83 k0 = some r9) (Y : Hp g nwX (ceX g) A s.heap st H locs)  (hl : lv_has ls 2 []) : W p l e rm_X5_follow s m args below meth c H locs 0 0 (MQ below (QI g nwX (ceX g) A r9 st) args s 0 0 A) (F0 m 83 ls [.int k0]) := by
  have hx := X.1
  have hb := X.2.1
  unfold X5_follow_83 at h
  exact k_iretR X Y h dX5_follow_83
set_option maxHeartbeats 4000000 in
set_option maxRecDepth 100000 in
theorem w_X5_follow_97 (X : Cx g p s m args meth c cX5_follow 2 RX5 (some .int)) {k0 : Int32} {st : Sg} {r9 : Int32}  (h : X5_follow_97 k0 = some r9) (Y : Hp g nwX (ceX g) A s.heap st H locs)  (hl : lv_has ls 2 []) : W p l e rm_X5_follow s m args below meth c H locs 0 0 (MQ below (QI g nwX (ceX g) A r9 st) args s 0 0 A) (F0 m 97 ls [.int k0]) := by
  have hx := X.1
  have hb := X.2.1
  unfold X5_follow_97 at h
  exact k_iretR X Y h dX5_follow_97
set_option maxHeartbeats 4000000 in
set_option maxRecDepth 100000 in
theorem w_X5_follow_121 (X : Cx g p s m args meth c cX5_follow 2 RX5 (some .int)) {k0 : Int32} {st : Sg} {r9 : Int32}  (h : X5_follow_121 k0 = some r9) (Y : Hp g nwX (ceX g) A s.heap st H locs)  (hl : lv_has ls 2 []) : W p l e rm_X5_follow s m args below meth c H locs 0 0 (MQ below (QI g nwX (ceX g) A r9 st) args s 0 0 A) (F0 m 121 ls [.int k0]) := by
  have hx := X.1
  have hb := X.2.1
  unfold X5_follow_121 at h
  exact k_iretR X Y h dX5_follow_121
set_option maxHeartbeats 4000000 in
set_option maxRecDepth 100000 in
theorem w_X5_follow_134 (X : Cx g p s m args meth c cX5_follow 2 RX5 (some .int)) {k0 : Int32} {st : Sg} {r9 : Int32}  (h : X5_follow_134 k0 = some r9) (Y : Hp g nwX (ceX g) A s.heap st H locs)  (hl : lv_has ls 2 []) : W p l e rm_X5_follow s m args below meth c H locs 0 0 (MQ below (QI g nwX (ceX g) A r9 st) args s 0 0 A) (F0 m 134 ls [.int k0]) := by
  have hx := X.1
  have hb := X.2.1
  unfold X5_follow_134 at h
  exact k_iretR X Y h dX5_follow_134
set_option maxHeartbeats 4000000 in
set_option maxRecDepth 100000 in
theorem w_X5_follow_149 (X : Cx g p s m args meth c cX5_follow 2 RX5 (some .int)) {k0 : Int32} {st : Sg} {r9 : Int32}  (h : X5_follow_149 k0 = some r9) (Y : Hp g nwX (ceX g) A s.heap st H locs)  (hl : lv_has ls 2 []) : W p l e rm_X5_follow s m args below meth c H locs 0 0 (MQ below (QI g nwX (ceX g) A r9 st) args s 0 0 A) (F0 m 149 ls [.int k0]) := by
  have hx := X.1
  have hb := X.2.1
  unfold X5_follow_149 at h
  exact k_iretR X Y h dX5_follow_149
set_option maxHeartbeats 4000000 in
set_option maxRecDepth 100000 in
theorem w_X5_follow_162 (X : Cx g p s m args meth c cX5_follow 2 RX5 (some .int)) {k0 : Int32} {st : Sg} {r9 : Int32}  (h : X5_follow_162 k0 = some r9) (Y : Hp g nwX (ceX g) A s.heap st H locs)  (hl : lv_has ls 2 []) : W p l e rm_X5_follow s m args below meth c H locs 0 0 (MQ below (QI g nwX (ceX g) A r9 st) args s 0 0 A) (F0 m 162 ls [.int k0]) := by
  have hx := X.1
  have hb := X.2.1
  unfold X5_follow_162 at h
  exact k_iretR X Y h dX5_follow_162
set_option maxHeartbeats 4000000 in
set_option maxRecDepth 100000 in
theorem w_X5_follow (X : Cx g p s m args meth c cX5_follow 2 RX5 (some .int)) {x0 : Int32} {x1 : Int32} {st : Sg} {r9 : Int32}  (h : X5_follow x0 x1 = some r9) (Y : Hp g nwX (ceX g) A s.heap st H locs)  (hl : lv_has ls 2 [(0, .int x0), (1, .int x1)]) : W p l e rm_X5_follow s m args below meth c H locs 0 0 (MQ below (QI g nwX (ceX g) A r9 st) args s 0 0 A) (F0 m 0 ls []) := by
  have hx := X.1
  have hb := X.2.1
  unfold X5_follow at h
  refine lv_iload_n hx hb dX5_follow_0 rfl (lv_at hl 0 rfl) ?_
  by_cases c1 : x0 = (0 : Int32)
  · have h := ite_t h c1
    refine lv_tableIn (tgt := 44) hx hb dX5_follow_1 (by rw [c1]; decide) (by rw [c1]; decide) (by rw [c1]; rfl) (by decide) ?_
    refine lv_iload_n hx hb dX5_follow_44 rfl (lv_at hl 1 rfl) ?_
    obtain ⟨v3, hc2, h⟩ := bnd1_s h
    refine k_cI Y (k_runS (As := [.int x1]) (rest := []) X Y cl_5_23 (c_X5_isFact l hc2 _) ⟨rfl, rfl, Nat.le_of_ble_eq_true rfl, Nat.le_of_ble_eq_true rfl⟩ rfl hl.1 rfl (Nat.le_of_ble_eq_true rfl) dX5_follow_45 ⟨Nat.zero_le _, Nat.zero_le _⟩) (fun H locs Y => ?_)
    refine lv_if_eq (tgt := 55) hx hb dX5_follow_48 (by decide) (fun c4 => ?_) (fun c4 => ?_)
    · have h := ite_t h c4
      refine lv_iload_n hx hb dX5_follow_55 rfl (lv_at hl 1 rfl) ?_
      obtain ⟨v6, hc5, h⟩ := bnd1_s h
      refine k_cI Y (k_runS (As := [.int x1]) (rest := []) X Y cl_5_27 (c_X5_isPriceDigit l hc5 _) ⟨rfl, rfl, Nat.le_of_ble_eq_true rfl, Nat.le_of_ble_eq_true rfl⟩ rfl hl.1 rfl (Nat.le_of_ble_eq_true rfl) dX5_follow_56 ⟨Nat.zero_le _, Nat.zero_le _⟩) (fun H locs Y => ?_)
      refine lv_if_eq (tgt := 67) hx hb dX5_follow_59 (by decide) (fun c7 => ?_) (fun c7 => ?_)
      · have h := ite_t h c7
        refine lv_bipush (v := 8) hx hb dX5_follow_67 (by decide) ?_
        exact w_X5_follow_69 X  h Y  (lv_sub hl [] rfl)
      · have h := ite_f h c7
        refine lv_bipush (v := 7) hx hb dX5_follow_62 (by decide) ?_
        refine lv_goto (tgt := 69) hx hb dX5_follow_64 (by decide) ?_
        exact w_X5_follow_69 X  h Y  (lv_sub hl [] rfl)
    · have h := ite_f h c4
      refine lv_iconst (v := 1) hx hb dX5_follow_51 (by decide) ?_
      refine lv_goto (tgt := 69) hx hb dX5_follow_52 (by decide) ?_
      exact w_X5_follow_69 X  h Y  (lv_sub hl [] rfl)
  · have h := ite_f h c1
    by_cases c8 : x0 = (1 : Int32)
    · have h := ite_t h c8
      refine lv_tableIn (tgt := 70) hx hb dX5_follow_1 (by rw [c8]; decide) (by rw [c8]; decide) (by rw [c8]; rfl) (by decide) ?_
      refine lv_iload_n hx hb dX5_follow_70 rfl (lv_at hl 1 rfl) ?_
      obtain ⟨v10, hc9, h⟩ := bnd1_s h
      refine k_cI Y (k_runS (As := [.int x1]) (rest := []) X Y cl_5_30 (c_X5_isCompare l hc9 _) ⟨rfl, rfl, Nat.le_of_ble_eq_true rfl, Nat.le_of_ble_eq_true rfl⟩ rfl hl.1 rfl (Nat.le_of_ble_eq_true rfl) dX5_follow_71 ⟨Nat.zero_le _, Nat.zero_le _⟩) (fun H locs Y => ?_)
      refine lv_if_eq (tgt := 81) hx hb dX5_follow_74 (by decide) (fun c11 => ?_) (fun c11 => ?_)
      · have h := ite_t h c11
        refine lv_bipush (v := 8) hx hb dX5_follow_81 (by decide) ?_
        exact w_X5_follow_83 X  h Y  (lv_sub hl [] rfl)
      · have h := ite_f h c11
        refine lv_iconst (v := 2) hx hb dX5_follow_77 (by decide) ?_
        refine lv_goto (tgt := 83) hx hb dX5_follow_78 (by decide) ?_
        exact w_X5_follow_83 X  h Y  (lv_sub hl [] rfl)
    · have h := ite_f h c8
      by_cases c12 : x0 = (2 : Int32)
      · have h := ite_t h c12
        refine lv_tableIn (tgt := 84) hx hb dX5_follow_1 (by rw [c12]; decide) (by rw [c12]; decide) (by rw [c12]; rfl) (by decide) ?_
        refine lv_iload_n hx hb dX5_follow_84 rfl (lv_at hl 1 rfl) ?_
        obtain ⟨v14, hc13, h⟩ := bnd1_s h
        refine k_cI Y (k_runS (As := [.int x1]) (rest := []) X Y cl_5_33 (c_X5_isDigit l hc13 _) ⟨rfl, rfl, Nat.le_of_ble_eq_true rfl, Nat.le_of_ble_eq_true rfl⟩ rfl hl.1 rfl (Nat.le_of_ble_eq_true rfl) dX5_follow_85 ⟨Nat.zero_le _, Nat.zero_le _⟩) (fun H locs Y => ?_)
        refine lv_if_eq (tgt := 95) hx hb dX5_follow_88 (by decide) (fun c15 => ?_) (fun c15 => ?_)
        · have h := ite_t h c15
          refine lv_bipush (v := 8) hx hb dX5_follow_95 (by decide) ?_
          exact w_X5_follow_97 X  h Y  (lv_sub hl [] rfl)
        · have h := ite_f h c15
          refine lv_iconst (v := 3) hx hb dX5_follow_91 (by decide) ?_
          refine lv_goto (tgt := 97) hx hb dX5_follow_92 (by decide) ?_
          exact w_X5_follow_97 X  h Y  (lv_sub hl [] rfl)
      · have h := ite_f h c12
        by_cases c16 : x0 = (3 : Int32)
        · have h := ite_t h c16
          refine lv_tableIn (tgt := 98) hx hb dX5_follow_1 (by rw [c16]; decide) (by rw [c16]; decide) (by rw [c16]; rfl) (by decide) ?_
          refine lv_iload_n hx hb dX5_follow_98 rfl (lv_at hl 1 rfl) ?_
          obtain ⟨v18, hc17, h⟩ := bnd1_s h
          refine k_cI Y (k_runS (As := [.int x1]) (rest := []) X Y cl_5_33 (c_X5_isDigit l hc17 _) ⟨rfl, rfl, Nat.le_of_ble_eq_true rfl, Nat.le_of_ble_eq_true rfl⟩ rfl hl.1 rfl (Nat.le_of_ble_eq_true rfl) dX5_follow_99 ⟨Nat.zero_le _, Nat.zero_le _⟩) (fun H locs Y => ?_)
          refine lv_if_eq (tgt := 109) hx hb dX5_follow_102 (by decide) (fun c19 => ?_) (fun c19 => ?_)
          · have h := ite_t h c19
            refine lv_iload_n hx hb dX5_follow_109 rfl (lv_at hl 1 rfl) ?_
            refine lv_bipush (v := 58) hx hb dX5_follow_110 (by decide) ?_
            refine lv_icmp_ne (tgt := 119) hx hb dX5_follow_112 (by decide) (fun c20 => ?_) (fun c20 => ?_)
            · have h := ite_f h c20
              refine lv_bipush (v := 8) hx hb dX5_follow_119 (by decide) ?_
              exact w_X5_follow_121 X  h Y  (lv_sub hl [] rfl)
            · have h := ite_t h c20
              refine lv_iconst (v := 5) hx hb dX5_follow_115 (by decide) ?_
              refine lv_goto (tgt := 121) hx hb dX5_follow_116 (by decide) ?_
              exact w_X5_follow_121 X  h Y  (lv_sub hl [] rfl)
          · have h := ite_f h c19
            refine lv_iconst (v := 4) hx hb dX5_follow_105 (by decide) ?_
            refine lv_goto (tgt := 121) hx hb dX5_follow_106 (by decide) ?_
            exact w_X5_follow_121 X  h Y  (lv_sub hl [] rfl)
        · have h := ite_f h c16
          by_cases c21 : x0 = (4 : Int32)
          · have h := ite_t h c21
            refine lv_tableIn (tgt := 122) hx hb dX5_follow_1 (by rw [c21]; decide) (by rw [c21]; decide) (by rw [c21]; rfl) (by decide) ?_
            refine lv_iload_n hx hb dX5_follow_122 rfl (lv_at hl 1 rfl) ?_
            refine lv_bipush (v := 58) hx hb dX5_follow_123 (by decide) ?_
            refine lv_icmp_ne (tgt := 132) hx hb dX5_follow_125 (by decide) (fun c22 => ?_) (fun c22 => ?_)
            · have h := ite_f h c22
              refine lv_bipush (v := 8) hx hb dX5_follow_132 (by decide) ?_
              exact w_X5_follow_134 X  h Y  (lv_sub hl [] rfl)
            · have h := ite_t h c22
              refine lv_iconst (v := 5) hx hb dX5_follow_128 (by decide) ?_
              refine lv_goto (tgt := 134) hx hb dX5_follow_129 (by decide) ?_
              exact w_X5_follow_134 X  h Y  (lv_sub hl [] rfl)
          · have h := ite_f h c21
            by_cases c23 : x0 = (5 : Int32)
            · have h := ite_t h c23
              refine lv_tableIn (tgt := 135) hx hb dX5_follow_1 (by rw [c23]; decide) (by rw [c23]; decide) (by rw [c23]; rfl) (by decide) ?_
              refine lv_iload_n hx hb dX5_follow_135 rfl (lv_at hl 1 rfl) ?_
              obtain ⟨v25, hc24, h⟩ := bnd1_s h
              refine k_cI Y (k_runS (As := [.int x1]) (rest := []) X Y cl_5_27 (c_X5_isPriceDigit l hc24 _) ⟨rfl, rfl, Nat.le_of_ble_eq_true rfl, Nat.le_of_ble_eq_true rfl⟩ rfl hl.1 rfl (Nat.le_of_ble_eq_true rfl) dX5_follow_136 ⟨Nat.zero_le _, Nat.zero_le _⟩) (fun H locs Y => ?_)
              refine lv_if_eq (tgt := 147) hx hb dX5_follow_139 (by decide) (fun c26 => ?_) (fun c26 => ?_)
              · have h := ite_t h c26
                refine lv_bipush (v := 8) hx hb dX5_follow_147 (by decide) ?_
                exact w_X5_follow_149 X  h Y  (lv_sub hl [] rfl)
              · have h := ite_f h c26
                refine lv_bipush (v := 6) hx hb dX5_follow_142 (by decide) ?_
                refine lv_goto (tgt := 149) hx hb dX5_follow_144 (by decide) ?_
                exact w_X5_follow_149 X  h Y  (lv_sub hl [] rfl)
            · have h := ite_f h c23
              by_cases c27 : x0 = (6 : Int32)
              · have h := ite_t h c27
                refine lv_tableIn (tgt := 150) hx hb dX5_follow_1 (by rw [c27]; decide) (by rw [c27]; decide) (by rw [c27]; rfl) (by decide) ?_
                refine lv_iload_n hx hb dX5_follow_150 rfl (lv_at hl 1 rfl) ?_
                refine lv_bipush (v := 59) hx hb dX5_follow_151 (by decide) ?_
                refine lv_icmp_ne (tgt := 160) hx hb dX5_follow_153 (by decide) (fun c28 => ?_) (fun c28 => ?_)
                · have h := ite_f h c28
                  refine lv_bipush (v := 8) hx hb dX5_follow_160 (by decide) ?_
                  exact w_X5_follow_162 X  h Y  (lv_sub hl [] rfl)
                · have h := ite_t h c28
                  refine lv_iconst (v := 0) hx hb dX5_follow_156 (by decide) ?_
                  refine lv_goto (tgt := 162) hx hb dX5_follow_157 (by decide) ?_
                  exact w_X5_follow_162 X  h Y  (lv_sub hl [] rfl)
              · have h := ite_f h c27
                refine lv_tableOut (tgt := 163) hx hb dX5_follow_1 (by have q0 := lv_neT c1 (a := 0) (by decide); have q1 := lv_neT c8 (a := 1) (by decide); have q2 := lv_neT c12 (a := 2) (by decide); have q3 := lv_neT c16 (a := 3) (by decide); have q4 := lv_neT c21 (a := 4) (by decide); have q5 := lv_neT c23 (a := 5) (by decide); have q6 := lv_neT c27 (a := 6) (by decide); omega) (by decide) ?_
                refine lv_bipush (v := 8) hx hb dX5_follow_163 (by decide) ?_
                exact k_iretR X Y h dX5_follow_165
theorem c_X5_follow (l : Launch) {g : Gx} {x0 : Int32} {x1 : Int32} {st : Sg} {r9 : Int32} (h : X5_follow x0 x1 = some r9) : MetI l yX5_follow cX5_follow 2 (some .int) rm_X5_follow g nwX (ceX g) [.int x0, .int x1] st r9 st :=
  met_of (Qc := fun A => QI g nwX (ceX g) A r9 st) (by decide) (Nat.le_of_ble_eq_true rfl) (fun p e s m below meth c A ls X Y hl => w_X5_follow X h Y hl)
end LIFT
