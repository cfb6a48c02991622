/-! lifted by program: SaturdaySaleModel.isPart, SaturdaySaleModel.findBoy, SaturdaySaleModel.power, SaturdaySaleModel.lowest, SaturdaySaleModel.boy, SaturdaySaleModel.bringFrom, SaturdaySaleModel.layPlan, SaturdaySaleModel.brings, SaturdaySaleModel.isSort, SaturdaySaleModel.change, SaturdaySaleModel.dip, SaturdaySaleModel.edge -/
section LIFT
variable {p : Program} {l : Launch} {e : Env} {s : State} {m : MethodId} {args : Array Value} {below : List Frame} {meth : Method} {c : Code} {g : Gx} {A : Nat → Prop} {H : Heap} {locs : List Loc} {ls : Array Slot}
def X8_isPart   (x0 : Int32) : Option Int32 :=
  bnd1 (X8_in (x0.toInt64) 0 1) fun v2 =>
  cb01 v2 <| some v2
abbrev rm_X8_isPart : Room := { frames := 1, cells := 0, slots := 0, locals := 25 }
set_option maxHeartbeats 4000000 in
set_option maxRecDepth 100000 in
theorem w_X8_isPart (X : Cx g p s m args meth c cX8_isPart 1 RX8 (some .boolean)) {x0 : Int32} {st : Sg} {r9 : Int32}  (h : X8_isPart x0 = some r9) (Y : Hp g nwM (ceM g) A s.heap st H locs)  (hl : lv_has ls 1 [(0, .int x0)]) : W p l e rm_X8_isPart s m args below meth c H locs 0 0 (MQ below (QI g nwM (ceM g) A r9 st) args s 0 0 A) (F0 m 0 ls []) := by
  have hx := X.1
  have hb := X.2.1
  unfold X8_isPart at h
  refine lv_iload_n hx hb dX8_isPart_0 rfl (lv_at hl 0 rfl) ?_
  refine lv_i2l hx hb dX8_isPart_1 rfl ?_
  refine lv_lconst (v := 0) hx hb dX8_isPart_2 (by decide) ?_
  refine lv_lconst (v := 1) hx hb dX8_isPart_3 (by decide) ?_
  obtain ⟨v2, hc1, h⟩ := bnd1_s h
  refine k_cI Y (k_runS (As := [.long (x0.toInt64), .long 0, .long 1]) (rest := []) X Y cl_8_83 (c_X8_in l hc1 _) ⟨rfl, rfl, Nat.le_of_ble_eq_true rfl, Nat.le_of_ble_eq_true rfl⟩ rfl hl.1 rfl (Nat.le_of_ble_eq_true rfl) dX8_isPart_4 ⟨Nat.zero_le _, Nat.zero_le _⟩) (fun H locs Y => ?_)
  obtain ⟨b3, h⟩ := cb01_s h
  exact k_zretR X Y b3 h dX8_isPart_7
theorem c_X8_isPart (l : Launch) {g : Gx} {x0 : Int32} {st : Sg} {r9 : Int32} (h : X8_isPart x0 = some r9) : MetI l yX8_isPart cX8_isPart 1 (some .boolean) rm_X8_isPart g nwM (ceM g) [.int x0] st r9 st :=
  met_of (Qc := fun A => QI g nwM (ceM g) A r9 st) (by decide) (Nat.le_of_ble_eq_true rfl) (fun p e s m below meth c A ls X Y hl => w_X8_isPart X h Y hl)
def X8_findBoy_150  (rc42 : Int64 → Int32 → Sg → Option Sg) (rc49 : Int32 → Sg → Option Sg) (rc108 : Int32 → Sg → Option Sg) (k1 : Int32) (k2 : Int64) (x1 : Int64) (x3 : Int32) (x4 : Int32) (x5 : Int32) (st : Sg) : Option Sg :=
  cix k1 13 <|
  nm (sJ st 20 k1.toNatClampNeg k2) fun st2 =>
  nm (x5 + 1) fun v3 =>
  rc108 v3 st2
def X8_findBoy_157  (rc42 : Int64 → Int32 → Sg → Option Sg) (rc49 : Int32 → Sg → Option Sg) (x1 : Int64) (x3 : Int32) (x4 : Int32) (st : Sg) : Option Sg :=
  nm (x4 + 1) fun v1 =>
  rc49 v1 st
def X8_findBoy_108b  (rc42 : Int64 → Int32 → Sg → Option Sg) (rc49 : Int32 → Sg → Option Sg) (rc108 : Int32 → Sg → Option Sg) (x1 : Int64) (x3 : Int32) (x4 : Int32) (x5 : Int32) (st : Sg) : Option Sg :=
  if (12 : Int32) < x5 then
    X8_findBoy_157 rc42 rc49 x1 x3 x4 st
  else
    bnd1 (X8_askedAt x3 x5 st) fun v3 =>
    if v3 = x4 then
      cix x5 13 <|
      X8_findBoy_150 rc42 rc49 rc108 x5 (st.2 7 x5.toNatClampNeg) x1 x3 x4 x5 st
    else
      cix x5 13 <|
      X8_findBoy_150 rc42 rc49 rc108 x5 (st.2 20 x5.toNatClampNeg) x1 x3 x4 x5 st
def X8_findBoy_108  (rc42 : Int64 → Int32 → Sg → Option Sg) (rc49 : Int32 → Sg → Option Sg) (x1 : Int64) (x3 : Int32) (x4 : Int32) : Nat → Int32 → Sg → Option Sg
  | 0, _, _ => none
  | k + 1, x5, st => X8_findBoy_108b  rc42 rc49 (X8_findBoy_108 rc42 rc49 x1 x3 x4 k) x1 x3 x4 x5 st
def X8_findBoy_93  (rc42 : Int64 → Int32 → Sg → Option Sg) (rc49 : Int32 → Sg → Option Sg) (x1 : Int64) (x3 : Int32) (x4 : Int32) (st : Sg) : Option Sg :=
  cix x4 5 <|
  bnd1 (X8_dayAt x3 (st.1 1 x4.toNatClampNeg) st) fun st3 =>
  X8_findBoy_108 rc42 rc49 x1 x3 x4 FU 0 st3
def X8_findBoy_66b  (rc42 : Int64 → Int32 → Sg → Option Sg) (rc49 : Int32 → Sg → Option Sg) (rc66 : Int32 → Sg → Option Sg) (x1 : Int64) (x3 : Int32) (x4 : Int32) (x5 : Int32) (st : Sg) : Option Sg :=
  if (12 : Int32) < x5 then
    X8_findBoy_93 rc42 rc49 x1 x3 x4 st
  else
    cix x5 13 <|
    cix x5 13 <|
    nm (sJ st 7 x5.toNatClampNeg (st.2 19 x5.toNatClampNeg)) fun st4 =>
    nm (x5 + 1) fun v5 =>
    rc66 v5 st4
def X8_findBoy_66  (rc42 : Int64 → Int32 → Sg → Option Sg) (rc49 : Int32 → Sg → Option Sg) (x1 : Int64) (x3 : Int32) (x4 : Int32) : Nat → Int32 → Sg → Option Sg
  | 0, _, _ => none
  | k + 1, x5, st => X8_findBoy_66b  rc42 rc49 (X8_findBoy_66 rc42 rc49 x1 x3 x4 k) x1 x3 x4 x5 st
def X8_findBoy_193  (rc42 : Int64 → Int32 → Sg → Option Sg) (x3 : Int32) (st : Sg) : Option Sg :=
  nm (st.2 0 12) fun v1 =>
  nm (x3 + (-1)) fun v2 =>
  rc42 v1 v2 st
def X8_findBoy_166b  (rc42 : Int64 → Int32 → Sg → Option Sg) (rc166 : Int32 → Sg → Option Sg) (x3 : Int32) (x4 : Int32) (st : Sg) : Option Sg :=
  if (12 : Int32) < x4 then
    X8_findBoy_193 rc42 x3 st
  else
    cix x4 13 <|
    cix x4 13 <|
    nm (sJ st 19 x4.toNatClampNeg (st.2 20 x4.toNatClampNeg)) fun st4 =>
    nm (x4 + 1) fun v5 =>
    rc166 v5 st4
def X8_findBoy_166  (rc42 : Int64 → Int32 → Sg → Option Sg) (x3 : Int32) : Nat → Int32 → Sg → Option Sg
  | 0, _, _ => none
  | k + 1, x4, st => X8_findBoy_166b  rc42 (X8_findBoy_166 rc42 x3 k) x3 x4 st
def X8_findBoy_163  (rc42 : Int64 → Int32 → Sg → Option Sg) (x3 : Int32) (st : Sg) : Option Sg :=
  X8_findBoy_166 rc42 x3 FU 0 st
def X8_findBoy_49b  (rc42 : Int64 → Int32 → Sg → Option Sg) (rc49 : Int32 → Sg → Option Sg) (x1 : Int64) (x3 : Int32) (x4 : Int32) (st : Sg) : Option Sg :=
  if (st.1 0 4) ≤ x4 then
    X8_findBoy_163 rc42 x3 st
  else
    nm (sJ st 0 12 x1) fun st2 =>
    X8_findBoy_66 rc42 rc49 x1 x3 x4 FU 0 st2
def X8_findBoy_49  (rc42 : Int64 → Int32 → Sg → Option Sg) (x1 : Int64) (x3 : Int32) : Nat → Int32 → Sg → Option Sg
  | 0, _, _ => none
  | k + 1, x4, st => X8_findBoy_49b  rc42 (X8_findBoy_49 rc42 x1 x3 k) x1 x3 x4 st
def X8_findBoy_204    (st : Sg) : Option Sg :=
  some st
def X8_findBoy_42b  (rc42 : Int64 → Int32 → Sg → Option Sg) (x1 : Int64) (x3 : Int32) (st : Sg) : Option Sg :=
  if x3 < (0 : Int32) then
    X8_findBoy_204 st
  else
    X8_findBoy_49 rc42 x1 x3 FU 0 st
def X8_findBoy_42    : Nat → Int64 → Int32 → Sg → Option Sg
  | 0, _, _, _ => none
  | k + 1, x1, x3, st => X8_findBoy_42b   (X8_findBoy_42 k) x1 x3 st
def X8_findBoy_30    (st : Sg) : Option Sg :=
  nm (st.2 0 12) fun v1 =>
  nm ((st.1 0 1) - 1) fun v2 =>
  X8_findBoy_42 FU v1 v2 st
def X8_findBoy_6b  (rc6 : Int32 → Sg → Option Sg) (x1 : Int32) (st : Sg) : Option Sg :=
  if (12 : Int32) < x1 then
    X8_findBoy_30 st
  else
    cix x1 13 <|
    cix x1 13 <|
    nm (sJ st 19 x1.toNatClampNeg (st.2 7 x1.toNatClampNeg)) fun st4 =>
    nm (x1 + 1) fun v5 =>
    rc6 v5 st4
def X8_findBoy_6    : Nat → Int32 → Sg → Option Sg
  | 0, _, _ => none
  | k + 1, x1, st => X8_findBoy_6b   (X8_findBoy_6 k) x1 st
def X8_findBoy    (st : Sg) : Option Sg :=
  bnd1 (X8_beginEnd st) fun st2 =>
  X8_findBoy_6 FU 0 st2
abbrev rm_X8_findBoy : Room := { frames := 2, cells := 0, slots := 0, locals := 47 }
set_option maxHeartbeats 4000000 in
set_option maxRecDepth 100000 in
theorem w_X8_findBoy_150 (X : Cx g p s m args meth c cX8_findBoy 6 RX8 none) {k1 : Int32} {k2 : Int64} {x1 : Int64} {x3 : Int32} {x4 : Int32} {x5 : Int32} {st : Sg} {st9 : Sg} (rc42 : Int64 → Int32 → Sg → Option Sg) (hrc42 : ∀ (x1 : Int64) (x3 : Int32) (st : Sg) (ls : Array Slot) (H : Heap) (locs : List Loc), rc42 x1 x3 st = some st9 → Hp g nwM (ceM g) A s.heap st H locs → lv_has ls 6 [(0, .ref (g.2.1 0)), (1, .long x1), (3, .int x3)] → W p l e rm_X8_findBoy s m args below meth c H locs 0 0 (MQ below (QV g nwM (ceM g) A st9) args s 0 0 A) (F0 m 42 ls [])) (rc49 : Int32 → Sg → Option Sg) (hrc49 : ∀ (x4 : Int32) (st : Sg) (ls : Array Slot) (H : Heap) (locs : List Loc), rc49 x4 st = some st9 → Hp g nwM (ceM g) A s.heap st H locs → lv_has ls 6 [(0, .ref (g.2.1 0)), (1, .long x1), (3, .int x3), (4, .int x4)] → W p l e rm_X8_findBoy s m args below meth c H locs 0 0 (MQ below (QV g nwM (ceM g) A st9) args s 0 0 A) (F0 m 49 ls [])) (rc108 : Int32 → Sg → Option Sg) (hrc108 : ∀ (x5 : Int32) (st : Sg) (ls : Array Slot) (H : Heap) (locs : List Loc), rc108 x5 st = some st9 → Hp g nwM (ceM g) A s.heap st H locs → lv_has ls 6 [(0, .ref (g.2.1 0)), (1, .long x1), (3, .int x3), (4, .int x4), (5, .int x5)] → W p l e rm_X8_findBoy s m args below meth c H locs 0 0 (MQ below (QV g nwM (ceM g) A st9) args s 0 0 A) (F0 m 108 ls [])) (h : X8_findBoy_150 rc42 rc49 rc108 k1 k2 x1 x3 x4 x5 st = some st9) (Y : Hp g nwM (ceM g) A s.heap st H locs)  (hl : lv_has ls 6 [(0, .ref (g.2.1 0)), (1, .long x1), (3, .int x3), (4, .int x4), (5, .int x5)]) : W p l e rm_X8_findBoy s m args below meth c H locs 0 0 (MQ below (QV g nwM (ceM g) A st9) args s 0 0 A) (F0 m 150 ls [.long k2, .int k1, .ref (g.2.1 20)]) := by
  have hx := X.1
  have hb := X.2.1
  unfold X8_findBoy_150 at h
  obtain ⟨i1, h⟩ := cix_s h
  refine k_last X Y 20 (Nat.le_of_ble_eq_true rfl) (fun _ _ => rfl) i1 dX8_findBoy_150 (fun H locs Y => ?_)
  obtain ⟨st2, est2, h⟩ := nm_s h
  have Y : Hp g nwM (ceM g) A s.heap st2 H locs := by rw [est2]; exact Y
  obtain ⟨v3, ev3, h⟩ := nm_s h
  refine lv_iinc (v := v3) (lv' := [(5, .int v3), (0, .ref (g.2.1 0)), (1, .long x1), (3, .int x3), (4, .int x4)]) hx hb dX8_findBoy_151 hl (k := 4) rfl (by rw [ev3]; rfl) (by decide) rfl (fun ls hl => ?_)
  refine lv_goto (tgt := 108) hx hb dX8_findBoy_154 (by decide) ?_
  exact hrc108 v3 st2 _ _ _ h Y (lv_sub hl [1, 2, 3, 4, 0] rfl)
set_option maxHeartbeats 4000000 in
set_option maxRecDepth 100000 in
theorem w_X8_findBoy_157 (X : Cx g p s m args meth c cX8_findBoy 6 RX8 none) {x1 : Int64} {x3 : Int32} {x4 : Int32} {st : Sg} {st9 : Sg} (rc42 : Int64 → Int32 → Sg → Option Sg) (hrc42 : ∀ (x1 : Int64) (x3 : Int32) (st : Sg) (ls : Array Slot) (H : Heap) (locs : List Loc), rc42 x1 x3 st = some st9 → Hp g nwM (ceM g) A s.heap st H locs → lv_has ls 6 [(0, .ref (g.2.1 0)), (1, .long x1), (3, .int x3)] → W p l e rm_X8_findBoy s m args below meth c H locs 0 0 (MQ below (QV g nwM (ceM g) A st9) args s 0 0 A) (F0 m 42 ls [])) (rc49 : Int32 → Sg → Option Sg) (hrc49 : ∀ (x4 : Int32) (st : Sg) (ls : Array Slot) (H : Heap) (locs : List Loc), rc49 x4 st = some st9 → Hp g nwM (ceM g) A s.heap st H locs → lv_has ls 6 [(0, .ref (g.2.1 0)), (1, .long x1), (3, .int x3), (4, .int x4)] → W p l e rm_X8_findBoy s m args below meth c H locs 0 0 (MQ below (QV g nwM (ceM g) A st9) args s 0 0 A) (F0 m 49 ls [])) (h : X8_findBoy_157 rc42 rc49 x1 x3 x4 st = some st9) (Y : Hp g nwM (ceM g) A s.heap st H locs)  (hl : lv_has ls 6 [(0, .ref (g.2.1 0)), (1, .long x1), (3, .int x3), (4, .int x4)]) : W p l e rm_X8_findBoy s m args below meth c H locs 0 0 (MQ below (QV g nwM (ceM g) A st9) args s 0 0 A) (F0 m 157 ls []) := by
  have hx := X.1
  have hb := X.2.1
  unfold X8_findBoy_157 at h
  obtain ⟨v1, ev1, h⟩ := nm_s h
  refine lv_iinc (v := v1) (lv' := [(4, .int v1), (0, .ref (g.2.1 0)), (1, .long x1), (3, .int x3)]) hx hb dX8_findBoy_157 hl (k := 3) rfl (by rw [ev1]; rfl) (by decide) rfl (fun ls hl => ?_)
  refine lv_goto (tgt := 49) hx hb dX8_findBoy_160 (by decide) ?_
  exact hrc49 v1 st _ _ _ h Y (lv_sub hl [1, 2, 3, 0] rfl)
set_option maxHeartbeats 4000000 in
set_option maxRecDepth 100000 in
theorem w_X8_findBoy_108b (X : Cx g p s m args meth c cX8_findBoy 6 RX8 none) {x1 : Int64} {x3 : Int32} {x4 : Int32} {x5 : Int32} {st : Sg} {st9 : Sg} (rc42 : Int64 → Int32 → Sg → Option Sg) (hrc42 : ∀ (x1 : Int64) (x3 : Int32) (st : Sg) (ls : Array Slot) (H : Heap) (locs : List Loc), rc42 x1 x3 st = some st9 → Hp g nwM (ceM g) A s.heap st H locs → lv_has ls 6 [(0, .ref (g.2.1 0)), (1, .long x1), (3, .int x3)] → W p l e rm_X8_findBoy s m args below meth c H locs 0 0 (MQ below (QV g nwM (ceM g) A st9) args s 0 0 A) (F0 m 42 ls [])) (rc49 : Int32 → Sg → Option Sg) (hrc49 : ∀ (x4 : Int32) (st : Sg) (ls : Array Slot) (H : Heap) (locs : List Loc), rc49 x4 st = some st9 → Hp g nwM (ceM g) A s.heap st H locs → lv_has ls 6 [(0, .ref (g.2.1 0)), (1, .long x1), (3, .int x3), (4, .int x4)] → W p l e rm_X8_findBoy s m args below meth c H locs 0 0 (MQ below (QV g nwM (ceM g) A st9) args s 0 0 A) (F0 m 49 ls [])) (rc108 : Int32 → Sg → Option Sg) (hrc108 : ∀ (x5 : Int32) (st : Sg) (ls : Array Slot) (H : Heap) (locs : List Loc), rc108 x5 st = some st9 → Hp g nwM (ceM g) A s.heap st H locs → lv_has ls 6 [(0, .ref (g.2.1 0)), (1, .long x1), (3, .int x3), (4, .int x4), (5, .int x5)] → W p l e rm_X8_findBoy s m args below meth c H locs 0 0 (MQ below (QV g nwM (ceM g) A st9) args s 0 0 A) (F0 m 108 ls [])) (h : X8_findBoy_108b rc42 rc49 rc108 x1 x3 x4 x5 st = some st9) (Y : Hp g nwM (ceM g) A s.heap st H locs)  (hl : lv_has ls 6 [(0, .ref (g.2.1 0)), (1, .long x1), (3, .int x3), (4, .int x4), (5, .int x5)]) : W p l e rm_X8_findBoy s m args below meth c H locs 0 0 (MQ below (QV g nwM (ceM g) A st9) args s 0 0 A) (F0 m 108 ls []) := by
  have hx := X.1
  have hb := X.2.1
  unfold X8_findBoy_108b at h
  refine lv_iload hx hb dX8_findBoy_108 (lv_at hl 4 rfl) ?_
  refine lv_bipush (v := 12) hx hb dX8_findBoy_110 (by decide) ?_
  refine lv_icmp_gt (tgt := 157) hx hb dX8_findBoy_112 (by decide) (fun c1 => ?_) (fun c1 => ?_)
  · have h := ite_t h c1
    exact w_X8_findBoy_157 X rc42 hrc42 rc49 hrc49 h Y  (lv_sub hl [0, 1, 2, 3] rfl)
  · have h := ite_f h c1
    refine lv_aload_n hx hb dX8_findBoy_115 rfl (lv_at hl 0 rfl) ?_
    refine k_get (v := .ref (g.2.1 20)) X Y fl_8_72 0 (Nat.le_of_ble_eq_true rfl) rfl rfl dX8_findBoy_116 ?_
    refine lv_iload hx hb dX8_findBoy_119 (lv_at hl 4 rfl) ?_
    refine lv_aload_n hx hb dX8_findBoy_121 rfl (lv_at hl 0 rfl) ?_
    refine lv_iload_n hx hb dX8_findBoy_122 rfl (lv_at hl 2 rfl) ?_
    refine lv_iload hx hb dX8_findBoy_123 (lv_at hl 4 rfl) ?_
    obtain ⟨v3, hc2, h⟩ := bnd1_s h
    refine k_cI Y (k_runV (As := [.int x3, .int x5]) (rest := [.int x5, .ref (g.2.1 20)]) (o := 0) X Y cl_8_210 (c_X8_askedAt l hc2 _) ⟨rfl, rfl, Nat.le_of_ble_eq_true rfl, Nat.le_of_ble_eq_true rfl⟩ (Nat.le_of_ble_eq_true rfl) rfl rfl hl.1 rfl (Nat.le_of_ble_eq_true rfl) dX8_findBoy_125 ⟨Nat.zero_le _, Nat.zero_le _⟩) (fun H locs Y => ?_)
    refine lv_iload hx hb dX8_findBoy_128 (lv_at hl 3 rfl) ?_
    refine lv_icmp_ne (tgt := 143) hx hb dX8_findBoy_130 (by decide) (fun c4 => ?_) (fun c4 => ?_)
    · have h := ite_f h c4
      refine lv_aload_n hx hb dX8_findBoy_143 rfl (lv_at hl 0 rfl) ?_
      refine k_get (v := .ref (g.2.1 20)) X Y fl_8_72 0 (Nat.le_of_ble_eq_true rfl) rfl rfl dX8_findBoy_144 ?_
      refine lv_iload hx hb dX8_findBoy_147 (lv_at hl 4 rfl) ?_
      obtain ⟨i5, h⟩ := cix_s h
      refine k_lald X Y 20 (Nat.le_of_ble_eq_true rfl) (fun _ _ => rfl) i5 dX8_findBoy_149 ?_
      exact w_X8_findBoy_150 X rc42 hrc42 rc49 hrc49 rc108 hrc108 h Y  (lv_sub hl [0, 1, 2, 3, 4] rfl)
    · have h := ite_t h c4
      refine lv_aload_n hx hb dX8_findBoy_133 rfl (lv_at hl 0 rfl) ?_
      refine k_get (v := .ref (g.2.1 7)) X Y fl_8_28 0 (Nat.le_of_ble_eq_true rfl) rfl rfl dX8_findBoy_134 ?_
      refine lv_iload hx hb dX8_findBoy_137 (lv_at hl 4 rfl) ?_
      obtain ⟨i6, h⟩ := cix_s h
      refine k_lald X Y 7 (Nat.le_of_ble_eq_true rfl) (fun _ _ => rfl) i6 dX8_findBoy_139 ?_
      refine lv_goto (tgt := 150) hx hb dX8_findBoy_140 (by decide) ?_
      exact w_X8_findBoy_150 X rc42 hrc42 rc49 hrc49 rc108 hrc108 h Y  (lv_sub hl [0, 1, 2, 3, 4] rfl)
theorem w_X8_findBoy_108 (X : Cx g p s m args meth c cX8_findBoy 6 RX8 none) {x1 : Int64} {x3 : Int32} {x4 : Int32}  {st9 : Sg} (rc42 : Int64 → Int32 → Sg → Option Sg) (hrc42 : ∀ (x1 : Int64) (x3 : Int32) (st : Sg) (ls : Array Slot) (H : Heap) (locs : List Loc), rc42 x1 x3 st = some st9 → Hp g nwM (ceM g) A s.heap st H locs → lv_has ls 6 [(0, .ref (g.2.1 0)), (1, .long x1), (3, .int x3)] → W p l e rm_X8_findBoy s m args below meth c H locs 0 0 (MQ below (QV g nwM (ceM g) A st9) args s 0 0 A) (F0 m 42 ls [])) (rc49 : Int32 → Sg → Option Sg) (hrc49 : ∀ (x4 : Int32) (st : Sg) (ls : Array Slot) (H : Heap) (locs : List Loc), rc49 x4 st = some st9 → Hp g nwM (ceM g) A s.heap st H locs → lv_has ls 6 [(0, .ref (g.2.1 0)), (1, .long x1), (3, .int x3), (4, .int x4)] → W p l e rm_X8_findBoy s m args below meth c H locs 0 0 (MQ below (QV g nwM (ceM g) A st9) args s 0 0 A) (F0 m 49 ls []))  : ∀ (k : Nat) (x5 : Int32) (st : Sg) (ls : Array Slot) (H : Heap) (locs : List Loc), X8_findBoy_108 rc42 rc49 x1 x3 x4 k x5 st = some st9 → Hp g nwM (ceM g) A s.heap st H locs → lv_has ls 6 [(0, .ref (g.2.1 0)), (1, .long x1), (3, .int x3), (4, .int x4), (5, .int x5)] → W p l e rm_X8_findBoy s m args below meth c H locs 0 0 (MQ below (QV g nwM (ceM g) A st9) args s 0 0 A) (F0 m 108 ls []) := by
  intro k
  induction k with
  | zero =>
    intro x5 st ls H locs h
    exact none_s h
  | succ k ih =>
    intro x5 st ls H locs h Y hl
    exact w_X8_findBoy_108b X rc42 hrc42 rc49 hrc49 (X8_findBoy_108 rc42 rc49 x1 x3 x4 k) ih h Y  hl
set_option maxHeartbeats 4000000 in
set_option maxRecDepth 100000 in
theorem w_X8_findBoy_93 (X : Cx g p s m args meth c cX8_findBoy 6 RX8 none) {x1 : Int64} {x3 : Int32} {x4 : Int32} {st : Sg} {st9 : Sg} (rc42 : Int64 → Int32 → Sg → Option Sg) (hrc42 : ∀ (x1 : Int64) (x3 : Int32) (st : Sg) (ls : Array Slot) (H : Heap) (locs : List Loc), rc42 x1 x3 st = some st9 → Hp g nwM (ceM g) A s.heap st H locs → lv_has ls 6 [(0, .ref (g.2.1 0)), (1, .long x1), (3, .int x3)] → W p l e rm_X8_findBoy s m args below meth c H locs 0 0 (MQ below (QV g nwM (ceM g) A st9) args s 0 0 A) (F0 m 42 ls [])) (rc49 : Int32 → Sg → Option Sg) (hrc49 : ∀ (x4 : Int32) (st : Sg) (ls : Array Slot) (H : Heap) (locs : List Loc), rc49 x4 st = some st9 → Hp g nwM (ceM g) A s.heap st H locs → lv_has ls 6 [(0, .ref (g.2.1 0)), (1, .long x1), (3, .int x3), (4, .int x4)] → W p l e rm_X8_findBoy s m args below meth c H locs 0 0 (MQ below (QV g nwM (ceM g) A st9) args s 0 0 A) (F0 m 49 ls [])) (h : X8_findBoy_93 rc42 rc49 x1 x3 x4 st = some st9) (Y : Hp g nwM (ceM g) A s.heap st H locs)  (hl : lv_has ls 6 [(0, .ref (g.2.1 0)), (1, .long x1), (3, .int x3), (4, .int x4)]) : W p l e rm_X8_findBoy s m args below meth c H locs 0 0 (MQ below (QV g nwM (ceM g) A st9) args s 0 0 A) (F0 m 93 ls []) := by
  have hx := X.1
  have hb := X.2.1
  unfold X8_findBoy_93 at h
  refine lv_aload_n hx hb dX8_findBoy_93 rfl (lv_at hl 0 rfl) ?_
  refine lv_iload_n hx hb dX8_findBoy_94 rfl (lv_at hl 2 rfl) ?_
  refine lv_aload_n hx hb dX8_findBoy_95 rfl (lv_at hl 0 rfl) ?_
  refine k_get (v := .ref (g.2.1 1)) X Y fl_8_7 0 (Nat.le_of_ble_eq_true rfl) rfl rfl dX8_findBoy_96 ?_
  refine lv_iload hx hb dX8_findBoy_99 (lv_at hl 3 rfl) ?_
  obtain ⟨i1, h⟩ := cix_s h
  refine k_iald X Y 1 (Nat.le_of_ble_eq_true rfl) (fun _ _ => rfl) i1 dX8_findBoy_101 ?_
  obtain ⟨st3, hc2, h⟩ := bnd1_s h
  refine k_cV Y (k_runV (As := [.int x3, .int (st.1 1 x4.toNatClampNeg)]) (rest := []) (o := 0) X Y cl_8_135 (c_X8_dayAt l hc2 _) ⟨rfl, rfl, Nat.le_of_ble_eq_true rfl, Nat.le_of_ble_eq_true rfl⟩ (Nat.le_of_ble_eq_true rfl) rfl rfl hl.1 rfl (Nat.le_of_ble_eq_true rfl) dX8_findBoy_102 ⟨Nat.zero_le _, Nat.zero_le _⟩) (fun H locs Y => ?_)
  refine lv_iconst (v := 0) hx hb dX8_findBoy_105 (by decide) ?_
  refine lv_istore (lv' := [(5, .int 0), (0, .ref (g.2.1 0)), (1, .long x1), (3, .int x3), (4, .int x4)]) hx hb dX8_findBoy_106 hl (by decide) rfl (fun ls hl => ?_)
  exact w_X8_findBoy_108 X rc42 hrc42 rc49 hrc49  FU 0 st3 _ _ _ h Y (lv_sub hl [1, 2, 3, 4, 0] rfl)
set_option maxHeartbeats 4000000 in
set_option maxRecDepth 100000 in
theorem w_X8_findBoy_66b (X : Cx g p s m args meth c cX8_findBoy 6 RX8 none) {x1 : Int64} {x3 : Int32} {x4 : Int32} {x5 : Int32} {st : Sg} {st9 : Sg} (rc42 : Int64 → Int32 → Sg → Option Sg) (hrc42 : ∀ (x1 : Int64) (x3 : Int32) (st : Sg) (ls : Array Slot) (H : Heap) (locs : List Loc), rc42 x1 x3 st = some st9 → Hp g nwM (ceM g) A s.heap st H locs → lv_has ls 6 [(0, .ref (g.2.1 0)), (1, .long x1), (3, .int x3)] → W p l e rm_X8_findBoy s m args below meth c H locs 0 0 (MQ below (QV g nwM (ceM g) A st9) args s 0 0 A) (F0 m 42 ls [])) (rc49 : Int32 → Sg → Option Sg) (hrc49 : ∀ (x4 : Int32) (st : Sg) (ls : Array Slot) (H : Heap) (locs : List Loc), rc49 x4 st = some st9 → Hp g nwM (ceM g) A s.heap st H locs → lv_has ls 6 [(0, .ref (g.2.1 0)), (1, .long x1), (3, .int x3), (4, .int x4)] → W p l e rm_X8_findBoy s m args below meth c H locs 0 0 (MQ below (QV g nwM (ceM g) A st9) args s 0 0 A) (F0 m 49 ls [])) (rc66 : Int32 → Sg → Option Sg) (hrc66 : ∀ (x5 : Int32) (st : Sg) (ls : Array Slot) (H : Heap) (locs : List Loc), rc66 x5 st = some st9 → Hp g nwM (ceM g) A s.heap st H locs → lv_has ls 6 [(0, .ref (g.2.1 0)), (1, .long x1), (3, .int x3), (4, .int x4), (5, .int x5)] → W p l e rm_X8_findBoy s m args below meth c H locs 0 0 (MQ below (QV g nwM (ceM g) A st9) args s 0 0 A) (F0 m 66 ls [])) (h : X8_findBoy_66b rc42 rc49 rc66 x1 x3 x4 x5 st = some st9) (Y : Hp g nwM (ceM g) A s.heap st H locs)  (hl : lv_has ls 6 [(0, .ref (g.2.1 0)), (1, .long x1), (3, .int x3), (4, .int x4), (5, .int x5)]) : W p l e rm_X8_findBoy s m args below meth c H locs 0 0 (MQ below (QV g nwM (ceM g) A st9) args s 0 0 A) (F0 m 66 ls []) := by
  have hx := X.1
  have hb := X.2.1
  unfold X8_findBoy_66b at h
  refine lv_iload hx hb dX8_findBoy_66 (lv_at hl 4 rfl) ?_
  refine lv_bipush (v := 12) hx hb dX8_findBoy_68 (by decide) ?_
  refine lv_icmp_gt (tgt := 93) hx hb dX8_findBoy_70 (by decide) (fun c1 => ?_) (fun c1 => ?_)
  · have h := ite_t h c1
    exact w_X8_findBoy_93 X rc42 hrc42 rc49 hrc49 h Y  (lv_sub hl [0, 1, 2, 3] rfl)
  · have h := ite_f h c1
    refine lv_aload_n hx hb dX8_findBoy_73 rfl (lv_at hl 0 rfl) ?_
    refine k_get (v := .ref (g.2.1 7)) X Y fl_8_28 0 (Nat.le_of_ble_eq_true rfl) rfl rfl dX8_findBoy_74 ?_
    refine lv_iload hx hb dX8_findBoy_77 (lv_at hl 4 rfl) ?_
    refine lv_aload_n hx hb dX8_findBoy_79 rfl (lv_at hl 0 rfl) ?_
    refine k_get (v := .ref (g.2.1 19)) X Y fl_8_69 0 (Nat.le_of_ble_eq_true rfl) rfl rfl dX8_findBoy_80 ?_
    refine lv_iload hx hb dX8_findBoy_83 (lv_at hl 4 rfl) ?_
    obtain ⟨i2, h⟩ := cix_s h
    refine k_lald X Y 19 (Nat.le_of_ble_eq_true rfl) (fun _ _ => rfl) i2 dX8_findBoy_85 ?_
    obtain ⟨i3, h⟩ := cix_s h
    refine k_last X Y 7 (Nat.le_of_ble_eq_true rfl) (fun _ _ => rfl) i3 dX8_findBoy_86 (fun H locs Y => ?_)
    obtain ⟨st4, est4, h⟩ := nm_s h
    have Y : Hp g nwM (ceM g) A s.heap st4 H locs := by rw [est4]; exact Y
    obtain ⟨v5, ev5, h⟩ := nm_s h
    refine lv_iinc (v := v5) (lv' := [(5, .int v5), (0, .ref (g.2.1 0)), (1, .long x1), (3, .int x3), (4, .int x4)]) hx hb dX8_findBoy_87 hl (k := 4) rfl (by rw [ev5]; rfl) (by decide) rfl (fun ls hl => ?_)
    refine lv_goto (tgt := 66) hx hb dX8_findBoy_90 (by decide) ?_
    exact hrc66 v5 st4 _ _ _ h Y (lv_sub hl [1, 2, 3, 4, 0] rfl)
theorem w_X8_findBoy_66 (X : Cx g p s m args meth c cX8_findBoy 6 RX8 none) {x1 : Int64} {x3 : Int32} {x4 : Int32}  {st9 : Sg} (rc42 : Int64 → Int32 → Sg → Option Sg) (hrc42 : ∀ (x1 : Int64) (x3 : Int32) (st : Sg) (ls : Array Slot) (H : Heap) (locs : List Loc), rc42 x1 x3 st = some st9 → Hp g nwM (ceM g) A s.heap st H locs → lv_has ls 6 [(0, .ref (g.2.1 0)), (1, .long x1), (3, .int x3)] → W p l e rm_X8_findBoy s m args below meth c H locs 0 0 (MQ below (QV g nwM (ceM g) A st9) args s 0 0 A) (F0 m 42 ls [])) (rc49 : Int32 → Sg → Option Sg) (hrc49 : ∀ (x4 : Int32) (st : Sg) (ls : Array Slot) (H : Heap) (locs : List Loc), rc49 x4 st = some st9 → Hp g nwM (ceM g) A s.heap st H locs → lv_has ls 6 [(0, .ref (g.2.1 0)), (1, .long x1), (3, .int x3), (4, .int x4)] → W p l e rm_X8_findBoy s m args below meth c H locs 0 0 (MQ below (QV g nwM (ceM g) A st9) args s 0 0 A) (F0 m 49 ls []))  : ∀ (k : Nat) (x5 : Int32) (st : Sg) (ls : Array Slot) (H : Heap) (locs : List Loc), X8_findBoy_66 rc42 rc49 x1 x3 x4 k x5 st = some st9 → Hp g nwM (ceM g) A s.heap st H locs → lv_has ls 6 [(0, .ref (g.2.1 0)), (1, .long x1), (3, .int x3), (4, .int x4), (5, .int x5)] → W p l e rm_X8_findBoy s m args below meth c H locs 0 0 (MQ below (QV g nwM (ceM g) A st9) args s 0 0 A) (F0 m 66 ls []) := by
  intro k
  induction k with
  | zero =>
    intro x5 st ls H locs h
    exact none_s h
  | succ k ih =>
    intro x5 st ls H locs h Y hl
    exact w_X8_findBoy_66b X rc42 hrc42 rc49 hrc49 (X8_findBoy_66 rc42 rc49 x1 x3 x4 k) ih h Y  hl
set_option maxHeartbeats 4000000 in
set_option maxRecDepth 100000 in
theorem w_X8_findBoy_193 (X : Cx g p s m args meth c cX8_findBoy 6 RX8 none) {x3 : Int32} {st : Sg} {st9 : Sg} (rc42 : Int64 → Int32 → Sg → Option Sg) (hrc42 : ∀ (x1 : Int64) (x3 : Int32) (st : Sg) (ls : Array Slot) (H : Heap) (locs : List Loc), rc42 x1 x3 st = some st9 → Hp g nwM (ceM g) A s.heap st H locs → lv_has ls 6 [(0, .ref (g.2.1 0)), (1, .long x1), (3, .int x3)] → W p l e rm_X8_findBoy s m args below meth c H locs 0 0 (MQ below (QV g nwM (ceM g) A st9) args s 0 0 A) (F0 m 42 ls [])) (h : X8_findBoy_193 rc42 x3 st = some st9) (Y : Hp g nwM (ceM g) A s.heap st H locs)  (hl : lv_has ls 6 [(0, .ref (g.2.1 0)), (3, .int x3)]) : W p l e rm_X8_findBoy s m args below meth c H locs 0 0 (MQ below (QV g nwM (ceM g) A st9) args s 0 0 A) (F0 m 193 ls []) := by
  have hx := X.1
  have hb := X.2.1
  unfold X8_findBoy_193 at h
  refine lv_aload_n hx hb dX8_findBoy_193 rfl (lv_at hl 0 rfl) ?_
  refine k_get (v := .long (st.2 0 12)) X Y fl_8_120 0 (Nat.le_of_ble_eq_true rfl) rfl rfl dX8_findBoy_194 ?_
  obtain ⟨v1, ev1, h⟩ := nm_s h
  refine k_nmJ ev1 ?_
  refine lv_lstore_n (lv' := [(1, .long v1), (0, .ref (g.2.1 0)), (3, .int x3)]) hx hb dX8_findBoy_197 rfl hl (by decide) rfl (fun ls hl => ?_)
  obtain ⟨v2, ev2, h⟩ := nm_s h
  refine lv_iinc (v := v2) (lv' := [(3, .int v2), (1, .long v1), (0, .ref (g.2.1 0))]) hx hb dX8_findBoy_198 hl (k := 2) rfl (by rw [ev2]; rfl) (by decide) rfl (fun ls hl => ?_)
  refine lv_goto (tgt := 42) hx hb dX8_findBoy_201 (by decide) ?_
  exact hrc42 v1 v2 st _ _ _ h Y (lv_sub hl [2, 1, 0] rfl)
set_option maxHeartbeats 4000000 in
set_option maxRecDepth 100000 in
theorem w_X8_findBoy_166b (X : Cx g p s m args meth c cX8_findBoy 6 RX8 none) {x3 : Int32} {x4 : Int32} {st : Sg} {st9 : Sg} (rc42 : Int64 → Int32 → Sg → Option Sg) (hrc42 : ∀ (x1 : Int64) (x3 : Int32) (st : Sg) (ls : Array Slot) (H : Heap) (locs : List Loc), rc42 x1 x3 st = some st9 → Hp g nwM (ceM g) A s.heap st H locs → lv_has ls 6 [(0, .ref (g.2.1 0)), (1, .long x1), (3, .int x3)] → W p l e rm_X8_findBoy s m args below meth c H locs 0 0 (MQ below (QV g nwM (ceM g) A st9) args s 0 0 A) (F0 m 42 ls [])) (rc166 : Int32 → Sg → Option Sg) (hrc166 : ∀ (x4 : Int32) (st : Sg) (ls : Array Slot) (H : Heap) (locs : List Loc), rc166 x4 st = some st9 → Hp g nwM (ceM g) A s.heap st H locs → lv_has ls 6 [(0, .ref (g.2.1 0)), (3, .int x3), (4, .int x4)] → W p l e rm_X8_findBoy s m args below meth c H locs 0 0 (MQ below (QV g nwM (ceM g) A st9) args s 0 0 A) (F0 m 166 ls [])) (h : X8_findBoy_166b rc42 rc166 x3 x4 st = some st9) (Y : Hp g nwM (ceM g) A s.heap st H locs)  (hl : lv_has ls 6 [(0, .ref (g.2.1 0)), (3, .int x3), (4, .int x4)]) : W p l e rm_X8_findBoy s m args below meth c H locs 0 0 (MQ below (QV g nwM (ceM g) A st9) args s 0 0 A) (F0 m 166 ls []) := by
  have hx := X.1
  have hb := X.2.1
  unfold X8_findBoy_166b at h
  refine lv_iload hx hb dX8_findBoy_166 (lv_at hl 2 rfl) ?_
  refine lv_bipush (v := 12) hx hb dX8_findBoy_168 (by decide) ?_
  refine lv_icmp_gt (tgt := 193) hx hb dX8_findBoy_170 (by decide) (fun c1 => ?_) (fun c1 => ?_)
  · have h := ite_t h c1
    exact w_X8_findBoy_193 X rc42 hrc42 h Y  (lv_sub hl [0, 1] rfl)
  · have h := ite_f h c1
    refine lv_aload_n hx hb dX8_findBoy_173 rfl (lv_at hl 0 rfl) ?_
    refine k_get (v := .ref (g.2.1 19)) X Y fl_8_69 0 (Nat.le_of_ble_eq_true rfl) rfl rfl dX8_findBoy_174 ?_
    refine lv_iload hx hb dX8_findBoy_177 (lv_at hl 2 rfl) ?_
    refine lv_aload_n hx hb dX8_findBoy_179 rfl (lv_at hl 0 rfl) ?_
    refine k_get (v := .ref (g.2.1 20)) X Y fl_8_72 0 (Nat.le_of_ble_eq_true rfl) rfl rfl dX8_findBoy_180 ?_
    refine lv_iload hx hb dX8_findBoy_183 (lv_at hl 2 rfl) ?_
    obtain ⟨i2, h⟩ := cix_s h
    refine k_lald X Y 20 (Nat.le_of_ble_eq_true rfl) (fun _ _ => rfl) i2 dX8_findBoy_185 ?_
    obtain ⟨i3, h⟩ := cix_s h
    refine k_last X Y 19 (Nat.le_of_ble_eq_true rfl) (fun _ _ => rfl) i3 dX8_findBoy_186 (fun H locs Y => ?_)
    obtain ⟨st4, est4, h⟩ := nm_s h
    have Y : Hp g nwM (ceM g) A s.heap st4 H locs := by rw [est4]; exact Y
    obtain ⟨v5, ev5, h⟩ := nm_s h
    refine lv_iinc (v := v5) (lv' := [(4, .int v5), (0, .ref (g.2.1 0)), (3, .int x3)]) hx hb dX8_findBoy_187 hl (k := 2) rfl (by rw [ev5]; rfl) (by decide) rfl (fun ls hl => ?_)
    refine lv_goto (tgt := 166) hx hb dX8_findBoy_190 (by decide) ?_
    exact hrc166 v5 st4 _ _ _ h Y (lv_sub hl [1, 2, 0] rfl)
theorem w_X8_findBoy_166 (X : Cx g p s m args meth c cX8_findBoy 6 RX8 none) {x3 : Int32}  {st9 : Sg} (rc42 : Int64 → Int32 → Sg → Option Sg) (hrc42 : ∀ (x1 : Int64) (x3 : Int32) (st : Sg) (ls : Array Slot) (H : Heap) (locs : List Loc), rc42 x1 x3 st = some st9 → Hp g nwM (ceM g) A s.heap st H locs → lv_has ls 6 [(0, .ref (g.2.1 0)), (1, .long x1), (3, .int x3)] → W p l e rm_X8_findBoy s m args below meth c H locs 0 0 (MQ below (QV g nwM (ceM g) A st9) args s 0 0 A) (F0 m 42 ls []))  : ∀ (k : Nat) (x4 : Int32) (st : Sg) (ls : Array Slot) (H : Heap) (locs : List Loc), X8_findBoy_166 rc42 x3 k x4 st = some st9 → Hp g nwM (ceM g) A s.heap st H locs → lv_has ls 6 [(0, .ref (g.2.1 0)), (3, .int x3), (4, .int x4)] → W p l e rm_X8_findBoy s m args below meth c H locs 0 0 (MQ below (QV g nwM (ceM g) A st9) args s 0 0 A) (F0 m 166 ls []) := by
  intro k
  induction k with
  | zero =>
    intro x4 st ls H locs h
    exact none_s h
  | succ k ih =>
    intro x4 st ls H locs h Y hl
    exact w_X8_findBoy_166b X rc42 hrc42 (X8_findBoy_166 rc42 x3 k) ih h Y  hl
set_option maxHeartbeats 4000000 in
set_option maxRecDepth 100000 in
theorem w_X8_findBoy_163 (X : Cx g p s m args meth c cX8_findBoy 6 RX8 none) {x3 : Int32} {st : Sg} {st9 : Sg} (rc42 : Int64 → Int32 → Sg → Option Sg) (hrc42 : ∀ (x1 : Int64) (x3 : Int32) (st : Sg) (ls : Array Slot) (H : Heap) (locs : List Loc), rc42 x1 x3 st = some st9 → Hp g nwM (ceM g) A s.heap st H locs → lv_has ls 6 [(0, .ref (g.2.1 0)), (1, .long x1), (3, .int x3)] → W p l e rm_X8_findBoy s m args below meth c H locs 0 0 (MQ below (QV g nwM (ceM g) A st9) args s 0 0 A) (F0 m 42 ls [])) (h : X8_findBoy_163 rc42 x3 st = some st9) (Y : Hp g nwM (ceM g) A s.heap st H locs)  (hl : lv_has ls 6 [(0, .ref (g.2.1 0)), (3, .int x3)]) : W p l e rm_X8_findBoy s m args below meth c H locs 0 0 (MQ below (QV g nwM (ceM g) A st9) args s 0 0 A) (F0 m 163 ls []) := by
  have hx := X.1
  have hb := X.2.1
  unfold X8_findBoy_163 at h
  refine lv_iconst (v := 0) hx hb dX8_findBoy_163 (by decide) ?_
  refine lv_istore (lv' := [(4, .int 0), (0, .ref (g.2.1 0)), (3, .int x3)]) hx hb dX8_findBoy_164 hl (by decide) rfl (fun ls hl => ?_)
  exact w_X8_findBoy_166 X rc42 hrc42  FU 0 st _ _ _ h Y (lv_sub hl [1, 2, 0] rfl)
set_option maxHeartbeats 4000000 in
set_option maxRecDepth 100000 in
theorem w_X8_findBoy_49b (X : Cx g p s m args meth c cX8_findBoy 6 RX8 none) {x1 : Int64} {x3 : Int32} {x4 : Int32} {st : Sg} {st9 : Sg} (rc42 : Int64 → Int32 → Sg → Option Sg) (hrc42 : ∀ (x1 : Int64) (x3 : Int32) (st : Sg) (ls : Array Slot) (H : Heap) (locs : List Loc), rc42 x1 x3 st = some st9 → Hp g nwM (ceM g) A s.heap st H locs → lv_has ls 6 [(0, .ref (g.2.1 0)), (1, .long x1), (3, .int x3)] → W p l e rm_X8_findBoy s m args below meth c H locs 0 0 (MQ below (QV g nwM (ceM g) A st9) args s 0 0 A) (F0 m 42 ls [])) (rc49 : Int32 → Sg → Option Sg) (hrc49 : ∀ (x4 : Int32) (st : Sg) (ls : Array Slot) (H : Heap) (locs : List Loc), rc49 x4 st = some st9 → Hp g nwM (ceM g) A s.heap st H locs → lv_has ls 6 [(0, .ref (g.2.1 0)), (1, .long x1), (3, .int x3), (4, .int x4)] → W p l e rm_X8_findBoy s m args below meth c H locs 0 0 (MQ below (QV g nwM (ceM g) A st9) args s 0 0 A) (F0 m 49 ls [])) (h : X8_findBoy_49b rc42 rc49 x1 x3 x4 st = some st9) (Y : Hp g nwM (ceM g) A s.heap st H locs)  (hl : lv_has ls 6 [(0, .ref (g.2.1 0)), (1, .long x1), (3, .int x3), (4, .int x4)]) : W p l e rm_X8_findBoy s m args below meth c H locs 0 0 (MQ below (QV g nwM (ceM g) A st9) args s 0 0 A) (F0 m 49 ls []) := by
  have hx := X.1
  have hb := X.2.1
  unfold X8_findBoy_49b at h
  refine lv_iload hx hb dX8_findBoy_49 (lv_at hl 3 rfl) ?_
  refine lv_aload_n hx hb dX8_findBoy_51 rfl (lv_at hl 0 rfl) ?_
  refine k_get (v := .int (st.1 0 4)) X Y fl_8_96 0 (Nat.le_of_ble_eq_true rfl) rfl rfl dX8_findBoy_52 ?_
  refine lv_icmp_ge (tgt := 163) hx hb dX8_findBoy_55 (by decide) (fun c1 => ?_) (fun c1 => ?_)
  · have h := ite_t h c1
    exact w_X8_findBoy_163 X rc42 hrc42 h Y  (lv_sub hl [0, 2] rfl)
  · have h := ite_f h c1
    refine lv_aload_n hx hb dX8_findBoy_58 rfl (lv_at hl 0 rfl) ?_
    refine lv_lload_n hx hb dX8_findBoy_59 rfl (lv_at hl 1 rfl) ?_
    refine k_putJ X Y fl_8_120 0 (Nat.le_of_ble_eq_true rfl) rfl (Nat.le_of_ble_eq_true rfl) rfl dX8_findBoy_60 (fun H locs Y => ?_)
    obtain ⟨st2, est2, h⟩ := nm_s h
    have Y : Hp g nwM (ceM g) A s.heap st2 H locs := by rw [est2]; exact Y
    refine lv_iconst (v := 0) hx hb dX8_findBoy_63 (by decide) ?_
    refine lv_istore (lv' := [(5, .int 0), (0, .ref (g.2.1 0)), (1, .long x1), (3, .int x3), (4, .int x4)]) hx hb dX8_findBoy_64 hl (by decide) rfl (fun ls hl => ?_)
    exact w_X8_findBoy_66 X rc42 hrc42 rc49 hrc49  FU 0 st2 _ _ _ h Y (lv_sub hl [1, 2, 3, 4, 0] rfl)
theorem w_X8_findBoy_49 (X : Cx g p s m args meth c cX8_findBoy 6 RX8 none) {x1 : Int64} {x3 : Int32}  {st9 : Sg} (rc42 : Int64 → Int32 → Sg → Option Sg) (hrc42 : ∀ (x1 : Int64) (x3 : Int32) (st : Sg) (ls : Array Slot) (H : Heap) (locs : List Loc), rc42 x1 x3 st = some st9 → Hp g nwM (ceM g) A s.heap st H locs → lv_has ls 6 [(0, .ref (g.2.1 0)), (1, .long x1), (3, .int x3)] → W p l e rm_X8_findBoy s m args below meth c H locs 0 0 (MQ below (QV g nwM (ceM g) A st9) args s 0 0 A) (F0 m 42 ls []))  : ∀ (k : Nat) (x4 : Int32) (st : Sg) (ls : Array Slot) (H : Heap) (locs : List Loc), X8_findBoy_49 rc42 x1 x3 k x4 st = some st9 → Hp g nwM (ceM g) A s.heap st H locs → lv_has ls 6 [(0, .ref (g.2.1 0)), (1, .long x1), (3, .int x3), (4, .int x4)] → W p l e rm_X8_findBoy s m args below meth c H locs 0 0 (MQ below (QV g nwM (ceM g) A st9) args s 0 0 A) (F0 m 49 ls []) := by
  intro k
  induction k with
  | zero =>
    intro x4 st ls H locs h
    exact none_s h
  | succ k ih =>
    intro x4 st ls H locs h Y hl
    exact w_X8_findBoy_49b X rc42 hrc42 (X8_findBoy_49 rc42 x1 x3 k) ih h Y  hl
set_option maxHeartbeats 4000000 in
set_option maxRecDepth 100000 in
theorem w_X8_findBoy_204 (X : Cx g p s m args meth c cX8_findBoy 6 RX8 none)  {st : Sg} {st9 : Sg}  (h : X8_findBoy_204 st = some st9) (Y : Hp g nwM (ceM g) A s.heap st H locs)  (hl : lv_has ls 6 []) : W p l e rm_X8_findBoy s m args below meth c H locs 0 0 (MQ below (QV g nwM (ceM g) A st9) args s 0 0 A) (F0 m 204 ls []) := by
  have hx := X.1
  have hb := X.2.1
  unfold X8_findBoy_204 at h
  exact k_vretW X Y h dX8_findBoy_204
set_option maxHeartbeats 4000000 in
set_option maxRecDepth 100000 in
theorem w_X8_findBoy_42b (X : Cx g p s m args meth c cX8_findBoy 6 RX8 none) {x1 : Int64} {x3 : Int32} {st : Sg} {st9 : Sg} (rc42 : Int64 → Int32 → Sg → Option Sg) (hrc42 : ∀ (x1 : Int64) (x3 : Int32) (st : Sg) (ls : Array Slot) (H : Heap) (locs : List Loc), rc42 x1 x3 st = some st9 → Hp g nwM (ceM g) A s.heap st H locs → lv_has ls 6 [(0, .ref (g.2.1 0)), (1, .long x1), (3, .int x3)] → W p l e rm_X8_findBoy s m args below meth c H locs 0 0 (MQ below (QV g nwM (ceM g) A st9) args s 0 0 A) (F0 m 42 ls [])) (h : X8_findBoy_42b rc42 x1 x3 st = some st9) (Y : Hp g nwM (ceM g) A s.heap st H locs)  (hl : lv_has ls 6 [(0, .ref (g.2.1 0)), (1, .long x1), (3, .int x3)]) : W p l e rm_X8_findBoy s m args below meth c H locs 0 0 (MQ below (QV g nwM (ceM g) A st9) args s 0 0 A) (F0 m 42 ls []) := by
  have hx := X.1
  have hb := X.2.1
  unfold X8_findBoy_42b at h
  refine lv_iload_n hx hb dX8_findBoy_42 rfl (lv_at hl 2 rfl) ?_
  refine lv_if_lt (tgt := 204) hx hb dX8_findBoy_43 (by decide) (fun c1 => ?_) (fun c1 => ?_)
  · have h := ite_t h c1
    exact w_X8_findBoy_204 X  h Y  (lv_sub hl [] rfl)
  · have h := ite_f h c1
    refine lv_iconst (v := 0) hx hb dX8_findBoy_46 (by decide) ?_
    refine lv_istore (lv' := [(4, .int 0), (0, .ref (g.2.1 0)), (1, .long x1), (3, .int x3)]) hx hb dX8_findBoy_47 hl (by decide) rfl (fun ls hl => ?_)
    exact w_X8_findBoy_49 X rc42 hrc42  FU 0 st _ _ _ h Y (lv_sub hl [1, 2, 3, 0] rfl)
theorem w_X8_findBoy_42 (X : Cx g p s m args meth c cX8_findBoy 6 RX8 none)   {st9 : Sg}   : ∀ (k : Nat) (x1 : Int64) (x3 : Int32) (st : Sg) (ls : Array Slot) (H : Heap) (locs : List Loc), X8_findBoy_42 k x1 x3 st = some st9 → Hp g nwM (ceM g) A s.heap st H locs → lv_has ls 6 [(0, .ref (g.2.1 0)), (1, .long x1), (3, .int x3)] → W p l e rm_X8_findBoy s m args below meth c H locs 0 0 (MQ below (QV g nwM (ceM g) A st9) args s 0 0 A) (F0 m 42 ls []) := by
  intro k
  induction k with
  | zero =>
    intro x1 x3 st ls H locs h
    exact none_s h
  | succ k ih =>
    intro x1 x3 st ls H locs h Y hl
    exact w_X8_findBoy_42b X  (X8_findBoy_42 k) ih h Y  hl
set_option maxHeartbeats 4000000 in
set_option maxRecDepth 100000 in
theorem w_X8_findBoy_30 (X : Cx g p s m args meth c cX8_findBoy 6 RX8 none)  {st : Sg} {st9 : Sg}  (h : X8_findBoy_30 st = some st9) (Y : Hp g nwM (ceM g) A s.heap st H locs)  (hl : lv_has ls 6 [(0, .ref (g.2.1 0))]) : W p l e rm_X8_findBoy s m args below meth c H locs 0 0 (MQ below (QV g nwM (ceM g) A st9) args s 0 0 A) (F0 m 30 ls []) := by
  have hx := X.1
  have hb := X.2.1
  unfold X8_findBoy_30 at h
  refine lv_aload_n hx hb dX8_findBoy_30 rfl (lv_at hl 0 rfl) ?_
  refine k_get (v := .long (st.2 0 12)) X Y fl_8_120 0 (Nat.le_of_ble_eq_true rfl) rfl rfl dX8_findBoy_31 ?_
  obtain ⟨v1, ev1, h⟩ := nm_s h
  refine k_nmJ ev1 ?_
  refine lv_lstore_n (lv' := [(1, .long v1), (0, .ref (g.2.1 0))]) hx hb dX8_findBoy_34 rfl hl (by decide) rfl (fun ls hl => ?_)
  refine lv_aload_n hx hb dX8_findBoy_35 rfl (lv_at hl 1 rfl) ?_
  refine k_get (v := .int (st.1 0 1)) X Y fl_8_78 0 (Nat.le_of_ble_eq_true rfl) rfl rfl dX8_findBoy_36 ?_
  refine lv_iconst (v := 1) hx hb dX8_findBoy_39 (by decide) ?_
  refine lv_isub hx hb dX8_findBoy_40 ?_
  obtain ⟨v2, ev2, h⟩ := nm_s h
  refine k_nmI ev2 ?_
  refine lv_istore_n (lv' := [(3, .int v2), (1, .long v1), (0, .ref (g.2.1 0))]) hx hb dX8_findBoy_41 rfl hl (by decide) rfl (fun ls hl => ?_)
  exact w_X8_findBoy_42 X   FU v1 v2 st _ _ _ h Y (lv_sub hl [2, 1, 0] rfl)
set_option maxHeartbeats 4000000 in
set_option maxRecDepth 100000 in
theorem w_X8_findBoy_6b (X : Cx g p s m args meth c cX8_findBoy 6 RX8 none) {x1 : Int32} {st : Sg} {st9 : Sg} (rc6 : Int32 → Sg → Option Sg) (hrc6 : ∀ (x1 : Int32) (st : Sg) (ls : Array Slot) (H : Heap) (locs : List Loc), rc6 x1 st = some st9 → Hp g nwM (ceM g) A s.heap st H locs → lv_has ls 6 [(0, .ref (g.2.1 0)), (1, .int x1)] → W p l e rm_X8_findBoy s m args below meth c H locs 0 0 (MQ below (QV g nwM (ceM g) A st9) args s 0 0 A) (F0 m 6 ls [])) (h : X8_findBoy_6b rc6 x1 st = some st9) (Y : Hp g nwM (ceM g) A s.heap st H locs)  (hl : lv_has ls 6 [(0, .ref (g.2.1 0)), (1, .int x1)]) : W p l e rm_X8_findBoy s m args below meth c H locs 0 0 (MQ below (QV g nwM (ceM g) A st9) args s 0 0 A) (F0 m 6 ls []) := by
  have hx := X.1
  have hb := X.2.1
  unfold X8_findBoy_6b at h
  refine lv_iload_n hx hb dX8_findBoy_6 rfl (lv_at hl 1 rfl) ?_
  refine lv_bipush (v := 12) hx hb dX8_findBoy_7 (by decide) ?_
  refine lv_icmp_gt (tgt := 30) hx hb dX8_findBoy_9 (by decide) (fun c1 => ?_) (fun c1 => ?_)
  · have h := ite_t h c1
    exact w_X8_findBoy_30 X  h Y  (lv_sub hl [0] rfl)
  · have h := ite_f h c1
    refine lv_aload_n hx hb dX8_findBoy_12 rfl (lv_at hl 0 rfl) ?_
    refine k_get (v := .ref (g.2.1 19)) X Y fl_8_69 0 (Nat.le_of_ble_eq_true rfl) rfl rfl dX8_findBoy_13 ?_
    refine lv_iload_n hx hb dX8_findBoy_16 rfl (lv_at hl 1 rfl) ?_
    refine lv_aload_n hx hb dX8_findBoy_17 rfl (lv_at hl 0 rfl) ?_
    refine k_get (v := .ref (g.2.1 7)) X Y fl_8_28 0 (Nat.le_of_ble_eq_true rfl) rfl rfl dX8_findBoy_18 ?_
    refine lv_iload_n hx hb dX8_findBoy_21 rfl (lv_at hl 1 rfl) ?_
    obtain ⟨i2, h⟩ := cix_s h
    refine k_lald X Y 7 (Nat.le_of_ble_eq_true rfl) (fun _ _ => rfl) i2 dX8_findBoy_22 ?_
    obtain ⟨i3, h⟩ := cix_s h
    refine k_last X Y 19 (Nat.le_of_ble_eq_true rfl) (fun _ _ => rfl) i3 dX8_findBoy_23 (fun H locs Y => ?_)
    obtain ⟨st4, est4, h⟩ := nm_s h
    have Y : Hp g nwM (ceM g) A s.heap st4 H locs := by rw [est4]; exact Y
    obtain ⟨v5, ev5, h⟩ := nm_s h
    refine lv_iinc (v := v5) (lv' := [(1, .int v5), (0, .ref (g.2.1 0))]) hx hb dX8_findBoy_24 hl (k := 1) rfl (by rw [ev5]; rfl) (by decide) rfl (fun ls hl => ?_)
    refine lv_goto (tgt := 6) hx hb dX8_findBoy_27 (by decide) ?_
    exact hrc6 v5 st4 _ _ _ h Y (lv_sub hl [1, 0] rfl)
theorem w_X8_findBoy_6 (X : Cx g p s m args meth c cX8_findBoy 6 RX8 none)   {st9 : Sg}   : ∀ (k : Nat) (x1 : Int32) (st : Sg) (ls : Array Slot) (H : Heap) (locs : List Loc), X8_findBoy_6 k x1 st = some st9 → Hp g nwM (ceM g) A s.heap st H locs → lv_has ls 6 [(0, .ref (g.2.1 0)), (1, .int x1)] → W p l e rm_X8_findBoy s m args below meth c H locs 0 0 (MQ below (QV g nwM (ceM g) A st9) args s 0 0 A) (F0 m 6 ls []) := by
  intro k
  induction k with
  | zero =>
    intro x1 st ls H locs h
    exact none_s h
  | succ k ih =>
    intro x1 st ls H locs h Y hl
    exact w_X8_findBoy_6b X  (X8_findBoy_6 k) ih h Y  hl
set_option maxHeartbeats 4000000 in
set_option maxRecDepth 100000 in
theorem w_X8_findBoy (X : Cx g p s m args meth c cX8_findBoy 6 RX8 none)  {st : Sg} {st9 : Sg}  (h : X8_findBoy st = some st9) (Y : Hp g nwM (ceM g) A s.heap st H locs)  (hl : lv_has ls 6 [(0, .ref (g.2.1 0))]) : W p l e rm_X8_findBoy s m args below meth c H locs 0 0 (MQ below (QV g nwM (ceM g) A st9) args s 0 0 A) (F0 m 0 ls []) := by
  have hx := X.1
  have hb := X.2.1
  unfold X8_findBoy at h
  refine lv_aload_n hx hb dX8_findBoy_0 rfl (lv_at hl 0 rfl) ?_
  obtain ⟨st2, hc1, h⟩ := bnd1_s h
  refine k_cV Y (k_runV (As := []) (rest := []) (o := 0) X Y cl_8_128 (c_X8_beginEnd l hc1 _) ⟨rfl, rfl, Nat.le_of_ble_eq_true rfl, Nat.le_of_ble_eq_true rfl⟩ (Nat.le_of_ble_eq_true rfl) rfl rfl hl.1 rfl (Nat.le_of_ble_eq_true rfl) dX8_findBoy_1 ⟨Nat.zero_le _, Nat.zero_le _⟩) (fun H locs Y => ?_)
  refine lv_iconst (v := 0) hx hb dX8_findBoy_4 (by decide) ?_
  refine lv_istore_n (lv' := [(1, .int 0), (0, .ref (g.2.1 0))]) hx hb dX8_findBoy_5 rfl hl (by decide) rfl (fun ls hl => ?_)
  exact w_X8_findBoy_6 X   FU 0 st2 _ _ _ h Y (lv_sub hl [1, 0] rfl)
theorem c_X8_findBoy (l : Launch) {g : Gx}  {st : Sg} {st9 : Sg} (h : X8_findBoy st = some st9) : MetV l yX8_findBoy cX8_findBoy 6 none rm_X8_findBoy g nwM (ceM g) [.ref (g.2.1 0)] st st9 :=
  met_of (Qc := fun A => QV g nwM (ceM g) A st9) (by decide) (Nat.le_of_ble_eq_true rfl) (fun p e s m below meth c A ls X Y hl => w_X8_findBoy X h Y hl)
def X8_power   (x0 : Int32) : Option Int64 :=
  some (1 <<< ((2 * x0).toInt64 &&& 63))
abbrev rm_X8_power : Room := { frames := 0, cells := 0, slots := 0, locals := 0 }
set_option maxHeartbeats 4000000 in
set_option maxRecDepth 100000 in
theorem w_X8_power (X : Cx g p s m args meth c cX8_power 1 RX8 (some .long)) {x0 : Int32} {st : Sg} {r9 : Int64}  (h : X8_power x0 = some r9) (Y : Hp g nwM (ceM g) A s.heap st H locs)  (hl : lv_has ls 1 [(0, .int x0)]) : W p l e rm_X8_power s m args below meth c H locs 0 0 (MQ below (QJ g nwM (ceM g) A r9 st) args s 0 0 A) (F0 m 0 ls []) := by
  have hx := X.1
  have hb := X.2.1
  unfold X8_power at h
  refine lv_lconst (v := 1) hx hb dX8_power_0 (by decide) ?_
  refine lv_iconst (v := 2) hx hb dX8_power_1 (by decide) ?_
  refine lv_iload_n hx hb dX8_power_2 rfl (lv_at hl 0 rfl) ?_
  refine lv_imul hx hb dX8_power_3 ?_
  refine lv_lshl hx hb dX8_power_4 rfl ?_
  exact k_lretR X Y h dX8_power_5
theorem c_X8_power (l : Launch) {g : Gx} {x0 : Int32} {st : Sg} {r9 : Int64} (h : X8_power x0 = some r9) : MetJ l yX8_power cX8_power 1 (some .long) rm_X8_power g nwM (ceM g) [.int x0] st r9 st :=
  met_of (Qc := fun A => QJ g nwM (ceM g) A r9 st) (by decide) (Nat.le_of_ble_eq_true rfl) (fun p e s m below meth c A ls X Y hl => w_X8_power X h Y hl)
def X8_lowest_58   (k0 : Int64) : Option Int64 :=
  some k0
def X8_lowest_42   (x0 : Int64) (x2 : Int64) (x4 : Int32) (x5 : Int64) : Option Int64 :=
  if x4 = (0 : Int32) then
    cnz x5 <|
    X8_lowest_58 (x0 / x5)
  else
    cnz x5 <|
    X8_lowest_58 (x2 / x5)
def X8_lowest_17b  (rc17 : Int64 → Int64 → Option Int64) (x0 : Int64) (x2 : Int64) (x4 : Int32) (x5 : Int64) (x7 : Int64) : Option Int64 :=
  if (lg_cmp x7 0) = (0 : Int32) then
    X8_lowest_42 x0 x2 x4 x5
  else
    cnz x7 <|
    nm (x5 - x5 / x7 * x7) fun v3 =>
    rc17 x7 v3
def X8_lowest_17   (x0 : Int64) (x2 : Int64) (x4 : Int32) : Nat → Int64 → Int64 → Option Int64
  | 0, _, _ => none
  | k + 1, x5, x7 => X8_lowest_17b   (X8_lowest_17 x0 x2 x4 k) x0 x2 x4 x5 x7
def X8_lowest_12   (k0 : Int64) (x0 : Int64) (x2 : Int64) (x4 : Int32) : Option Int64 :=
  X8_lowest_17 x0 x2 x4 FU k0 x2
def X8_lowest   (x0 : Int64) (x2 : Int64) (x4 : Int32) : Option Int64 :=
  if (0 : Int32) ≤ (lg_cmp x0 0) then
    X8_lowest_12 x0 x0 x2 x4
  else
    X8_lowest_12 (-x0) x0 x2 x4
abbrev rm_X8_lowest : Room := { frames := 0, cells := 0, slots := 0, locals := 0 }
set_option maxHeartbeats 4000000 in
set_option maxRecDepth 100000 in
theorem w_X8_lowest_58 (X : Cx g p s m args meth c cX8_lowest 11 RX8 (some .long)) {k0 : Int64} {st : Sg} {r9 : Int64}  (h : X8_lowest_58 k0 = some r9) (Y : Hp g nwM (ceM g) A s.heap st H locs)  (hl : lv_has ls 11 []) : W p l e rm_X8_lowest s m args below meth c H locs 0 0 (MQ below (QJ g nwM (ceM g) A r9 st) args s 0 0 A) (F0 m 58 ls [.long k0]) := by
  have hx := X.1
  have hb := X.2.1
  unfold X8_lowest_58 at h
  exact k_lretR X Y h dX8_lowest_58
set_option maxHeartbeats 4000000 in
set_option maxRecDepth 100000 in
theorem w_X8_lowest_42 (X : Cx g p s m args meth c cX8_lowest 11 RX8 (some .long)) {x0 : Int64} {x2 : Int64} {x4 : Int32} {x5 : Int64} {st : Sg} {r9 : Int64}  (h : X8_lowest_42 x0 x2 x4 x5 = some r9) (Y : Hp g nwM (ceM g) A s.heap st H locs)  (hl : lv_has ls 11 [(0, .long x0), (2, .long x2), (4, .int x4), (5, .long x5)]) : W p l e rm_X8_lowest s m args below meth c H locs 0 0 (MQ below (QJ g nwM (ceM g) A r9 st) args s 0 0 A) (F0 m 42 ls []) := by
  have hx := X.1
  have hb := X.2.1
  unfold X8_lowest_42 at h
  refine lv_iload hx hb dX8_lowest_42 (lv_at hl 2 rfl) ?_
  refine lv_if_ne (tgt := 54) hx hb dX8_lowest_44 (by decide) (fun c1 => ?_) (fun c1 => ?_)
  · have h := ite_f h c1
    refine lv_lload_n hx hb dX8_lowest_54 rfl (lv_at hl 1 rfl) ?_
    refine lv_lload hx hb dX8_lowest_55 (lv_at hl 3 rfl) ?_
    obtain ⟨z2, h⟩ := cnz_s h
    refine lv_ldiv hx hb dX8_lowest_57 z2 ?_
    exact w_X8_lowest_58 X  h Y  (lv_sub hl [] rfl)
  · have h := ite_t h c1
    refine lv_lload_n hx hb dX8_lowest_47 rfl (lv_at hl 0 rfl) ?_
    refine lv_lload hx hb dX8_lowest_48 (lv_at hl 3 rfl) ?_
    obtain ⟨z3, h⟩ := cnz_s h
    refine lv_ldiv hx hb dX8_lowest_50 z3 ?_
    refine lv_goto (tgt := 58) hx hb dX8_lowest_51 (by decide) ?_
    exact w_X8_lowest_58 X  h Y  (lv_sub hl [] rfl)
set_option maxHeartbeats 4000000 in
set_option maxRecDepth 100000 in
theorem w_X8_lowest_17b (X : Cx g p s m args meth c cX8_lowest 11 RX8 (some .long)) {x0 : Int64} {x2 : Int64} {x4 : Int32} {x5 : Int64} {x7 : Int64} {st : Sg} {r9 : Int64} (rc17 : Int64 → Int64 → Option Int64) (hrc17 : ∀ (x5 : Int64) (x7 : Int64) (ls : Array Slot) (H : Heap) (locs : List Loc), rc17 x5 x7 = some r9 → Hp g nwM (ceM g) A s.heap st H locs → lv_has ls 11 [(0, .long x0), (2, .long x2), (4, .int x4), (5, .long x5), (7, .long x7)] → W p l e rm_X8_lowest s m args below meth c H locs 0 0 (MQ below (QJ g nwM (ceM g) A r9 st) args s 0 0 A) (F0 m 17 ls [])) (h : X8_lowest_17b rc17 x0 x2 x4 x5 x7 = some r9) (Y : Hp g nwM (ceM g) A s.heap st H locs)  (hl : lv_has ls 11 [(0, .long x0), (2, .long x2), (4, .int x4), (5, .long x5), (7, .long x7)]) : W p l e rm_X8_lowest s m args below meth c H locs 0 0 (MQ below (QJ g nwM (ceM g) A r9 st) args s 0 0 A) (F0 m 17 ls []) := by
  have hx := X.1
  have hb := X.2.1
  unfold X8_lowest_17b at h
  refine lv_lload hx hb dX8_lowest_17 (lv_at hl 4 rfl) ?_
  refine lv_lconst (v := 0) hx hb dX8_lowest_19 (by decide) ?_
  refine W.lcmp hx hb dX8_lowest_20 ?_
  refine lv_if_eq (tgt := 42) hx hb dX8_lowest_21 (by decide) (fun c1 => ?_) (fun c1 => ?_)
  · have h := ite_t h c1
    exact w_X8_lowest_42 X  h Y  (lv_sub hl [0, 1, 2, 3] rfl)
  · have h := ite_f h c1
    refine lv_lload hx hb dX8_lowest_24 (lv_at hl 3 rfl) ?_
    refine lv_lload hx hb dX8_lowest_26 (lv_at hl 4 rfl) ?_
    obtain ⟨z2, h⟩ := cnz_s h
    refine lv_lrem hx hb dX8_lowest_28 z2 ?_
    obtain ⟨v3, ev3, h⟩ := nm_s h
    refine k_nmJ ev3 ?_
    refine lv_lstore (lv' := [(9, .long v3), (0, .long x0), (2, .long x2), (4, .int x4), (5, .long x5), (7, .long x7)]) hx hb dX8_lowest_29 hl (by decide) rfl (fun ls hl => ?_)
    refine lv_lload hx hb dX8_lowest_31 (lv_at hl 5 rfl) ?_
    refine lv_lstore (lv' := [(5, .long x7), (9, .long v3), (0, .long x0), (2, .long x2), (4, .int x4), (7, .long x7)]) hx hb dX8_lowest_33 hl (by decide) rfl (fun ls hl => ?_)
    refine lv_lload hx hb dX8_lowest_35 (lv_at hl 1 rfl) ?_
    refine lv_lstore (lv' := [(7, .long v3), (5, .long x7), (9, .long v3), (0, .long x0), (2, .long x2), (4, .int x4)]) hx hb dX8_lowest_37 hl (by decide) rfl (fun ls hl => ?_)
    refine lv_goto (tgt := 17) hx hb dX8_lowest_39 (by decide) ?_
    exact hrc17 x7 v3 _ _ _ h Y (lv_sub hl [3, 4, 5, 1, 0] rfl)
theorem w_X8_lowest_17 (X : Cx g p s m args meth c cX8_lowest 11 RX8 (some .long)) {x0 : Int64} {x2 : Int64} {x4 : Int32} {st : Sg} {r9 : Int64}   : ∀ (k : Nat) (x5 : Int64) (x7 : Int64) (ls : Array Slot) (H : Heap) (locs : List Loc), X8_lowest_17 x0 x2 x4 k x5 x7 = some r9 → Hp g nwM (ceM g) A s.heap st H locs → lv_has ls 11 [(0, .long x0), (2, .long x2), (4, .int x4), (5, .long x5), (7, .long x7)] → W p l e rm_X8_lowest s m args below meth c H locs 0 0 (MQ below (QJ g nwM (ceM g) A r9 st) args s 0 0 A) (F0 m 17 ls []) := by
  intro k
  induction k with
  | zero =>
    intro x5 x7 ls H locs h
    exact none_s h
  | succ k ih =>
    intro x5 x7 ls H locs h Y hl
    exact w_X8_lowest_17b X  (X8_lowest_17 x0 x2 x4 k) ih h Y  hl
set_option maxHeartbeats 4000000 in
set_option maxRecDepth 100000 in
theorem w_X8_lowest_12 (X : Cx g p s m args meth c cX8_lowest 11 RX8 (some .long)) {k0 : Int64} {x0 : Int64} {x2 : Int64} {x4 : Int32} {st : Sg} {r9 : Int64}  (h : X8_lowest_12 k0 x0 x2 x4 = some r9) (Y : Hp g nwM (ceM g) A s.heap st H locs)  (hl : lv_has ls 11 [(0, .long x0), (2, .long x2), (4, .int x4)]) : W p l e rm_X8_lowest s m args below meth c H locs 0 0 (MQ below (QJ g nwM (ceM g) A r9 st) args s 0 0 A) (F0 m 12 ls [.long k0]) := by
  have hx := X.1
  have hb := X.2.1
  unfold X8_lowest_12 at h
  refine lv_lstore (lv' := [(5, .long k0), (0, .long x0), (2, .long x2), (4, .int x4)]) hx hb dX8_lowest_12 hl (by decide) rfl (fun ls hl => ?_)
  refine lv_lload_n hx hb dX8_lowest_14 rfl (lv_at hl 2 rfl) ?_
  refine lv_lstore (lv' := [(7, .long x2), (5, .long k0), (0, .long x0), (2, .long x2), (4, .int x4)]) hx hb dX8_lowest_15 hl (by decide) rfl (fun ls hl => ?_)
  exact w_X8_lowest_17 X   FU k0 x2 _ _ _ h Y (lv_sub hl [2, 3, 4, 1, 0] rfl)
set_option maxHeartbeats 4000000 in
set_option maxRecDepth 100000 in
theorem w_X8_lowest (X : Cx g p s m args meth c cX8_lowest 11 RX8 (some .long)) {x0 : Int64} {x2 : Int64} {x4 : Int32} {st : Sg} {r9 : Int64}  (h : X8_lowest x0 x2 x4 = some r9) (Y : Hp g nwM (ceM g) A s.heap st H locs)  (hl : lv_has ls 11 [(0, .long x0), (2, .long x2), (4, .int x4)]) : W p l e rm_X8_lowest s m args below meth c H locs 0 0 (MQ below (QJ g nwM (ceM g) A r9 st) args s 0 0 A) (F0 m 0 ls []) := by
  have hx := X.1
  have hb := X.2.1
  unfold X8_lowest at h
  refine lv_lload_n hx hb dX8_lowest_0 rfl (lv_at hl 0 rfl) ?_
  refine lv_lconst (v := 0) hx hb dX8_lowest_1 (by decide) ?_
  refine W.lcmp hx hb dX8_lowest_2 ?_
  refine lv_if_ge (tgt := 11) hx hb dX8_lowest_3 (by decide) (fun c1 => ?_) (fun c1 => ?_)
  · have h := ite_t h c1
    refine lv_lload_n hx hb dX8_lowest_11 rfl (lv_at hl 0 rfl) ?_
    exact w_X8_lowest_12 X  h Y  (lv_sub hl [0, 1, 2] rfl)
  · have h := ite_f h c1
    refine lv_lload_n hx hb dX8_lowest_6 rfl (lv_at hl 0 rfl) ?_
    refine lv_lneg hx hb dX8_lowest_7 ?_
    refine lv_goto (tgt := 12) hx hb dX8_lowest_8 (by decide) ?_
    exact w_X8_lowest_12 X  h Y  (lv_sub hl [0, 1, 2] rfl)
theorem c_X8_lowest (l : Launch) {g : Gx} {x0 : Int64} {x2 : Int64} {x4 : Int32} {st : Sg} {r9 : Int64} (h : X8_lowest x0 x2 x4 = some r9) : MetJ l yX8_lowest cX8_lowest 11 (some .long) rm_X8_lowest g nwM (ceM g) [.long x0, .long x2, .int x4] st r9 st :=
  met_of (Qc := fun A => QJ g nwM (ceM g) A r9 st) (by decide) (Nat.le_of_ble_eq_true rfl) (fun p e s m below meth c A ls X Y hl => w_X8_lowest X h Y hl)
def X8_boy   (x1 : Int32) (st : Sg) : Option (Int64 × Sg) :=
  bnd1 (X8_isPart x1) fun v2 =>
  if v2 = (0 : Int32) then
    some ((-1000000000000000002), st)
  else
    bnd1 (X8_isReady st) fun v5 =>
    if v5 = (0 : Int32) then
      some ((-1000000000000000003), st)
    else
      bnd1 (X8_findBoy st) fun st8 =>
      cix (st8.1 0 0) 13 <|
      bnd1 (X8_power ((st8.1 0 9) * (st8.1 0 1))) fun v11 =>
      bnd1 (X8_lowest (st8.2 19 (st8.1 0 0).toNatClampNeg) v11 x1) fun v13 =>
      some (v13, st8)
abbrev rm_X8_boy : Room := { frames := 3, cells := 0, slots := 0, locals := 72 }
set_option maxHeartbeats 4000000 in
set_option maxRecDepth 100000 in
theorem w_X8_boy (X : Cx g p s m args meth c cX8_boy 2 RX8 (some .long)) {x1 : Int32} {st : Sg} {r9 : Int64} {st9 : Sg}  (h : X8_boy x1 st = some (r9, st9)) (Y : Hp g nwM (ceM g) A s.heap st H locs)  (hl : lv_has ls 2 [(0, .ref (g.2.1 0)), (1, .int x1)]) : W p l e rm_X8_boy s m args below meth c H locs 0 0 (MQ below (QJ g nwM (ceM g) A r9 st9) args s 0 0 A) (F0 m 0 ls []) := by
  have hx := X.1
  have hb := X.2.1
  unfold X8_boy at h
  refine lv_iload_n hx hb dX8_boy_0 rfl (lv_at hl 1 rfl) ?_
  obtain ⟨v2, hc1, h⟩ := bnd1_s h
  refine k_cI Y (k_runS (As := [.int x1]) (rest := []) X Y cl_8_138 (c_X8_isPart l hc1 _) ⟨rfl, rfl, Nat.le_of_ble_eq_true rfl, Nat.le_of_ble_eq_true rfl⟩ rfl hl.1 rfl (Nat.le_of_ble_eq_true rfl) dX8_boy_1 ⟨Nat.zero_le _, Nat.zero_le _⟩) (fun H locs Y => ?_)
  refine lv_if_ne (tgt := 11) hx hb dX8_boy_4 (by decide) (fun c3 => ?_) (fun c3 => ?_)
  · have h := ite_f h c3
    refine lv_aload_n hx hb dX8_boy_11 rfl (lv_at hl 0 rfl) ?_
    obtain ⟨v5, hc4, h⟩ := bnd1_s h
    refine k_cI Y (k_runV (As := []) (rest := []) (o := 0) X Y cl_8_207 (c_X8_isReady l hc4 _) ⟨rfl, rfl, Nat.le_of_ble_eq_true rfl, Nat.le_of_ble_eq_true rfl⟩ (Nat.le_of_ble_eq_true rfl) rfl rfl hl.1 rfl (Nat.le_of_ble_eq_true rfl) dX8_boy_12 ⟨Nat.zero_le _, Nat.zero_le _⟩) (fun H locs Y => ?_)
    refine lv_if_ne (tgt := 22) hx hb dX8_boy_15 (by decide) (fun c6 => ?_) (fun c6 => ?_)
    · have h := ite_f h c6
      refine lv_aload_n hx hb dX8_boy_22 rfl (lv_at hl 0 rfl) ?_
      obtain ⟨st8, hc7, h⟩ := bnd1_s h
      refine k_cV Y (k_runV (As := []) (rest := []) (o := 0) X Y cl_8_213 (c_X8_findBoy l hc7 _) ⟨rfl, rfl, Nat.le_of_ble_eq_true rfl, Nat.le_of_ble_eq_true rfl⟩ (Nat.le_of_ble_eq_true rfl) rfl rfl hl.1 rfl (Nat.le_of_ble_eq_true rfl) dX8_boy_23 ⟨Nat.zero_le _, Nat.zero_le _⟩) (fun H locs Y => ?_)
      refine lv_aload_n hx hb dX8_boy_26 rfl (lv_at hl 0 rfl) ?_
      refine k_get (v := .ref (g.2.1 19)) X Y fl_8_69 0 (Nat.le_of_ble_eq_true rfl) rfl rfl dX8_boy_27 ?_
      refine lv_aload_n hx hb dX8_boy_30 rfl (lv_at hl 0 rfl) ?_
      refine k_get (v := .int (st8.1 0 0)) X Y fl_8_75 0 (Nat.le_of_ble_eq_true rfl) rfl rfl dX8_boy_31 ?_
      obtain ⟨i9, h⟩ := cix_s h
      refine k_lald X Y 19 (Nat.le_of_ble_eq_true rfl) (fun _ _ => rfl) i9 dX8_boy_34 ?_
      refine lv_aload_n hx hb dX8_boy_35 rfl (lv_at hl 0 rfl) ?_
      refine k_get (v := .int (st8.1 0 9)) X Y fl_8_103 0 (Nat.le_of_ble_eq_true rfl) rfl rfl dX8_boy_36 ?_
      refine lv_aload_n hx hb dX8_boy_39 rfl (lv_at hl 0 rfl) ?_
      refine k_get (v := .int (st8.1 0 1)) X Y fl_8_78 0 (Nat.le_of_ble_eq_true rfl) rfl rfl dX8_boy_40 ?_
      refine lv_imul hx hb dX8_boy_43 ?_
      obtain ⟨v11, hc10, h⟩ := bnd1_s h
      refine k_cJ Y (k_runS (As := [.int ((st8.1 0 9) * (st8.1 0 1))]) (rest := [.long (st8.2 19 (st8.1 0 0).toNatClampNeg)]) X Y cl_8_161 (c_X8_power l hc10 _) ⟨rfl, rfl, Nat.le_of_ble_eq_true rfl, Nat.le_of_ble_eq_true rfl⟩ rfl hl.1 rfl (Nat.le_of_ble_eq_true rfl) dX8_boy_44 ⟨Nat.zero_le _, Nat.zero_le _⟩) (fun H locs Y => ?_)
      refine lv_iload_n hx hb dX8_boy_47 rfl (lv_at hl 1 rfl) ?_
      obtain ⟨v13, hc12, h⟩ := bnd1_s h
      refine k_cJ Y (k_runS (As := [.long (st8.2 19 (st8.1 0 0).toNatClampNeg), .long v11, .int x1]) (rest := []) X Y cl_8_151 (c_X8_lowest l hc12 _) ⟨rfl, rfl, Nat.le_of_ble_eq_true rfl, Nat.le_of_ble_eq_true rfl⟩ rfl hl.1 rfl (Nat.le_of_ble_eq_true rfl) dX8_boy_48 ⟨Nat.zero_le _, Nat.zero_le _⟩) (fun H locs Y => ?_)
      exact k_lretW X Y h dX8_boy_51
    · have h := ite_t h c6
      refine k_ldc2 X lg_8_143 dX8_boy_18 ?_
      exact k_lretW X Y h dX8_boy_21
  · have h := ite_t h c3
    refine k_ldc2 X lg_8_141 dX8_boy_7 ?_
    exact k_lretW X Y h dX8_boy_10
theorem c_X8_boy (l : Launch) {g : Gx} {x1 : Int32} {st : Sg} {r9 : Int64} {st9 : Sg} (h : X8_boy x1 st = some (r9, st9)) : MetJ l yX8_boy cX8_boy 2 (some .long) rm_X8_boy g nwM (ceM g) [.ref (g.2.1 0), .int x1] st r9 st9 :=
  met_of (Qc := fun A => QJ g nwM (ceM g) A r9 st9) (by decide) (Nat.le_of_ble_eq_true rfl) (fun p e s m below meth c A ls X Y hl => w_X8_boy X h Y hl)
def X8_bringFrom_38    (st : Sg) : Option Sg :=
  some st
def X8_bringFrom_11b  (rc11 : Int32 → Sg → Option Sg) (x1 : Int32) (x2 : Int32) (st : Sg) : Option Sg :=
  if x2 < x1 then
    X8_bringFrom_38 st
  else
    cix x2 6 <|
    cix (st.1 11 x2.toNatClampNeg) 5 <|
    bnd1 (X8_dayAt x2 (st.1 1 (st.1 11 x2.toNatClampNeg).toNatClampNeg) st) fun st5 =>
    nm (x2 + (-1)) fun v6 =>
    rc11 v6 st5
def X8_bringFrom_11   (x1 : Int32) : Nat → Int32 → Sg → Option Sg
  | 0, _, _ => none
  | k + 1, x2, st => X8_bringFrom_11b   (X8_bringFrom_11 x1 k) x1 x2 st
def X8_bringFrom   (x1 : Int32) (st : Sg) : Option Sg :=
  bnd1 (X8_beginEnd st) fun st2 =>
  nm ((st2.1 0 1) - 1) fun v3 =>
  X8_bringFrom_11 x1 FU v3 st2
abbrev rm_X8_bringFrom : Room := { frames := 2, cells := 0, slots := 0, locals := 47 }
set_option maxHeartbeats 4000000 in
set_option maxRecDepth 100000 in
theorem w_X8_bringFrom_38 (X : Cx g p s m args meth c cX8_bringFrom 3 RX8 none)  {st : Sg} {st9 : Sg}  (h : X8_bringFrom_38 st = some st9) (Y : Hp g nwM (ceM g) A s.heap st H locs)  (hl : lv_has ls 3 []) : W p l e rm_X8_bringFrom s m args below meth c H locs 0 0 (MQ below (QV g nwM (ceM g) A st9) args s 0 0 A) (F0 m 38 ls []) := by
  have hx := X.1
  have hb := X.2.1
  unfold X8_bringFrom_38 at h
  exact k_vretW X Y h dX8_bringFrom_38
set_option maxHeartbeats 4000000 in
set_option maxRecDepth 100000 in
theorem w_X8_bringFrom_11b (X : Cx g p s m args meth c cX8_bringFrom 3 RX8 none) {x1 : Int32} {x2 : Int32} {st : Sg} {st9 : Sg} (rc11 : Int32 → Sg → Option Sg) (hrc11 : ∀ (x2 : Int32) (st : Sg) (ls : Array Slot) (H : Heap) (locs : List Loc), rc11 x2 st = some st9 → Hp g nwM (ceM g) A s.heap st H locs → lv_has ls 3 [(0, .ref (g.2.1 0)), (1, .int x1), (2, .int x2)] → W p l e rm_X8_bringFrom s m args below meth c H locs 0 0 (MQ below (QV g nwM (ceM g) A st9) args s 0 0 A) (F0 m 11 ls [])) (h : X8_bringFrom_11b rc11 x1 x2 st = some st9) (Y : Hp g nwM (ceM g) A s.heap st H locs)  (hl : lv_has ls 3 [(0, .ref (g.2.1 0)), (1, .int x1), (2, .int x2)]) : W p l e rm_X8_bringFrom s m args below meth c H locs 0 0 (MQ below (QV g nwM (ceM g) A st9) args s 0 0 A) (F0 m 11 ls []) := by
  have hx := X.1
  have hb := X.2.1
  unfold X8_bringFrom_11b at h
  refine lv_iload_n hx hb dX8_bringFrom_11 rfl (lv_at hl 2 rfl) ?_
  refine lv_iload_n hx hb dX8_bringFrom_12 rfl (lv_at hl 1 rfl) ?_
  refine lv_icmp_lt (tgt := 38) hx hb dX8_bringFrom_13 (by decide) (fun c1 => ?_) (fun c1 => ?_)
  · have h := ite_t h c1
    exact w_X8_bringFrom_38 X  h Y  (lv_sub hl [] rfl)
  · have h := ite_f h c1
    refine lv_aload_n hx hb dX8_bringFrom_16 rfl (lv_at hl 0 rfl) ?_
    refine lv_iload_n hx hb dX8_bringFrom_17 rfl (lv_at hl 2 rfl) ?_
    refine lv_aload_n hx hb dX8_bringFrom_18 rfl (lv_at hl 0 rfl) ?_
    refine k_get (v := .ref (g.2.1 1)) X Y fl_8_7 0 (Nat.le_of_ble_eq_true rfl) rfl rfl dX8_bringFrom_19 ?_
    refine lv_aload_n hx hb dX8_bringFrom_22 rfl (lv_at hl 0 rfl) ?_
    refine k_get (v := .ref (g.2.1 11)) X Y fl_8_41 0 (Nat.le_of_ble_eq_true rfl) rfl rfl dX8_bringFrom_23 ?_
    refine lv_iload_n hx hb dX8_bringFrom_26 rfl (lv_at hl 2 rfl) ?_
    obtain ⟨i2, h⟩ := cix_s h
    refine k_iald X Y 11 (Nat.le_of_ble_eq_true rfl) (fun _ _ => rfl) i2 dX8_bringFrom_27 ?_
    obtain ⟨i3, h⟩ := cix_s h
    refine k_iald X Y 1 (Nat.le_of_ble_eq_true rfl) (fun _ _ => rfl) i3 dX8_bringFrom_28 ?_
    obtain ⟨st5, hc4, h⟩ := bnd1_s h
    refine k_cV Y (k_runV (As := [.int x2, .int (st.1 1 (st.1 11 x2.toNatClampNeg).toNatClampNeg)]) (rest := []) (o := 0) X Y cl_8_135 (c_X8_dayAt l hc4 _) ⟨rfl, rfl, Nat.le_of_ble_eq_true rfl, Nat.le_of_ble_eq_true rfl⟩ (Nat.le_of_ble_eq_true rfl) rfl rfl hl.1 rfl (Nat.le_of_ble_eq_true rfl) dX8_bringFrom_29 ⟨Nat.zero_le _, Nat.zero_le _⟩) (fun H locs Y => ?_)
    obtain ⟨v6, ev6, h⟩ := nm_s h
    refine lv_iinc (v := v6) (lv' := [(2, .int v6), (0, .ref (g.2.1 0)), (1, .int x1)]) hx hb dX8_bringFrom_32 hl (k := 2) rfl (by rw [ev6]; rfl) (by decide) rfl (fun ls hl => ?_)
    refine lv_goto (tgt := 11) hx hb dX8_bringFrom_35 (by decide) ?_
    exact hrc11 v6 st5 _ _ _ h Y (lv_sub hl [1, 2, 0] rfl)
theorem w_X8_bringFrom_11 (X : Cx g p s m args meth c cX8_bringFrom 3 RX8 none) {x1 : Int32}  {st9 : Sg}   : ∀ (k : Nat) (x2 : Int32) (st : Sg) (ls : Array Slot) (H : Heap) (locs : List Loc), X8_bringFrom_11 x1 k x2 st = some st9 → Hp g nwM (ceM g) A s.heap st H locs → lv_has ls 3 [(0, .ref (g.2.1 0)), (1, .int x1), (2, .int x2)] → W p l e rm_X8_bringFrom s m args below meth c H locs 0 0 (MQ below (QV g nwM (ceM g) A st9) args s 0 0 A) (F0 m 11 ls []) := by
  intro k
  induction k with
  | zero =>
    intro x2 st ls H locs h
    exact none_s h
  | succ k ih =>
    intro x2 st ls H locs h Y hl
    exact w_X8_bringFrom_11b X  (X8_bringFrom_11 x1 k) ih h Y  hl
set_option maxHeartbeats 4000000 in
set_option maxRecDepth 100000 in
theorem w_X8_bringFrom (X : Cx g p s m args meth c cX8_bringFrom 3 RX8 none) {x1 : Int32} {st : Sg} {st9 : Sg}  (h : X8_bringFrom x1 st = some st9) (Y : Hp g nwM (ceM g) A s.heap st H locs)  (hl : lv_has ls 3 [(0, .ref (g.2.1 0)), (1, .int x1)]) : W p l e rm_X8_bringFrom s m args below meth c H locs 0 0 (MQ below (QV g nwM (ceM g) A st9) args s 0 0 A) (F0 m 0 ls []) := by
  have hx := X.1
  have hb := X.2.1
  unfold X8_bringFrom at h
  refine lv_aload_n hx hb dX8_bringFrom_0 rfl (lv_at hl 0 rfl) ?_
  obtain ⟨st2, hc1, h⟩ := bnd1_s h
  refine k_cV Y (k_runV (As := []) (rest := []) (o := 0) X Y cl_8_128 (c_X8_beginEnd l hc1 _) ⟨rfl, rfl, Nat.le_of_ble_eq_true rfl, Nat.le_of_ble_eq_true rfl⟩ (Nat.le_of_ble_eq_true rfl) rfl rfl hl.1 rfl (Nat.le_of_ble_eq_true rfl) dX8_bringFrom_1 ⟨Nat.zero_le _, Nat.zero_le _⟩) (fun H locs Y => ?_)
  refine lv_aload_n hx hb dX8_bringFrom_4 rfl (lv_at hl 0 rfl) ?_
  refine k_get (v := .int (st2.1 0 1)) X Y fl_8_78 0 (Nat.le_of_ble_eq_true rfl) rfl rfl dX8_bringFrom_5 ?_
  refine lv_iconst (v := 1) hx hb dX8_bringFrom_8 (by decide) ?_
  refine lv_isub hx hb dX8_bringFrom_9 ?_
  obtain ⟨v3, ev3, h⟩ := nm_s h
  refine k_nmI ev3 ?_
  refine lv_istore_n (lv' := [(2, .int v3), (0, .ref (g.2.1 0)), (1, .int x1)]) hx hb dX8_bringFrom_10 rfl hl (by decide) rfl (fun ls hl => ?_)
  exact w_X8_bringFrom_11 X   FU v3 st2 _ _ _ h Y (lv_sub hl [1, 2, 0] rfl)
theorem c_X8_bringFrom (l : Launch) {g : Gx} {x1 : Int32} {st : Sg} {st9 : Sg} (h : X8_bringFrom x1 st = some st9) : MetV l yX8_bringFrom cX8_bringFrom 3 none rm_X8_bringFrom g nwM (ceM g) [.ref (g.2.1 0), .int x1] st st9 :=
  met_of (Qc := fun A => QV g nwM (ceM g) A st9) (by decide) (Nat.le_of_ble_eq_true rfl) (fun p e s m below meth c A ls X Y hl => w_X8_bringFrom X h Y hl)
def X8_layPlan_26    (st : Sg) : Option Sg :=
  some st
def X8_layPlan_2b  (rc2 : Int32 → Sg → Option Sg) (x1 : Int32) (st : Sg) : Option Sg :=
  if (6 : Int32) ≤ x1 then
    X8_layPlan_26 st
  else
    cix x1 6 <|
    cix x1 6 <|
    nm (sI st 11 x1.toNatClampNeg (st.1 6 x1.toNatClampNeg)) fun st4 =>
    nm (x1 + 1) fun v5 =>
    rc2 v5 st4
def X8_layPlan_2    : Nat → Int32 → Sg → Option Sg
  | 0, _, _ => none
  | k + 1, x1, st => X8_layPlan_2b   (X8_layPlan_2 k) x1 st
def X8_layPlan    (st : Sg) : Option Sg :=
  X8_layPlan_2 FU 0 st
abbrev rm_X8_layPlan : Room := { frames := 0, cells := 0, slots := 0, locals := 0 }
set_option maxHeartbeats 4000000 in
set_option maxRecDepth 100000 in
theorem w_X8_layPlan_26 (X : Cx g p s m args meth c cX8_layPlan 2 RX8 none)  {st : Sg} {st9 : Sg}  (h : X8_layPlan_26 st = some st9) (Y : Hp g nwM (ceM g) A s.heap st H locs)  (hl : lv_has ls 2 []) : W p l e rm_X8_layPlan s m args below meth c H locs 0 0 (MQ below (QV g nwM (ceM g) A st9) args s 0 0 A) (F0 m 26 ls []) := by
  have hx := X.1
  have hb := X.2.1
  unfold X8_layPlan_26 at h
  exact k_vretW X Y h dX8_layPlan_26
set_option maxHeartbeats 4000000 in
set_option maxRecDepth 100000 in
theorem w_X8_layPlan_2b (X : Cx g p s m args meth c cX8_layPlan 2 RX8 none) {x1 : Int32} {st : Sg} {st9 : Sg} (rc2 : Int32 → Sg → Option Sg) (hrc2 : ∀ (x1 : Int32) (st : Sg) (ls : Array Slot) (H : Heap) (locs : List Loc), rc2 x1 st = some st9 → Hp g nwM (ceM g) A s.heap st H locs → lv_has ls 2 [(0, .ref (g.2.1 0)), (1, .int x1)] → W p l e rm_X8_layPlan s m args below meth c H locs 0 0 (MQ below (QV g nwM (ceM g) A st9) args s 0 0 A) (F0 m 2 ls [])) (h : X8_layPlan_2b rc2 x1 st = some st9) (Y : Hp g nwM (ceM g) A s.heap st H locs)  (hl : lv_has ls 2 [(0, .ref (g.2.1 0)), (1, .int x1)]) : W p l e rm_X8_layPlan s m args below meth c H locs 0 0 (MQ below (QV g nwM (ceM g) A st9) args s 0 0 A) (F0 m 2 ls []) := by
  have hx := X.1
  have hb := X.2.1
  unfold X8_layPlan_2b at h
  refine lv_iload_n hx hb dX8_layPlan_2 rfl (lv_at hl 1 rfl) ?_
  refine lv_bipush (v := 6) hx hb dX8_layPlan_3 (by decide) ?_
  refine lv_icmp_ge (tgt := 26) hx hb dX8_layPlan_5 (by decide) (fun c1 => ?_) (fun c1 => ?_)
  · have h := ite_t h c1
    exact w_X8_layPlan_26 X  h Y  (lv_sub hl [] rfl)
  · have h := ite_f h c1
    refine lv_aload_n hx hb dX8_layPlan_8 rfl (lv_at hl 0 rfl) ?_
    refine k_get (v := .ref (g.2.1 11)) X Y fl_8_41 0 (Nat.le_of_ble_eq_true rfl) rfl rfl dX8_layPlan_9 ?_
    refine lv_iload_n hx hb dX8_layPlan_12 rfl (lv_at hl 1 rfl) ?_
    refine lv_aload_n hx hb dX8_layPlan_13 rfl (lv_at hl 0 rfl) ?_
    refine k_get (v := .ref (g.2.1 6)) X Y fl_8_25 0 (Nat.le_of_ble_eq_true rfl) rfl rfl dX8_layPlan_14 ?_
    refine lv_iload_n hx hb dX8_layPlan_17 rfl (lv_at hl 1 rfl) ?_
    obtain ⟨i2, h⟩ := cix_s h
    refine k_iald X Y 6 (Nat.le_of_ble_eq_true rfl) (fun _ _ => rfl) i2 dX8_layPlan_18 ?_
    obtain ⟨i3, h⟩ := cix_s h
    refine k_iast X Y 11 (Nat.le_of_ble_eq_true rfl) (fun _ _ => rfl) i3 dX8_layPlan_19 (fun H locs Y => ?_)
    obtain ⟨st4, est4, h⟩ := nm_s h
    have Y : Hp g nwM (ceM g) A s.heap st4 H locs := by rw [est4]; exact Y
    obtain ⟨v5, ev5, h⟩ := nm_s h
    refine lv_iinc (v := v5) (lv' := [(1, .int v5), (0, .ref (g.2.1 0))]) hx hb dX8_layPlan_20 hl (k := 1) rfl (by rw [ev5]; rfl) (by decide) rfl (fun ls hl => ?_)
    refine lv_goto (tgt := 2) hx hb dX8_layPlan_23 (by decide) ?_
    exact hrc2 v5 st4 _ _ _ h Y (lv_sub hl [1, 0] rfl)
theorem w_X8_layPlan_2 (X : Cx g p s m args meth c cX8_layPlan 2 RX8 none)   {st9 : Sg}   : ∀ (k : Nat) (x1 : Int32) (st : Sg) (ls : Array Slot) (H : Heap) (locs : List Loc), X8_layPlan_2 k x1 st = some st9 → Hp g nwM (ceM g) A s.heap st H locs → lv_has ls 2 [(0, .ref (g.2.1 0)), (1, .int x1)] → W p l e rm_X8_layPlan s m args below meth c H locs 0 0 (MQ below (QV g nwM (ceM g) A st9) args s 0 0 A) (F0 m 2 ls []) := by
  intro k
  induction k with
  | zero =>
    intro x1 st ls H locs h
    exact none_s h
  | succ k ih =>
    intro x1 st ls H locs h Y hl
    exact w_X8_layPlan_2b X  (X8_layPlan_2 k) ih h Y  hl
set_option maxHeartbeats 4000000 in
set_option maxRecDepth 100000 in
theorem w_X8_layPlan (X : Cx g p s m args meth c cX8_layPlan 2 RX8 none)  {st : Sg} {st9 : Sg}  (h : X8_layPlan st = some st9) (Y : Hp g nwM (ceM g) A s.heap st H locs)  (hl : lv_has ls 2 [(0, .ref (g.2.1 0))]) : W p l e rm_X8_layPlan s m args below meth c H locs 0 0 (MQ below (QV g nwM (ceM g) A st9) args s 0 0 A) (F0 m 0 ls []) := by
  have hx := X.1
  have hb := X.2.1
  unfold X8_layPlan at h
  refine lv_iconst (v := 0) hx hb dX8_layPlan_0 (by decide) ?_
  refine lv_istore_n (lv' := [(1, .int 0), (0, .ref (g.2.1 0))]) hx hb dX8_layPlan_1 rfl hl (by decide) rfl (fun ls hl => ?_)
  exact w_X8_layPlan_2 X   FU 0 st _ _ _ h Y (lv_sub hl [1, 0] rfl)
theorem c_X8_layPlan (l : Launch) {g : Gx}  {st : Sg} {st9 : Sg} (h : X8_layPlan st = some st9) : MetV l yX8_layPlan cX8_layPlan 2 none rm_X8_layPlan g nwM (ceM g) [.ref (g.2.1 0)] st st9 :=
  met_of (Qc := fun A => QV g nwM (ceM g) A st9) (by decide) (Nat.le_of_ble_eq_true rfl) (fun p e s m below meth c A ls X Y hl => w_X8_layPlan X h Y hl)
def X8_brings   (x1 : Int32) (st : Sg) : Option (Int64 × Sg) :=
  bnd1 (X8_isPart x1) fun v2 =>
  if v2 = (0 : Int32) then
    some ((-1000000000000000002), st)
  else
    if (st.1 0 4) = (0 : Int32) then
      some ((-1000000000000000003), st)
    else
      bnd1 (X8_layPlan st) fun st6 =>
      bnd1 (X8_bringFrom 0 st6) fun st8 =>
      cix (st8.1 0 0) 13 <|
      bnd1 (X8_lowest (st8.2 7 (st8.1 0 0).toNatClampNeg) (st8.2 0 12) x1) fun v11 =>
      some (v11, st8)
abbrev rm_X8_brings : Room := { frames := 3, cells := 0, slots := 0, locals := 69 }
set_option maxHeartbeats 4000000 in
set_option maxRecDepth 100000 in
theorem w_X8_brings (X : Cx g p s m args meth c cX8_brings 2 RX8 (some .long)) {x1 : Int32} {st : Sg} {r9 : Int64} {st9 : Sg}  (h : X8_brings x1 st = some (r9, st9)) (Y : Hp g nwM (ceM g) A s.heap st H locs)  (hl : lv_has ls 2 [(0, .ref (g.2.1 0)), (1, .int x1)]) : W p l e rm_X8_brings s m args below meth c H locs 0 0 (MQ below (QJ g nwM (ceM g) A r9 st9) args s 0 0 A) (F0 m 0 ls []) := by
  have hx := X.1
  have hb := X.2.1
  unfold X8_brings at h
  refine lv_iload_n hx hb dX8_brings_0 rfl (lv_at hl 1 rfl) ?_
  obtain ⟨v2, hc1, h⟩ := bnd1_s h
  refine k_cI Y (k_runS (As := [.int x1]) (rest := []) X Y cl_8_138 (c_X8_isPart l hc1 _) ⟨rfl, rfl, Nat.le_of_ble_eq_true rfl, Nat.le_of_ble_eq_true rfl⟩ rfl hl.1 rfl (Nat.le_of_ble_eq_true rfl) dX8_brings_1 ⟨Nat.zero_le _, Nat.zero_le _⟩) (fun H locs Y => ?_)
  refine lv_if_ne (tgt := 11) hx hb dX8_brings_4 (by decide) (fun c3 => ?_) (fun c3 => ?_)
  · have h := ite_f h c3
    refine lv_aload_n hx hb dX8_brings_11 rfl (lv_at hl 0 rfl) ?_
    refine k_get (v := .int (st.1 0 4)) X Y fl_8_96 0 (Nat.le_of_ble_eq_true rfl) rfl rfl dX8_brings_12 ?_
    refine lv_if_ne (tgt := 22) hx hb dX8_brings_15 (by decide) (fun c4 => ?_) (fun c4 => ?_)
    · have h := ite_f h c4
      refine lv_aload_n hx hb dX8_brings_22 rfl (lv_at hl 0 rfl) ?_
      obtain ⟨st6, hc5, h⟩ := bnd1_s h
      refine k_cV Y (k_runV (As := []) (rest := []) (o := 0) X Y cl_8_145 (c_X8_layPlan l hc5 _) ⟨rfl, rfl, Nat.le_of_ble_eq_true rfl, Nat.le_of_ble_eq_true rfl⟩ (Nat.le_of_ble_eq_true rfl) rfl rfl hl.1 rfl (Nat.le_of_ble_eq_true rfl) dX8_brings_23 ⟨Nat.zero_le _, Nat.zero_le _⟩) (fun H locs Y => ?_)
      refine lv_aload_n hx hb dX8_brings_26 rfl (lv_at hl 0 rfl) ?_
      refine lv_iconst (v := 0) hx hb dX8_brings_27 (by decide) ?_
      obtain ⟨st8, hc7, h⟩ := bnd1_s h
      refine k_cV Y (k_runV (As := [.int 0]) (rest := []) (o := 0) X Y cl_8_148 (c_X8_bringFrom l hc7 _) ⟨rfl, rfl, Nat.le_of_ble_eq_true rfl, Nat.le_of_ble_eq_true rfl⟩ (Nat.le_of_ble_eq_true rfl) rfl rfl hl.1 rfl (Nat.le_of_ble_eq_true rfl) dX8_brings_28 ⟨Nat.zero_le _, Nat.zero_le _⟩) (fun H locs Y => ?_)
      refine lv_aload_n hx hb dX8_brings_31 rfl (lv_at hl 0 rfl) ?_
      refine k_get (v := .ref (g.2.1 7)) X Y fl_8_28 0 (Nat.le_of_ble_eq_true rfl) rfl rfl dX8_brings_32 ?_
      refine lv_aload_n hx hb dX8_brings_35 rfl (lv_at hl 0 rfl) ?_
      refine k_get (v := .int (st8.1 0 0)) X Y fl_8_75 0 (Nat.le_of_ble_eq_true rfl) rfl rfl dX8_brings_36 ?_
      obtain ⟨i9, h⟩ := cix_s h
      refine k_lald X Y 7 (Nat.le_of_ble_eq_true rfl) (fun _ _ => rfl) i9 dX8_brings_39 ?_
      refine lv_aload_n hx hb dX8_brings_40 rfl (lv_at hl 0 rfl) ?_
      refine k_get (v := .long (st8.2 0 12)) X Y fl_8_120 0 (Nat.le_of_ble_eq_true rfl) rfl rfl dX8_brings_41 ?_
      refine lv_iload_n hx hb dX8_brings_44 rfl (lv_at hl 1 rfl) ?_
      obtain ⟨v11, hc10, h⟩ := bnd1_s h
      refine k_cJ Y (k_runS (As := [.long (st8.2 7 (st8.1 0 0).toNatClampNeg), .long (st8.2 0 12), .int x1]) (rest := []) X Y cl_8_151 (c_X8_lowest l hc10 _) ⟨rfl, rfl, Nat.le_of_ble_eq_true rfl, Nat.le_of_ble_eq_true rfl⟩ rfl hl.1 rfl (Nat.le_of_ble_eq_true rfl) dX8_brings_45 ⟨Nat.zero_le _, Nat.zero_le _⟩) (fun H locs Y => ?_)
      exact k_lretW X Y h dX8_brings_48
    · have h := ite_t h c4
      refine k_ldc2 X lg_8_143 dX8_brings_18 ?_
      exact k_lretW X Y h dX8_brings_21
  · have h := ite_t h c3
    refine k_ldc2 X lg_8_141 dX8_brings_7 ?_
    exact k_lretW X Y h dX8_brings_10
theorem c_X8_brings (l : Launch) {g : Gx} {x1 : Int32} {st : Sg} {r9 : Int64} {st9 : Sg} (h : X8_brings x1 st = some (r9, st9)) : MetJ l yX8_brings cX8_brings 2 (some .long) rm_X8_brings g nwM (ceM g) [.ref (g.2.1 0), .int x1] st r9 st9 :=
  met_of (Qc := fun A => QJ g nwM (ceM g) A r9 st9) (by decide) (Nat.le_of_ble_eq_true rfl) (fun p e s m below meth c A ls X Y hl => w_X8_brings X h Y hl)
def X8_isSort   (x1 : Int32) (st : Sg) : Option Int32 :=
  bnd1 (X8_in (x1.toInt64) 0 (((st.1 0 9) - 1).toInt64)) fun v2 =>
  cb01 v2 <| some v2
abbrev rm_X8_isSort : Room := { frames := 1, cells := 0, slots := 0, locals := 25 }
set_option maxHeartbeats 4000000 in
set_option maxRecDepth 100000 in
theorem w_X8_isSort (X : Cx g p s m args meth c cX8_isSort 2 RX8 (some .boolean)) {x1 : Int32} {st : Sg} {r9 : Int32}  (h : X8_isSort x1 st = some r9) (Y : Hp g nwM (ceM g) A s.heap st H locs)  (hl : lv_has ls 2 [(0, .ref (g.2.1 0)), (1, .int x1)]) : W p l e rm_X8_isSort s m args below meth c H locs 0 0 (MQ below (QI g nwM (ceM g) A r9 st) args s 0 0 A) (F0 m 0 ls []) := by
  have hx := X.1
  have hb := X.2.1
  unfold X8_isSort at h
  refine lv_iload_n hx hb dX8_isSort_0 rfl (lv_at hl 1 rfl) ?_
  refine lv_i2l hx hb dX8_isSort_1 rfl ?_
  refine lv_lconst (v := 0) hx hb dX8_isSort_2 (by decide) ?_
  refine lv_aload_n hx hb dX8_isSort_3 rfl (lv_at hl 0 rfl) ?_
  refine k_get (v := .int (st.1 0 9)) X Y fl_8_103 0 (Nat.le_of_ble_eq_true rfl) rfl rfl dX8_isSort_4 ?_
  refine lv_iconst (v := 1) hx hb dX8_isSort_7 (by decide) ?_
  refine lv_isub hx hb dX8_isSort_8 ?_
  refine lv_i2l hx hb dX8_isSort_9 rfl ?_
  obtain ⟨v2, hc1, h⟩ := bnd1_s h
  refine k_cI Y (k_runS (As := [.long (x1.toInt64), .long 0, .long (((st.1 0 9) - 1).toInt64)]) (rest := []) X Y cl_8_83 (c_X8_in l hc1 _) ⟨rfl, rfl, Nat.le_of_ble_eq_true rfl, Nat.le_of_ble_eq_true rfl⟩ rfl hl.1 rfl (Nat.le_of_ble_eq_true rfl) dX8_isSort_10 ⟨Nat.zero_le _, Nat.zero_le _⟩) (fun H locs Y => ?_)
  obtain ⟨b3, h⟩ := cb01_s h
  exact k_zretR X Y b3 h dX8_isSort_13
theorem c_X8_isSort (l : Launch) {g : Gx} {x1 : Int32} {st : Sg} {r9 : Int32} (h : X8_isSort x1 st = some r9) : MetI l yX8_isSort cX8_isSort 2 (some .boolean) rm_X8_isSort g nwM (ceM g) [.ref (g.2.1 0), .int x1] st r9 st :=
  met_of (Qc := fun A => QI g nwM (ceM g) A r9 st) (by decide) (Nat.le_of_ble_eq_true rfl) (fun p e s m below meth c A ls X Y hl => w_X8_isSort X h Y hl)
def X8_change_66    (st : Sg) : Option (Int32 × Sg) :=
  some ((-2), st)
def X8_change_183   (x4 : Int32) (st : Sg) : Option (Int32 × Sg) :=
  some (x4, st)
def X8_change_130   (k0 : Int32) (x1 : Int32) (x2 : Int32) (x3 : Int32) (st : Sg) : Option (Int32 × Sg) :=
  if x2 = (0 : Int32) then
    cix x1 3 <|
    nm (sI st 2 x1.toNatClampNeg x3) fun st11 =>
    X8_change_183 k0 st11
  else
    if x2 = (1 : Int32) then
      cix x1 3 <|
      nm (sI st 3 x1.toNatClampNeg x3) fun st9 =>
      X8_change_183 k0 st9
    else
      if x2 = (2 : Int32) then
        cix x1 3 <|
        nm (sI st 4 x1.toNatClampNeg x3) fun st7 =>
        X8_change_183 k0 st7
      else
        cix x1 3 <|
        nm (sI st 5 x1.toNatClampNeg x3) fun st5 =>
        X8_change_183 k0 st5
def X8_change_60   (k0 : Int64) (k1 : Int64) (k2 : Int64) (x1 : Int32) (x2 : Int32) (x3 : Int32) (st : Sg) : Option (Int32 × Sg) :=
  bnd1 (X8_in k0 k1 k2) fun v2 =>
  if v2 = (0 : Int32) then
    X8_change_66 st
  else
    if x2 = (0 : Int32) then
      cix x1 3 <|
      X8_change_130 (st.1 2 x1.toNatClampNeg) x1 x2 x3 st
    else
      if x2 = (1 : Int32) then
        cix x1 3 <|
        X8_change_130 (st.1 3 x1.toNatClampNeg) x1 x2 x3 st
      else
        if x2 = (2 : Int32) then
          cix x1 3 <|
          X8_change_130 (st.1 4 x1.toNatClampNeg) x1 x2 x3 st
        else
          cix x1 3 <|
          if (0 : Int32) ≤ (st.1 5 x1.toNatClampNeg) then
            cix x1 3 <|
            X8_change_130 (st.1 5 x1.toNatClampNeg) x1 x2 x3 st
          else
            X8_change_130 (-6) x1 x2 x3 st
def X8_change_36   (k0 : Int64) (k1 : Int64) (x1 : Int32) (x2 : Int32) (x3 : Int32) (st : Sg) : Option (Int32 × Sg) :=
  if x2 = (0 : Int32) then
    X8_change_60 k0 k1 4 x1 x2 x3 st
  else
    if x2 = (1 : Int32) then
      X8_change_60 k0 k1 99 x1 x2 x3 st
    else
      X8_change_60 k0 k1 30 x1 x2 x3 st
def X8_change   (x1 : Int32) (x2 : Int32) (x3 : Int32) (st : Sg) : Option (Int32 × Sg) :=
  bnd1 (X8_isSort x1 st) fun v2 =>
  if v2 = (0 : Int32) then
    some ((-1), st)
  else
    bnd1 (X8_in (x2.toInt64) 0 3) fun v5 =>
    if v5 = (0 : Int32) then
      X8_change_66 st
    else
      if x2 = (3 : Int32) then
        X8_change_36 (x3.toInt64) (-1) x1 x2 x3 st
      else
        X8_change_36 (x3.toInt64) 0 x1 x2 x3 st
abbrev rm_X8_change : Room := { frames := 2, cells := 0, slots := 0, locals := 46 }
set_option maxHeartbeats 4000000 in
set_option maxRecDepth 100000 in
theorem w_X8_change_66 (X : Cx g p s m args meth c cX8_change 5 RX8 (some .int))  {st : Sg} {r9 : Int32} {st9 : Sg}  (h : X8_change_66 st = some (r9, st9)) (Y : Hp g nwM (ceM g) A s.heap st H locs)  (hl : lv_has ls 5 []) : W p l e rm_X8_change s m args below meth c H locs 0 0 (MQ below (QI g nwM (ceM g) A r9 st9) args s 0 0 A) (F0 m 66 ls []) := by
  have hx := X.1
  have hb := X.2.1
  unfold X8_change_66 at h
  refine lv_bipush (v := (-2)) hx hb dX8_change_66 (by decide) ?_
  exact k_iretW X Y h dX8_change_68
set_option maxHeartbeats 4000000 in
set_option maxRecDepth 100000 in
theorem w_X8_change_183 (X : Cx g p s m args meth c cX8_change 5 RX8 (some .int)) {x4 : Int32} {st : Sg} {r9 : Int32} {st9 : Sg}  (h : X8_change_183 x4 st = some (r9, st9)) (Y : Hp g nwM (ceM g) A s.heap st H locs)  (hl : lv_has ls 5 [(4, .int x4)]) : W p l e rm_X8_change s m args below meth c H locs 0 0 (MQ below (QI g nwM (ceM g) A r9 st9) args s 0 0 A) (F0 m 183 ls []) := by
  have hx := X.1
  have hb := X.2.1
  unfold X8_change_183 at h
  refine lv_iload hx hb dX8_change_183 (lv_at hl 0 rfl) ?_
  exact k_iretW X Y h dX8_change_185
set_option maxHeartbeats 4000000 in
set_option maxRecDepth 100000 in
theorem w_X8_change_130 (X : Cx g p s m args meth c cX8_change 5 RX8 (some .int)) {k0 : Int32} {x1 : Int32} {x2 : Int32} {x3 : Int32} {st : Sg} {r9 : Int32} {st9 : Sg}  (h : X8_change_130 k0 x1 x2 x3 st = some (r9, st9)) (Y : Hp g nwM (ceM g) A s.heap st H locs)  (hl : lv_has ls 5 [(0, .ref (g.2.1 0)), (1, .int x1), (2, .int x2), (3, .int x3)]) : W p l e rm_X8_change s m args below meth c H locs 0 0 (MQ below (QI g nwM (ceM g) A r9 st9) args s 0 0 A) (F0 m 130 ls [.int k0]) := by
  have hx := X.1
  have hb := X.2.1
  unfold X8_change_130 at h
  refine lv_istore (lv' := [(4, .int k0), (0, .ref (g.2.1 0)), (1, .int x1), (2, .int x2), (3, .int x3)]) hx hb dX8_change_130 hl (by decide) rfl (fun ls hl => ?_)
  refine lv_iload_n hx hb dX8_change_132 rfl (lv_at hl 3 rfl) ?_
  refine lv_if_ne (tgt := 146) hx hb dX8_change_133 (by decide) (fun c1 => ?_) (fun c1 => ?_)
  · have h := ite_f h c1
    refine lv_iload_n hx hb dX8_change_146 rfl (lv_at hl 3 rfl) ?_
    refine lv_iconst (v := 1) hx hb dX8_change_147 (by decide) ?_
    refine lv_icmp_ne (tgt := 161) hx hb dX8_change_148 (by decide) (fun c2 => ?_) (fun c2 => ?_)
    · have h := ite_f h c2
      refine lv_iload_n hx hb dX8_change_161 rfl (lv_at hl 3 rfl) ?_
      refine lv_iconst (v := 2) hx hb dX8_change_162 (by decide) ?_
      refine lv_icmp_ne (tgt := 176) hx hb dX8_change_163 (by decide) (fun c3 => ?_) (fun c3 => ?_)
      · have h := ite_f h c3
        refine lv_aload_n hx hb dX8_change_176 rfl (lv_at hl 1 rfl) ?_
        refine k_get (v := .ref (g.2.1 5)) X Y fl_8_22 0 (Nat.le_of_ble_eq_true rfl) rfl rfl dX8_change_177 ?_
        refine lv_iload_n hx hb dX8_change_180 rfl (lv_at hl 2 rfl) ?_
        refine lv_iload_n hx hb dX8_change_181 rfl (lv_at hl 4 rfl) ?_
        obtain ⟨i4, h⟩ := cix_s h
        refine k_iast X Y 5 (Nat.le_of_ble_eq_true rfl) (fun _ _ => rfl) i4 dX8_change_182 (fun H locs Y => ?_)
        obtain ⟨st5, est5, h⟩ := nm_s h
        have Y : Hp g nwM (ceM g) A s.heap st5 H locs := by rw [est5]; exact Y
        exact w_X8_change_183 X  h Y  (lv_sub hl [0] rfl)
      · have h := ite_t h c3
        refine lv_aload_n hx hb dX8_change_166 rfl (lv_at hl 1 rfl) ?_
        refine k_get (v := .ref (g.2.1 4)) X Y fl_8_19 0 (Nat.le_of_ble_eq_true rfl) rfl rfl dX8_change_167 ?_
        refine lv_iload_n hx hb dX8_change_170 rfl (lv_at hl 2 rfl) ?_
        refine lv_iload_n hx hb dX8_change_171 rfl (lv_at hl 4 rfl) ?_
        obtain ⟨i6, h⟩ := cix_s h
        refine k_iast X Y 4 (Nat.le_of_ble_eq_true rfl) (fun _ _ => rfl) i6 dX8_change_172 (fun H locs Y => ?_)
        obtain ⟨st7, est7, h⟩ := nm_s h
        have Y : Hp g nwM (ceM g) A s.heap st7 H locs := by rw [est7]; exact Y
        refine lv_goto (tgt := 183) hx hb dX8_change_173 (by decide) ?_
        exact w_X8_change_183 X  h Y  (lv_sub hl [0] rfl)
    · have h := ite_t h c2
      refine lv_aload_n hx hb dX8_change_151 rfl (lv_at hl 1 rfl) ?_
      refine k_get (v := .ref (g.2.1 3)) X Y fl_8_16 0 (Nat.le_of_ble_eq_true rfl) rfl rfl dX8_change_152 ?_
      refine lv_iload_n hx hb dX8_change_155 rfl (lv_at hl 2 rfl) ?_
      refine lv_iload_n hx hb dX8_change_156 rfl (lv_at hl 4 rfl) ?_
      obtain ⟨i8, h⟩ := cix_s h
      refine k_iast X Y 3 (Nat.le_of_ble_eq_true rfl) (fun _ _ => rfl) i8 dX8_change_157 (fun H locs Y => ?_)
      obtain ⟨st9, est9, h⟩ := nm_s h
      have Y : Hp g nwM (ceM g) A s.heap st9 H locs := by rw [est9]; exact Y
      refine lv_goto (tgt := 183) hx hb dX8_change_158 (by decide) ?_
      exact w_X8_change_183 X  h Y  (lv_sub hl [0] rfl)
  · have h := ite_t h c1
    refine lv_aload_n hx hb dX8_change_136 rfl (lv_at hl 1 rfl) ?_
    refine k_get (v := .ref (g.2.1 2)) X Y fl_8_13 0 (Nat.le_of_ble_eq_true rfl) rfl rfl dX8_change_137 ?_
    refine lv_iload_n hx hb dX8_change_140 rfl (lv_at hl 2 rfl) ?_
    refine lv_iload_n hx hb dX8_change_141 rfl (lv_at hl 4 rfl) ?_
    obtain ⟨i10, h⟩ := cix_s h
    refine k_iast X Y 2 (Nat.le_of_ble_eq_true rfl) (fun _ _ => rfl) i10 dX8_change_142 (fun H locs Y => ?_)
    obtain ⟨st11, est11, h⟩ := nm_s h
    have Y : Hp g nwM (ceM g) A s.heap st11 H locs := by rw [est11]; exact Y
    refine lv_goto (tgt := 183) hx hb dX8_change_143 (by decide) ?_
    exact w_X8_change_183 X  h Y  (lv_sub hl [0] rfl)
set_option maxHeartbeats 4000000 in
set_option maxRecDepth 100000 in
theorem w_X8_change_60 (X : Cx g p s m args meth c cX8_change 5 RX8 (some .int)) {k0 : Int64} {k1 : Int64} {k2 : Int64} {x1 : Int32} {x2 : Int32} {x3 : Int32} {st : Sg} {r9 : Int32} {st9 : Sg}  (h : X8_change_60 k0 k1 k2 x1 x2 x3 st = some (r9, st9)) (Y : Hp g nwM (ceM g) A s.heap st H locs)  (hl : lv_has ls 5 [(0, .ref (g.2.1 0)), (1, .int x1), (2, .int x2), (3, .int x3)]) : W p l e rm_X8_change s m args below meth c H locs 0 0 (MQ below (QI g nwM (ceM g) A r9 st9) args s 0 0 A) (F0 m 60 ls [.long k2, .long k1, .long k0]) := by
  have hx := X.1
  have hb := X.2.1
  unfold X8_change_60 at h
  obtain ⟨v2, hc1, h⟩ := bnd1_s h
  refine k_cI Y (k_runS (As := [.long k0, .long k1, .long k2]) (rest := []) X Y cl_8_83 (c_X8_in l hc1 _) ⟨rfl, rfl, Nat.le_of_ble_eq_true rfl, Nat.le_of_ble_eq_true rfl⟩ rfl hl.1 rfl (Nat.le_of_ble_eq_true rfl) dX8_change_60 ⟨Nat.zero_le _, Nat.zero_le _⟩) (fun H locs Y => ?_)
  refine lv_if_ne (tgt := 69) hx hb dX8_change_63 (by decide) (fun c3 => ?_) (fun c3 => ?_)
  · have h := ite_f h c3
    refine lv_iload_n hx hb dX8_change_69 rfl (lv_at hl 2 rfl) ?_
    refine lv_if_ne (tgt := 82) hx hb dX8_change_70 (by decide) (fun c4 => ?_) (fun c4 => ?_)
    · have h := ite_f h c4
      refine lv_iload_n hx hb dX8_change_82 rfl (lv_at hl 2 rfl) ?_
      refine lv_iconst (v := 1) hx hb dX8_change_83 (by decide) ?_
      refine lv_icmp_ne (tgt := 96) hx hb dX8_change_84 (by decide) (fun c5 => ?_) (fun c5 => ?_)
      · have h := ite_f h c5
        refine lv_iload_n hx hb dX8_change_96 rfl (lv_at hl 2 rfl) ?_
        refine lv_iconst (v := 2) hx hb dX8_change_97 (by decide) ?_
        refine lv_icmp_ne (tgt := 110) hx hb dX8_change_98 (by decide) (fun c6 => ?_) (fun c6 => ?_)
        · have h := ite_f h c6
          refine lv_aload_n hx hb dX8_change_110 rfl (lv_at hl 0 rfl) ?_
          refine k_get (v := .ref (g.2.1 5)) X Y fl_8_22 0 (Nat.le_of_ble_eq_true rfl) rfl rfl dX8_change_111 ?_
          refine lv_iload_n hx hb dX8_change_114 rfl (lv_at hl 1 rfl) ?_
          obtain ⟨i7, h⟩ := cix_s h
          refine k_iald X Y 5 (Nat.le_of_ble_eq_true rfl) (fun _ _ => rfl) i7 dX8_change_115 ?_
          refine lv_if_ge (tgt := 124) hx hb dX8_change_116 (by decide) (fun c8 => ?_) (fun c8 => ?_)
          · have h := ite_t h c8
            refine lv_aload_n hx hb dX8_change_124 rfl (lv_at hl 0 rfl) ?_
            refine k_get (v := .ref (g.2.1 5)) X Y fl_8_22 0 (Nat.le_of_ble_eq_true rfl) rfl rfl dX8_change_125 ?_
            refine lv_iload_n hx hb dX8_change_128 rfl (lv_at hl 1 rfl) ?_
            obtain ⟨i9, h⟩ := cix_s h
            refine k_iald X Y 5 (Nat.le_of_ble_eq_true rfl) (fun _ _ => rfl) i9 dX8_change_129 ?_
            exact w_X8_change_130 X  h Y  (lv_sub hl [0, 1, 2, 3] rfl)
          · have h := ite_f h c8
            refine lv_bipush (v := (-6)) hx hb dX8_change_119 (by decide) ?_
            refine lv_goto (tgt := 130) hx hb dX8_change_121 (by decide) ?_
            exact w_X8_change_130 X  h Y  (lv_sub hl [0, 1, 2, 3] rfl)
        · have h := ite_t h c6
          refine lv_aload_n hx hb dX8_change_101 rfl (lv_at hl 0 rfl) ?_
          refine k_get (v := .ref (g.2.1 4)) X Y fl_8_19 0 (Nat.le_of_ble_eq_true rfl) rfl rfl dX8_change_102 ?_
          refine lv_iload_n hx hb dX8_change_105 rfl (lv_at hl 1 rfl) ?_
          obtain ⟨i10, h⟩ := cix_s h
          refine k_iald X Y 4 (Nat.le_of_ble_eq_true rfl) (fun _ _ => rfl) i10 dX8_change_106 ?_
          refine lv_goto (tgt := 130) hx hb dX8_change_107 (by decide) ?_
          exact w_X8_change_130 X  h Y  (lv_sub hl [0, 1, 2, 3] rfl)
      · have h := ite_t h c5
        refine lv_aload_n hx hb dX8_change_87 rfl (lv_at hl 0 rfl) ?_
        refine k_get (v := .ref (g.2.1 3)) X Y fl_8_16 0 (Nat.le_of_ble_eq_true rfl) rfl rfl dX8_change_88 ?_
        refine lv_iload_n hx hb dX8_change_91 rfl (lv_at hl 1 rfl) ?_
        obtain ⟨i11, h⟩ := cix_s h
        refine k_iald X Y 3 (Nat.le_of_ble_eq_true rfl) (fun _ _ => rfl) i11 dX8_change_92 ?_
        refine lv_goto (tgt := 130) hx hb dX8_change_93 (by decide) ?_
        exact w_X8_change_130 X  h Y  (lv_sub hl [0, 1, 2, 3] rfl)
    · have h := ite_t h c4
      refine lv_aload_n hx hb dX8_change_73 rfl (lv_at hl 0 rfl) ?_
      refine k_get (v := .ref (g.2.1 2)) X Y fl_8_13 0 (Nat.le_of_ble_eq_true rfl) rfl rfl dX8_change_74 ?_
      refine lv_iload_n hx hb dX8_change_77 rfl (lv_at hl 1 rfl) ?_
      obtain ⟨i12, h⟩ := cix_s h
      refine k_iald X Y 2 (Nat.le_of_ble_eq_true rfl) (fun _ _ => rfl) i12 dX8_change_78 ?_
      refine lv_goto (tgt := 130) hx hb dX8_change_79 (by decide) ?_
      exact w_X8_change_130 X  h Y  (lv_sub hl [0, 1, 2, 3] rfl)
  · have h := ite_t h c3
    exact w_X8_change_66 X  h Y  (lv_sub hl [] rfl)
set_option maxHeartbeats 4000000 in
set_option maxRecDepth 100000 in
theorem w_X8_change_36 (X : Cx g p s m args meth c cX8_change 5 RX8 (some .int)) {k0 : Int64} {k1 : Int64} {x1 : Int32} {x2 : Int32} {x3 : Int32} {st : Sg} {r9 : Int32} {st9 : Sg}  (h : X8_change_36 k0 k1 x1 x2 x3 st = some (r9, st9)) (Y : Hp g nwM (ceM g) A s.heap st H locs)  (hl : lv_has ls 5 [(0, .ref (g.2.1 0)), (1, .int x1), (2, .int x2), (3, .int x3)]) : W p l e rm_X8_change s m args below meth c H locs 0 0 (MQ below (QI g nwM (ceM g) A r9 st9) args s 0 0 A) (F0 m 36 ls [.long k1, .long k0]) := by
  have hx := X.1
  have hb := X.2.1
  unfold X8_change_36 at h
  refine lv_iload_n hx hb dX8_change_36 rfl (lv_at hl 2 rfl) ?_
  refine lv_if_ne (tgt := 46) hx hb dX8_change_37 (by decide) (fun c1 => ?_) (fun c1 => ?_)
  · have h := ite_f h c1
    refine lv_iload_n hx hb dX8_change_46 rfl (lv_at hl 2 rfl) ?_
    refine lv_iconst (v := 1) hx hb dX8_change_47 (by decide) ?_
    refine lv_icmp_ne (tgt := 57) hx hb dX8_change_48 (by decide) (fun c2 => ?_) (fun c2 => ?_)
    · have h := ite_f h c2
      refine k_ldc2 X lg_8_101 dX8_change_57 ?_
      exact w_X8_change_60 X  h Y  (lv_sub hl [0, 1, 2, 3] rfl)
    · have h := ite_t h c2
      refine k_ldc2 X lg_8_91 dX8_change_51 ?_
      refine lv_goto (tgt := 60) hx hb dX8_change_54 (by decide) ?_
      exact w_X8_change_60 X  h Y  (lv_sub hl [0, 1, 2, 3] rfl)
  · have h := ite_t h c1
    refine k_ldc2 X lg_8_99 dX8_change_40 ?_
    refine lv_goto (tgt := 60) hx hb dX8_change_43 (by decide) ?_
    exact w_X8_change_60 X  h Y  (lv_sub hl [0, 1, 2, 3] rfl)
set_option maxHeartbeats 4000000 in
set_option maxRecDepth 100000 in
theorem w_X8_change (X : Cx g p s m args meth c cX8_change 5 RX8 (some .int)) {x1 : Int32} {x2 : Int32} {x3 : Int32} {st : Sg} {r9 : Int32} {st9 : Sg}  (h : X8_change x1 x2 x3 st = some (r9, st9)) (Y : Hp g nwM (ceM g) A s.heap st H locs)  (hl : lv_has ls 5 [(0, .ref (g.2.1 0)), (1, .int x1), (2, .int x2), (3, .int x3)]) : W p l e rm_X8_change s m args below meth c H locs 0 0 (MQ below (QI g nwM (ceM g) A r9 st9) args s 0 0 A) (F0 m 0 ls []) := by
  have hx := X.1
  have hb := X.2.1
  unfold X8_change at h
  refine lv_aload_n hx hb dX8_change_0 rfl (lv_at hl 0 rfl) ?_
  refine lv_iload_n hx hb dX8_change_1 rfl (lv_at hl 1 rfl) ?_
  obtain ⟨v2, hc1, h⟩ := bnd1_s h
  refine k_cI Y (k_runV (As := [.int x1]) (rest := []) (o := 0) X Y cl_8_106 (c_X8_isSort l hc1 _) ⟨rfl, rfl, Nat.le_of_ble_eq_true rfl, Nat.le_of_ble_eq_true rfl⟩ (Nat.le_of_ble_eq_true rfl) rfl rfl hl.1 rfl (Nat.le_of_ble_eq_true rfl) dX8_change_2 ⟨Nat.zero_le _, Nat.zero_le _⟩) (fun H locs Y => ?_)
  refine lv_if_ne (tgt := 10) hx hb dX8_change_5 (by decide) (fun c3 => ?_) (fun c3 => ?_)
  · have h := ite_f h c3
    refine lv_iload_n hx hb dX8_change_10 rfl (lv_at hl 2 rfl) ?_
    refine lv_i2l hx hb dX8_change_11 rfl ?_
    refine lv_lconst (v := 0) hx hb dX8_change_12 (by decide) ?_
    refine k_ldc2 X lg_8_110 dX8_change_13 ?_
    obtain ⟨v5, hc4, h⟩ := bnd1_s h
    refine k_cI Y (k_runS (As := [.long (x2.toInt64), .long 0, .long 3]) (rest := []) X Y cl_8_83 (c_X8_in l hc4 _) ⟨rfl, rfl, Nat.le_of_ble_eq_true rfl, Nat.le_of_ble_eq_true rfl⟩ rfl hl.1 rfl (Nat.le_of_ble_eq_true rfl) dX8_change_16 ⟨Nat.zero_le _, Nat.zero_le _⟩) (fun H locs Y => ?_)
    refine lv_if_eq (tgt := 66) hx hb dX8_change_19 (by decide) (fun c6 => ?_) (fun c6 => ?_)
    · have h := ite_t h c6
      exact w_X8_change_66 X  h Y  (lv_sub hl [] rfl)
    · have h := ite_f h c6
      refine lv_iload_n hx hb dX8_change_22 rfl (lv_at hl 3 rfl) ?_
      refine lv_i2l hx hb dX8_change_23 rfl ?_
      refine lv_iload_n hx hb dX8_change_24 rfl (lv_at hl 2 rfl) ?_
      refine lv_iconst (v := 3) hx hb dX8_change_25 (by decide) ?_
      refine lv_icmp_ne (tgt := 35) hx hb dX8_change_26 (by decide) (fun c7 => ?_) (fun c7 => ?_)
      · have h := ite_f h c7
        refine lv_lconst (v := 0) hx hb dX8_change_35 (by decide) ?_
        exact w_X8_change_36 X  h Y  (lv_sub hl [0, 1, 2, 3] rfl)
      · have h := ite_t h c7
        refine k_ldc2 X lg_8_112 dX8_change_29 ?_
        refine lv_goto (tgt := 36) hx hb dX8_change_32 (by decide) ?_
        exact w_X8_change_36 X  h Y  (lv_sub hl [0, 1, 2, 3] rfl)
  · have h := ite_t h c3
    refine lv_iconst (v := (-1)) hx hb dX8_change_8 (by decide) ?_
    exact k_iretW X Y h dX8_change_9
theorem c_X8_change (l : Launch) {g : Gx} {x1 : Int32} {x2 : Int32} {x3 : Int32} {st : Sg} {r9 : Int32} {st9 : Sg} (h : X8_change x1 x2 x3 st = some (r9, st9)) : MetI l yX8_change cX8_change 5 (some .int) rm_X8_change g nwM (ceM g) [.ref (g.2.1 0), .int x1, .int x2, .int x3] st r9 st9 :=
  met_of (Qc := fun A => QI g nwM (ceM g) A r9 st9) (by decide) (Nat.le_of_ble_eq_true rfl) (fun p e s m below meth c A ls X Y hl => w_X8_change X h Y hl)
def X8_dip_72   (x3 : Int32) (x4 : Int32) (st : Sg) : Option (Int32 × Sg) :=
  some ((100 * x3) + x4, st)
def X8_dip_83  (rc18 : Int32 → Int32 → Sg → Option (Int32 × Sg)) (rc29 : Int32 → Int32 → Sg → Option (Int32 × Sg)) (x1 : Int32) (x2 : Int32) (x3 : Int32) (x4 : Int32) (st : Sg) : Option (Int32 × Sg) :=
  nm (x4 + 1) fun v1 =>
  rc29 x2 v1 st
def X8_dip_89  (rc18 : Int32 → Int32 → Sg → Option (Int32 × Sg)) (x1 : Int32) (x2 : Int32) (x3 : Int32) (st : Sg) : Option (Int32 × Sg) :=
  nm (x3 + 1) fun v1 =>
  rc18 x2 v1 st
def X8_dip_29b  (rc18 : Int32 → Int32 → Sg → Option (Int32 × Sg)) (rc29 : Int32 → Int32 → Sg → Option (Int32 × Sg)) (x1 : Int32) (x2 : Int32) (x3 : Int32) (x4 : Int32) (st : Sg) : Option (Int32 × Sg) :=
  if (st.1 0 0) ≤ x4 then
    X8_dip_89 rc18 x1 x2 x3 st
  else
    cix ((13 * x3) + x4) 78 <|
    cix (((13 * x3) + x4) + 1) 78 <|
    if (st.1 9 ((13 * x3) + x4).toNatClampNeg) ≤ (st.1 9 (((13 * x3) + x4) + 1).toNatClampNeg) then
      X8_dip_83 rc18 rc29 x1 x2 x3 x4 st
    else
      if x2 = x1 then
        X8_dip_72 x3 x4 st
      else
        nm (x2 + 1) fun v6 =>
        X8_dip_83 rc18 rc29 x1 v6 x3 x4 st
def X8_dip_29  (rc18 : Int32 → Int32 → Sg → Option (Int32 × Sg)) (x1 : Int32) (x3 : Int32) : Nat → Int32 → Int32 → Sg → Option (Int32 × Sg)
  | 0, _, _, _ => none
  | k + 1, x2, x4, st => X8_dip_29b  rc18 (X8_dip_29 rc18 x1 x3 k) x1 x2 x3 x4 st
def X8_dip_106   (k0 : Int32) (st : Sg) : Option (Int32 × Sg) :=
  some (k0, st)
def X8_dip_95   (x1 : Int32) (x2 : Int32) (st : Sg) : Option (Int32 × Sg) :=
  if x1 = ((-1) : Int32) then
    X8_dip_106 x2 st
  else
    X8_dip_106 (-6) st
def X8_dip_18b  (rc18 : Int32 → Int32 → Sg → Option (Int32 × Sg)) (x1 : Int32) (x2 : Int32) (x3 : Int32) (st : Sg) : Option (Int32 × Sg) :=
  if (st.1 0 1) ≤ x3 then
    X8_dip_95 x1 x2 st
  else
    X8_dip_29 rc18 x1 x3 FU x2 1 st
def X8_dip_18   (x1 : Int32) : Nat → Int32 → Int32 → Sg → Option (Int32 × Sg)
  | 0, _, _, _ => none
  | k + 1, x2, x3, st => X8_dip_18b   (X8_dip_18 x1 k) x1 x2 x3 st
def X8_dip   (x1 : Int32) (st : Sg) : Option (Int32 × Sg) :=
  if (st.1 0 4) = (0 : Int32) then
    some ((-3), st)
  else
    bnd1 (X8_findBest st) fun st3 =>
    X8_dip_18 x1 FU 0 0 st3
abbrev rm_X8_dip : Room := { frames := 3, cells := 0, slots := 0, locals := 72 }
set_option maxHeartbeats 4000000 in
set_option maxRecDepth 100000 in
theorem w_X8_dip_72 (X : Cx g p s m args meth c cX8_dip 5 RX8 (some .int)) {x3 : Int32} {x4 : Int32} {st : Sg} {r9 : Int32} {st9 : Sg}  (h : X8_dip_72 x3 x4 st = some (r9, st9)) (Y : Hp g nwM (ceM g) A s.heap st H locs)  (hl : lv_has ls 5 [(3, .int x3), (4, .int x4)]) : W p l e rm_X8_dip s m args below meth c H locs 0 0 (MQ below (QI g nwM (ceM g) A r9 st9) args s 0 0 A) (F0 m 72 ls []) := by
  have hx := X.1
  have hb := X.2.1
  unfold X8_dip_72 at h
  refine lv_bipush (v := 100) hx hb dX8_dip_72 (by decide) ?_
  refine lv_iload_n hx hb dX8_dip_74 rfl (lv_at hl 0 rfl) ?_
  refine lv_imul hx hb dX8_dip_75 ?_
  refine lv_iload hx hb dX8_dip_76 (lv_at hl 1 rfl) ?_
  refine lv_iadd hx hb dX8_dip_78 ?_
  exact k_iretW X Y h dX8_dip_79
set_option maxHeartbeats 4000000 in
set_option maxRecDepth 100000 in
theorem w_X8_dip_83 (X : Cx g p s m args meth c cX8_dip 5 RX8 (some .int)) {x1 : Int32} {x2 : Int32} {x3 : Int32} {x4 : Int32} {st : Sg} {r9 : Int32} {st9 : Sg} (rc18 : Int32 → Int32 → Sg → Option (Int32 × Sg)) (hrc18 : ∀ (x2 : Int32) (x3 : Int32) (st : Sg) (ls : Array Slot) (H : Heap) (locs : List Loc), rc18 x2 x3 st = some (r9, st9) → Hp g nwM (ceM g) A s.heap st H locs → lv_has ls 5 [(0, .ref (g.2.1 0)), (1, .int x1), (2, .int x2), (3, .int x3)] → W p l e rm_X8_dip s m args below meth c H locs 0 0 (MQ below (QI g nwM (ceM g) A r9 st9) args s 0 0 A) (F0 m 18 ls [])) (rc29 : Int32 → Int32 → Sg → Option (Int32 × Sg)) (hrc29 : ∀ (x2 : Int32) (x4 : Int32) (st : Sg) (ls : Array Slot) (H : Heap) (locs : List Loc), rc29 x2 x4 st = some (r9, st9) → Hp g nwM (ceM g) A s.heap st H locs → lv_has ls 5 [(0, .ref (g.2.1 0)), (1, .int x1), (2, .int x2), (3, .int x3), (4, .int x4)] → W p l e rm_X8_dip s m args below meth c H locs 0 0 (MQ below (QI g nwM (ceM g) A r9 st9) args s 0 0 A) (F0 m 29 ls [])) (h : X8_dip_83 rc18 rc29 x1 x2 x3 x4 st = some (r9, st9)) (Y : Hp g nwM (ceM g) A s.heap st H locs)  (hl : lv_has ls 5 [(0, .ref (g.2.1 0)), (1, .int x1), (2, .int x2), (3, .int x3), (4, .int x4)]) : W p l e rm_X8_dip s m args below meth c H locs 0 0 (MQ below (QI g nwM (ceM g) A r9 st9) args s 0 0 A) (F0 m 83 ls []) := by
  have hx := X.1
  have hb := X.2.1
  unfold X8_dip_83 at h
  obtain ⟨v1, ev1, h⟩ := nm_s h
  refine lv_iinc (v := v1) (lv' := [(4, .int v1), (0, .ref (g.2.1 0)), (1, .int x1), (2, .int x2), (3, .int x3)]) hx hb dX8_dip_83 hl (k := 4) rfl (by rw [ev1]; rfl) (by decide) rfl (fun ls hl => ?_)
  refine lv_goto (tgt := 29) hx hb dX8_dip_86 (by decide) ?_
  exact hrc29 x2 v1 st _ _ _ h Y (lv_sub hl [1, 2, 3, 4, 0] rfl)
set_option maxHeartbeats 4000000 in
set_option maxRecDepth 100000 in
theorem w_X8_dip_89 (X : Cx g p s m args meth c cX8_dip 5 RX8 (some .int)) {x1 : Int32} {x2 : Int32} {x3 : Int32} {st : Sg} {r9 : Int32} {st9 : Sg} (rc18 : Int32 → Int32 → Sg → Option (Int32 × Sg)) (hrc18 : ∀ (x2 : Int32) (x3 : Int32) (st : Sg) (ls : Array Slot) (H : Heap) (locs : List Loc), rc18 x2 x3 st = some (r9, st9) → Hp g nwM (ceM g) A s.heap st H locs → lv_has ls 5 [(0, .ref (g.2.1 0)), (1, .int x1), (2, .int x2), (3, .int x3)] → W p l e rm_X8_dip s m args below meth c H locs 0 0 (MQ below (QI g nwM (ceM g) A r9 st9) args s 0 0 A) (F0 m 18 ls [])) (h : X8_dip_89 rc18 x1 x2 x3 st = some (r9, st9)) (Y : Hp g nwM (ceM g) A s.heap st H locs)  (hl : lv_has ls 5 [(0, .ref (g.2.1 0)), (1, .int x1), (2, .int x2), (3, .int x3)]) : W p l e rm_X8_dip s m args below meth c H locs 0 0 (MQ below (QI g nwM (ceM g) A r9 st9) args s 0 0 A) (F0 m 89 ls []) := by
  have hx := X.1
  have hb := X.2.1
  unfold X8_dip_89 at h
  obtain ⟨v1, ev1, h⟩ := nm_s h
  refine lv_iinc (v := v1) (lv' := [(3, .int v1), (0, .ref (g.2.1 0)), (1, .int x1), (2, .int x2)]) hx hb dX8_dip_89 hl (k := 3) rfl (by rw [ev1]; rfl) (by decide) rfl (fun ls hl => ?_)
  refine lv_goto (tgt := 18) hx hb dX8_dip_92 (by decide) ?_
  exact hrc18 x2 v1 st _ _ _ h Y (lv_sub hl [1, 2, 3, 0] rfl)
set_option maxHeartbeats 4000000 in
set_option maxRecDepth 100000 in
theorem w_X8_dip_29b (X : Cx g p s m args meth c cX8_dip 5 RX8 (some .int)) {x1 : Int32} {x2 : Int32} {x3 : Int32} {x4 : Int32} {st : Sg} {r9 : Int32} {st9 : Sg} (rc18 : Int32 → Int32 → Sg → Option (Int32 × Sg)) (hrc18 : ∀ (x2 : Int32) (x3 : Int32) (st : Sg) (ls : Array Slot) (H : Heap) (locs : List Loc), rc18 x2 x3 st = some (r9, st9) → Hp g nwM (ceM g) A s.heap st H locs → lv_has ls 5 [(0, .ref (g.2.1 0)), (1, .int x1), (2, .int x2), (3, .int x3)] → W p l e rm_X8_dip s m args below meth c H locs 0 0 (MQ below (QI g nwM (ceM g) A r9 st9) args s 0 0 A) (F0 m 18 ls [])) (rc29 : Int32 → Int32 → Sg → Option (Int32 × Sg)) (hrc29 : ∀ (x2 : Int32) (x4 : Int32) (st : Sg) (ls : Array Slot) (H : Heap) (locs : List Loc), rc29 x2 x4 st = some (r9, st9) → Hp g nwM (ceM g) A s.heap st H locs → lv_has ls 5 [(0, .ref (g.2.1 0)), (1, .int x1), (2, .int x2), (3, .int x3), (4, .int x4)] → W p l e rm_X8_dip s m args below meth c H locs 0 0 (MQ below (QI g nwM (ceM g) A r9 st9) args s 0 0 A) (F0 m 29 ls [])) (h : X8_dip_29b rc18 rc29 x1 x2 x3 x4 st = some (r9, st9)) (Y : Hp g nwM (ceM g) A s.heap st H locs)  (hl : lv_has ls 5 [(0, .ref (g.2.1 0)), (1, .int x1), (2, .int x2), (3, .int x3), (4, .int x4)]) : W p l e rm_X8_dip s m args below meth c H locs 0 0 (MQ below (QI g nwM (ceM g) A r9 st9) args s 0 0 A) (F0 m 29 ls []) := by
  have hx := X.1
  have hb := X.2.1
  unfold X8_dip_29b at h
  refine lv_iload hx hb dX8_dip_29 (lv_at hl 4 rfl) ?_
  refine lv_aload_n hx hb dX8_dip_31 rfl (lv_at hl 0 rfl) ?_
  refine k_get (v := .int (st.1 0 0)) X Y fl_8_75 0 (Nat.le_of_ble_eq_true rfl) rfl rfl dX8_dip_32 ?_
  refine lv_icmp_ge (tgt := 89) hx hb dX8_dip_35 (by decide) (fun c1 => ?_) (fun c1 => ?_)
  · have h := ite_t h c1
    exact w_X8_dip_89 X rc18 hrc18 h Y  (lv_sub hl [0, 1, 2, 3] rfl)
  · have h := ite_f h c1
    refine lv_aload_n hx hb dX8_dip_38 rfl (lv_at hl 0 rfl) ?_
    refine k_get (v := .ref (g.2.1 9)) X Y fl_8_35 0 (Nat.le_of_ble_eq_true rfl) rfl rfl dX8_dip_39 ?_
    refine lv_bipush (v := 13) hx hb dX8_dip_42 (by decide) ?_
    refine lv_iload_n hx hb dX8_dip_44 rfl (lv_at hl 3 rfl) ?_
    refine lv_imul hx hb dX8_dip_45 ?_
    refine lv_iload hx hb dX8_dip_46 (lv_at hl 4 rfl) ?_
    refine lv_iadd hx hb dX8_dip_48 ?_
    obtain ⟨i2, h⟩ := cix_s h
    refine k_iald X Y 9 (Nat.le_of_ble_eq_true rfl) (fun _ _ => rfl) i2 dX8_dip_49 ?_
    refine lv_aload_n hx hb dX8_dip_50 rfl (lv_at hl 0 rfl) ?_
    refine k_get (v := .ref (g.2.1 9)) X Y fl_8_35 0 (Nat.le_of_ble_eq_true rfl) rfl rfl dX8_dip_51 ?_
    refine lv_bipush (v := 13) hx hb dX8_dip_54 (by decide) ?_
    refine lv_iload_n hx hb dX8_dip_56 rfl (lv_at hl 3 rfl) ?_
    refine lv_imul hx hb dX8_dip_57 ?_
    refine lv_iload hx hb dX8_dip_58 (lv_at hl 4 rfl) ?_
    refine lv_iadd hx hb dX8_dip_60 ?_
    refine lv_iconst (v := 1) hx hb dX8_dip_61 (by decide) ?_
    refine lv_iadd hx hb dX8_dip_62 ?_
    obtain ⟨i3, h⟩ := cix_s h
    refine k_iald X Y 9 (Nat.le_of_ble_eq_true rfl) (fun _ _ => rfl) i3 dX8_dip_63 ?_
    refine lv_icmp_le (tgt := 83) hx hb dX8_dip_64 (by decide) (fun c4 => ?_) (fun c4 => ?_)
    · have h := ite_t h c4
      exact w_X8_dip_83 X rc18 hrc18 rc29 hrc29 h Y  (lv_sub hl [0, 1, 2, 3, 4] rfl)
    · have h := ite_f h c4
      refine lv_iload_n hx hb dX8_dip_67 rfl (lv_at hl 2 rfl) ?_
      refine lv_iload_n hx hb dX8_dip_68 rfl (lv_at hl 1 rfl) ?_
      refine lv_icmp_ne (tgt := 80) hx hb dX8_dip_69 (by decide) (fun c5 => ?_) (fun c5 => ?_)
      · have h := ite_f h c5
        obtain ⟨v6, ev6, h⟩ := nm_s h
        refine lv_iinc (v := v6) (lv' := [(2, .int v6), (0, .ref (g.2.1 0)), (1, .int x1), (3, .int x3), (4, .int x4)]) hx hb dX8_dip_80 hl (k := 2) rfl (by rw [ev6]; rfl) (by decide) rfl (fun ls hl => ?_)
        exact w_X8_dip_83 X rc18 hrc18 rc29 hrc29 h Y  (lv_sub hl [1, 2, 0, 3, 4] rfl)
      · have h := ite_t h c5
        exact w_X8_dip_72 X  h Y  (lv_sub hl [3, 4] rfl)
theorem w_X8_dip_29 (X : Cx g p s m args meth c cX8_dip 5 RX8 (some .int)) {x1 : Int32} {x3 : Int32}  {r9 : Int32} {st9 : Sg} (rc18 : Int32 → Int32 → Sg → Option (Int32 × Sg)) (hrc18 : ∀ (x2 : Int32) (x3 : Int32) (st : Sg) (ls : Array Slot) (H : Heap) (locs : List Loc), rc18 x2 x3 st = some (r9, st9) → Hp g nwM (ceM g) A s.heap st H locs → lv_has ls 5 [(0, .ref (g.2.1 0)), (1, .int x1), (2, .int x2), (3, .int x3)] → W p l e rm_X8_dip s m args below meth c H locs 0 0 (MQ below (QI g nwM (ceM g) A r9 st9) args s 0 0 A) (F0 m 18 ls []))  : ∀ (k : Nat) (x2 : Int32) (x4 : Int32) (st : Sg) (ls : Array Slot) (H : Heap) (locs : List Loc), X8_dip_29 rc18 x1 x3 k x2 x4 st = some (r9, st9) → Hp g nwM (ceM g) A s.heap st H locs → lv_has ls 5 [(0, .ref (g.2.1 0)), (1, .int x1), (2, .int x2), (3, .int x3), (4, .int x4)] → W p l e rm_X8_dip s m args below meth c H locs 0 0 (MQ below (QI g nwM (ceM g) A r9 st9) args s 0 0 A) (F0 m 29 ls []) := by
  intro k
  induction k with
  | zero =>
    intro x2 x4 st ls H locs h
    exact none_s h
  | succ k ih =>
    intro x2 x4 st ls H locs h Y hl
    exact w_X8_dip_29b X rc18 hrc18 (X8_dip_29 rc18 x1 x3 k) ih h Y  hl
set_option maxHeartbeats 4000000 in
set_option maxRecDepth 100000 in
theorem w_X8_dip_106 (X : Cx g p s m args meth c cX8_dip 5 RX8 (some .int)) {k0 : Int32} {st : Sg} {r9 : Int32} {st9 : Sg}  (h : X8_dip_106 k0 st = some (r9, st9)) (Y : Hp g nwM (ceM g) A s.heap st H locs)  (hl : lv_has ls 5 []) : W p l e rm_X8_dip s m args below meth c H locs 0 0 (MQ below (QI g nwM (ceM g) A r9 st9) args s 0 0 A) (F0 m 106 ls [.int k0]) := by
  have hx := X.1
  have hb := X.2.1
  unfold X8_dip_106 at h
  exact k_iretW X Y h dX8_dip_106
set_option maxHeartbeats 4000000 in
set_option maxRecDepth 100000 in
theorem w_X8_dip_95 (X : Cx g p s m args meth c cX8_dip 5 RX8 (some .int)) {x1 : Int32} {x2 : Int32} {st : Sg} {r9 : Int32} {st9 : Sg}  (h : X8_dip_95 x1 x2 st = some (r9, st9)) (Y : Hp g nwM (ceM g) A s.heap st H locs)  (hl : lv_has ls 5 [(1, .int x1), (2, .int x2)]) : W p l e rm_X8_dip s m args below meth c H locs 0 0 (MQ below (QI g nwM (ceM g) A r9 st9) args s 0 0 A) (F0 m 95 ls []) := by
  have hx := X.1
  have hb := X.2.1
  unfold X8_dip_95 at h
  refine lv_iload_n hx hb dX8_dip_95 rfl (lv_at hl 0 rfl) ?_
  refine lv_iconst (v := (-1)) hx hb dX8_dip_96 (by decide) ?_
  refine lv_icmp_ne (tgt := 104) hx hb dX8_dip_97 (by decide) (fun c1 => ?_) (fun c1 => ?_)
  · have h := ite_f h c1
    refine lv_bipush (v := (-6)) hx hb dX8_dip_104 (by decide) ?_
    exact w_X8_dip_106 X  h Y  (lv_sub hl [] rfl)
  · have h := ite_t h c1
    refine lv_iload_n hx hb dX8_dip_100 rfl (lv_at hl 1 rfl) ?_
    refine lv_goto (tgt := 106) hx hb dX8_dip_101 (by decide) ?_
    exact w_X8_dip_106 X  h Y  (lv_sub hl [] rfl)
set_option maxHeartbeats 4000000 in
set_option maxRecDepth 100000 in
theorem w_X8_dip_18b (X : Cx g p s m args meth c cX8_dip 5 RX8 (some .int)) {x1 : Int32} {x2 : Int32} {x3 : Int32} {st : Sg} {r9 : Int32} {st9 : Sg} (rc18 : Int32 → Int32 → Sg → Option (Int32 × Sg)) (hrc18 : ∀ (x2 : Int32) (x3 : Int32) (st : Sg) (ls : Array Slot) (H : Heap) (locs : List Loc), rc18 x2 x3 st = some (r9, st9) → Hp g nwM (ceM g) A s.heap st H locs → lv_has ls 5 [(0, .ref (g.2.1 0)), (1, .int x1), (2, .int x2), (3, .int x3)] → W p l e rm_X8_dip s m args below meth c H locs 0 0 (MQ below (QI g nwM (ceM g) A r9 st9) args s 0 0 A) (F0 m 18 ls [])) (h : X8_dip_18b rc18 x1 x2 x3 st = some (r9, st9)) (Y : Hp g nwM (ceM g) A s.heap st H locs)  (hl : lv_has ls 5 [(0, .ref (g.2.1 0)), (1, .int x1), (2, .int x2), (3, .int x3)]) : W p l e rm_X8_dip s m args below meth c H locs 0 0 (MQ below (QI g nwM (ceM g) A r9 st9) args s 0 0 A) (F0 m 18 ls []) := by
  have hx := X.1
  have hb := X.2.1
  unfold X8_dip_18b at h
  refine lv_iload_n hx hb dX8_dip_18 rfl (lv_at hl 3 rfl) ?_
  refine lv_aload_n hx hb dX8_dip_19 rfl (lv_at hl 0 rfl) ?_
  refine k_get (v := .int (st.1 0 1)) X Y fl_8_78 0 (Nat.le_of_ble_eq_true rfl) rfl rfl dX8_dip_20 ?_
  refine lv_icmp_ge (tgt := 95) hx hb dX8_dip_23 (by decide) (fun c1 => ?_) (fun c1 => ?_)
  · have h := ite_t h c1
    exact w_X8_dip_95 X  h Y  (lv_sub hl [1, 2] rfl)
  · have h := ite_f h c1
    refine lv_iconst (v := 1) hx hb dX8_dip_26 (by decide) ?_
    refine lv_istore (lv' := [(4, .int 1), (0, .ref (g.2.1 0)), (1, .int x1), (2, .int x2), (3, .int x3)]) hx hb dX8_dip_27 hl (by decide) rfl (fun ls hl => ?_)
    exact w_X8_dip_29 X rc18 hrc18  FU x2 1 st _ _ _ h Y (lv_sub hl [1, 2, 3, 4, 0] rfl)
theorem w_X8_dip_18 (X : Cx g p s m args meth c cX8_dip 5 RX8 (some .int)) {x1 : Int32}  {r9 : Int32} {st9 : Sg}   : ∀ (k : Nat) (x2 : Int32) (x3 : Int32) (st : Sg) (ls : Array Slot) (H : Heap) (locs : List Loc), X8_dip_18 x1 k x2 x3 st = some (r9, st9) → Hp g nwM (ceM g) A s.heap st H locs → lv_has ls 5 [(0, .ref (g.2.1 0)), (1, .int x1), (2, .int x2), (3, .int x3)] → W p l e rm_X8_dip s m args below meth c H locs 0 0 (MQ below (QI g nwM (ceM g) A r9 st9) args s 0 0 A) (F0 m 18 ls []) := by
  intro k
  induction k with
  | zero =>
    intro x2 x3 st ls H locs h
    exact none_s h
  | succ k ih =>
    intro x2 x3 st ls H locs h Y hl
    exact w_X8_dip_18b X  (X8_dip_18 x1 k) ih h Y  hl
set_option maxHeartbeats 4000000 in
set_option maxRecDepth 100000 in
theorem w_X8_dip (X : Cx g p s m args meth c cX8_dip 5 RX8 (some .int)) {x1 : Int32} {st : Sg} {r9 : Int32} {st9 : Sg}  (h : X8_dip x1 st = some (r9, st9)) (Y : Hp g nwM (ceM g) A s.heap st H locs)  (hl : lv_has ls 5 [(0, .ref (g.2.1 0)), (1, .int x1)]) : W p l e rm_X8_dip s m args below meth c H locs 0 0 (MQ below (QI g nwM (ceM g) A r9 st9) args s 0 0 A) (F0 m 0 ls []) := by
  have hx := X.1
  have hb := X.2.1
  unfold X8_dip at h
  refine lv_aload_n hx hb dX8_dip_0 rfl (lv_at hl 0 rfl) ?_
  refine k_get (v := .int (st.1 0 4)) X Y fl_8_96 0 (Nat.le_of_ble_eq_true rfl) rfl rfl dX8_dip_1 ?_
  refine lv_if_ne (tgt := 10) hx hb dX8_dip_4 (by decide) (fun c1 => ?_) (fun c1 => ?_)
  · have h := ite_f h c1
    refine lv_aload_n hx hb dX8_dip_10 rfl (lv_at hl 0 rfl) ?_
    obtain ⟨st3, hc2, h⟩ := bnd1_s h
    refine k_cV Y (k_runV (As := []) (rest := []) (o := 0) X Y cl_8_158 (c_X8_findBest l hc2 _) ⟨rfl, rfl, Nat.le_of_ble_eq_true rfl, Nat.le_of_ble_eq_true rfl⟩ (Nat.le_of_ble_eq_true rfl) rfl rfl hl.1 rfl (Nat.le_of_ble_eq_true rfl) dX8_dip_11 ⟨Nat.zero_le _, Nat.zero_le _⟩) (fun H locs Y => ?_)
    refine lv_iconst (v := 0) hx hb dX8_dip_14 (by decide) ?_
    refine lv_istore_n (lv' := [(2, .int 0), (0, .ref (g.2.1 0)), (1, .int x1)]) hx hb dX8_dip_15 rfl hl (by decide) rfl (fun ls hl => ?_)
    refine lv_iconst (v := 0) hx hb dX8_dip_16 (by decide) ?_
    refine lv_istore_n (lv' := [(3, .int 0), (2, .int 0), (0, .ref (g.2.1 0)), (1, .int x1)]) hx hb dX8_dip_17 rfl hl (by decide) rfl (fun ls hl => ?_)
    exact w_X8_dip_18 X   FU 0 0 st3 _ _ _ h Y (lv_sub hl [2, 3, 1, 0] rfl)
  · have h := ite_t h c1
    refine lv_bipush (v := (-3)) hx hb dX8_dip_7 (by decide) ?_
    exact k_iretW X Y h dX8_dip_9
theorem c_X8_dip (l : Launch) {g : Gx} {x1 : Int32} {st : Sg} {r9 : Int32} {st9 : Sg} (h : X8_dip x1 st = some (r9, st9)) : MetI l yX8_dip cX8_dip 5 (some .int) rm_X8_dip g nwM (ceM g) [.ref (g.2.1 0), .int x1] st r9 st9 :=
  met_of (Qc := fun A => QI g nwM (ceM g) A r9 st9) (by decide) (Nat.le_of_ble_eq_true rfl) (fun p e s m below meth c A ls X Y hl => w_X8_dip X h Y hl)
def X8_edge_24    (st : Sg) : Option (Int32 × Sg) :=
  some ((-3), st)
def X8_edge_127  (rc46 : Int32 → Int32 → Sg → Option (Int32 × Sg)) (rc60 : Int32 → Int32 → Sg → Option (Int32 × Sg)) (x1 : Int32) (x2 : Int32) (x3 : Int32) (x4 : Int32) (x5 : Int32) (x6 : Int32) (st : Sg) : Option (Int32 × Sg) :=
  nm (x6 + 1) fun v1 =>
  rc60 x4 v1 st
def X8_edge_125  (rc46 : Int32 → Int32 → Sg → Option (Int32 × Sg)) (rc60 : Int32 → Int32 → Sg → Option (Int32 × Sg)) (k0 : Int32) (x1 : Int32) (x2 : Int32) (x3 : Int32) (x5 : Int32) (x6 : Int32) (st : Sg) : Option (Int32 × Sg) :=
  X8_edge_127 rc46 rc60 x1 x2 x3 k0 x5 x6 st
def X8_edge_87  (rc46 : Int32 → Int32 → Sg → Option (Int32 × Sg)) (rc60 : Int32 → Int32 → Sg → Option (Int32 × Sg)) (k0 : Int32) (x1 : Int32) (x2 : Int32) (x3 : Int32) (x4 : Int32) (x5 : Int32) (x6 : Int32) (st : Sg) : Option (Int32 × Sg) :=
  bnd1 (X8_in (k0.toInt64) 0 4) fun v2 =>
  if v2 = (0 : Int32) then
    X8_edge_127 rc46 rc60 x1 x2 x3 x4 x5 x6 st
  else
    cix x1 3 <|
    nm (sI st 2 x1.toNatClampNeg k0) fun st5 =>
    bnd2 (X8_beginPrice st5) fun v8 st7 =>
    if v8 = x3 then
      X8_edge_125 rc46 rc60 (-6) x1 x2 x3 x5 x6 st7
    else
      X8_edge_125 rc46 rc60 k0 x1 x2 x3 x5 x6 st7
def X8_edge_133  (rc46 : Int32 → Int32 → Sg → Option (Int32 × Sg)) (x1 : Int32) (x2 : Int32) (x3 : Int32) (x4 : Int32) (x5 : Int32) (st : Sg) : Option (Int32 × Sg) :=
  nm (x5 + 1) fun v1 =>
  rc46 x4 v1 st
def X8_edge_60b  (rc46 : Int32 → Int32 → Sg → Option (Int32 × Sg)) (rc60 : Int32 → Int32 → Sg → Option (Int32 × Sg)) (x1 : Int32) (x2 : Int32) (x3 : Int32) (x4 : Int32) (x5 : Int32) (x6 : Int32) (st : Sg) : Option (Int32 × Sg) :=
  if (2 : Int32) ≤ x6 then
    X8_edge_133 rc46 x1 x2 x3 x4 x5 st
  else
    if (0 : Int32) ≤ x4 then
      X8_edge_133 rc46 x1 x2 x3 x4 x5 st
    else
      if x6 = (0 : Int32) then
        X8_edge_87 rc46 rc60 (x2 - x5) x1 x2 x3 x4 x5 x6 st
      else
        X8_edge_87 rc46 rc60 (x2 + x5) x1 x2 x3 x4 x5 x6 st
def X8_edge_60  (rc46 : Int32 → Int32 → Sg → Option (Int32 × Sg)) (x1 : Int32) (x2 : Int32) (x3 : Int32) (x5 : Int32) : Nat → Int32 → Int32 → Sg → Option (Int32 × Sg)
  | 0, _, _, _ => none
  | k + 1, x4, x6, st => X8_edge_60b  rc46 (X8_edge_60 rc46 x1 x2 x3 x5 k) x1 x2 x3 x4 x5 x6 st
def X8_edge_139   (x1 : Int32) (x2 : Int32) (x4 : Int32) (st : Sg) : Option (Int32 × Sg) :=
  cix x1 3 <|
  nm (sI st 2 x1.toNatClampNeg x2) fun st2 =>
  some (x4, st2)
def X8_edge_46b  (rc46 : Int32 → Int32 → Sg → Option (Int32 × Sg)) (x1 : Int32) (x2 : Int32) (x3 : Int32) (x4 : Int32) (x5 : Int32) (st : Sg) : Option (Int32 × Sg) :=
  if (4 : Int32) < x5 then
    X8_edge_139 x1 x2 x4 st
  else
    if (0 : Int32) ≤ x4 then
      X8_edge_139 x1 x2 x4 st
    else
      X8_edge_60 rc46 x1 x2 x3 x5 FU x4 0 st
def X8_edge_46   (x1 : Int32) (x2 : Int32) (x3 : Int32) : Nat → Int32 → Int32 → Sg → Option (Int32 × Sg)
  | 0, _, _, _ => none
  | k + 1, x4, x5, st => X8_edge_46b   (X8_edge_46 x1 x2 x3 k) x1 x2 x3 x4 x5 st
def X8_edge   (x1 : Int32) (st : Sg) : Option (Int32 × Sg) :=
  bnd1 (X8_isSort x1 st) fun v2 =>
  if v2 = (0 : Int32) then
    some ((-1), st)
  else
    if (st.1 0 4) = (0 : Int32) then
      X8_edge_24 st
    else
      if (st.1 0 0) = (0 : Int32) then
        X8_edge_24 st
      else
        cix x1 3 <|
        nm (st.1 2 x1.toNatClampNeg) fun v7 =>
        bnd2 (X8_beginPrice st) fun v10 st9 =>
        X8_edge_46 x1 v7 v10 FU (-6) 1 st9
abbrev rm_X8_edge : Room := { frames := 4, cells := 0, slots := 0, locals := 92 }
set_option maxHeartbeats 4000000 in
set_option maxRecDepth 100000 in
theorem w_X8_edge_24 (X : Cx g p s m args meth c cX8_edge 8 RX8 (some .int))  {st : Sg} {r9 : Int32} {st9 : Sg}  (h : X8_edge_24 st = some (r9, st9)) (Y : Hp g nwM (ceM g) A s.heap st H locs)  (hl : lv_has ls 8 []) : W p l e rm_X8_edge s m args below meth c H locs 0 0 (MQ below (QI g nwM (ceM g) A r9 st9) args s 0 0 A) (F0 m 24 ls []) := by
  have hx := X.1
  have hb := X.2.1
  unfold X8_edge_24 at h
  refine lv_bipush (v := (-3)) hx hb dX8_edge_24 (by decide) ?_
  exact k_iretW X Y h dX8_edge_26
set_option maxHeartbeats 4000000 in
set_option maxRecDepth 100000 in
theorem w_X8_edge_127 (X : Cx g p s m args meth c cX8_edge 8 RX8 (some .int)) {x1 : Int32} {x2 : Int32} {x3 : Int32} {x4 : Int32} {x5 : Int32} {x6 : Int32} {st : Sg} {r9 : Int32} {st9 : Sg} (rc46 : Int32 → Int32 → Sg → Option (Int32 × Sg)) (hrc46 : ∀ (x4 : Int32) (x5 : Int32) (st : Sg) (ls : Array Slot) (H : Heap) (locs : List Loc), rc46 x4 x5 st = some (r9, st9) → Hp g nwM (ceM g) A s.heap st H locs → lv_has ls 8 [(0, .ref (g.2.1 0)), (1, .int x1), (2, .int x2), (3, .int x3), (4, .int x4), (5, .int x5)] → W p l e rm_X8_edge s m args below meth c H locs 0 0 (MQ below (QI g nwM (ceM g) A r9 st9) args s 0 0 A) (F0 m 46 ls [])) (rc60 : Int32 → Int32 → Sg → Option (Int32 × Sg)) (hrc60 : ∀ (x4 : Int32) (x6 : Int32) (st : Sg) (ls : Array Slot) (H : Heap) (locs : List Loc), rc60 x4 x6 st = some (r9, st9) → Hp g nwM (ceM g) A s.heap st H locs → lv_has ls 8 [(0, .ref (g.2.1 0)), (1, .int x1), (2, .int x2), (3, .int x3), (4, .int x4), (5, .int x5), (6, .int x6)] → W p l e rm_X8_edge s m args below meth c H locs 0 0 (MQ below (QI g nwM (ceM g) A r9 st9) args s 0 0 A) (F0 m 60 ls [])) (h : X8_edge_127 rc46 rc60 x1 x2 x3 x4 x5 x6 st = some (r9, st9)) (Y : Hp g nwM (ceM g) A s.heap st H locs)  (hl : lv_has ls 8 [(0, .ref (g.2.1 0)), (1, .int x1), (2, .int x2), (3, .int x3), (4, .int x4), (5, .int x5), (6, .int x6)]) : W p l e rm_X8_edge s m args below meth c H locs 0 0 (MQ below (QI g nwM (ceM g) A r9 st9) args s 0 0 A) (F0 m 127 ls []) := by
  have hx := X.1
  have hb := X.2.1
  unfold X8_edge_127 at h
  obtain ⟨v1, ev1, h⟩ := nm_s h
  refine lv_iinc (v := v1) (lv' := [(6, .int v1), (0, .ref (g.2.1 0)), (1, .int x1), (2, .int x2), (3, .int x3), (4, .int x4), (5, .int x5)]) hx hb dX8_edge_127 hl (k := 6) rfl (by rw [ev1]; rfl) (by decide) rfl (fun ls hl => ?_)
  refine lv_goto (tgt := 60) hx hb dX8_edge_130 (by decide) ?_
  exact hrc60 x4 v1 st _ _ _ h Y (lv_sub hl [1, 2, 3, 4, 5, 6, 0] rfl)
set_option maxHeartbeats 4000000 in
set_option maxRecDepth 100000 in
theorem w_X8_edge_125 (X : Cx g p s m args meth c cX8_edge 8 RX8 (some .int)) {k0 : Int32} {x1 : Int32} {x2 : Int32} {x3 : Int32} {x5 : Int32} {x6 : Int32} {st : Sg} {r9 : Int32} {st9 : Sg} (rc46 : Int32 → Int32 → Sg → Option (Int32 × Sg)) (hrc46 : ∀ (x4 : Int32) (x5 : Int32) (st : Sg) (ls : Array Slot) (H : Heap) (locs : List Loc), rc46 x4 x5 st = some (r9, st9) → Hp g nwM (ceM g) A s.heap st H locs → lv_has ls 8 [(0, .ref (g.2.1 0)), (1, .int x1), (2, .int x2), (3, .int x3), (4, .int x4), (5, .int x5)] → W p l e rm_X8_edge s m args below meth c H locs 0 0 (MQ below (QI g nwM (ceM g) A r9 st9) args s 0 0 A) (F0 m 46 ls [])) (rc60 : Int32 → Int32 → Sg → Option (Int32 × Sg)) (hrc60 : ∀ (x4 : Int32) (x6 : Int32) (st : Sg) (ls : Array Slot) (H : Heap) (locs : List Loc), rc60 x4 x6 st = some (r9, st9) → Hp g nwM (ceM g) A s.heap st H locs → lv_has ls 8 [(0, .ref (g.2.1 0)), (1, .int x1), (2, .int x2), (3, .int x3), (4, .int x4), (5, .int x5), (6, .int x6)] → W p l e rm_X8_edge s m args below meth c H locs 0 0 (MQ below (QI g nwM (ceM g) A r9 st9) args s 0 0 A) (F0 m 60 ls [])) (h : X8_edge_125 rc46 rc60 k0 x1 x2 x3 x5 x6 st = some (r9, st9)) (Y : Hp g nwM (ceM g) A s.heap st H locs)  (hl : lv_has ls 8 [(0, .ref (g.2.1 0)), (1, .int x1), (2, .int x2), (3, .int x3), (5, .int x5), (6, .int x6)]) : W p l e rm_X8_edge s m args below meth c H locs 0 0 (MQ below (QI g nwM (ceM g) A r9 st9) args s 0 0 A) (F0 m 125 ls [.int k0]) := by
  have hx := X.1
  have hb := X.2.1
  unfold X8_edge_125 at h
  refine lv_istore (lv' := [(4, .int k0), (0, .ref (g.2.1 0)), (1, .int x1), (2, .int x2), (3, .int x3), (5, .int x5), (6, .int x6)]) hx hb dX8_edge_125 hl (by decide) rfl (fun ls hl => ?_)
  exact w_X8_edge_127 X rc46 hrc46 rc60 hrc60 h Y  (lv_sub hl [1, 2, 3, 4, 0, 5, 6] rfl)
set_option maxHeartbeats 4000000 in
set_option maxRecDepth 100000 in
theorem w_X8_edge_87 (X : Cx g p s m args meth c cX8_edge 8 RX8 (some .int)) {k0 : Int32} {x1 : Int32} {x2 : Int32} {x3 : Int32} {x4 : Int32} {x5 : Int32} {x6 : Int32} {st : Sg} {r9 : Int32} {st9 : Sg} (rc46 : Int32 → Int32 → Sg → Option (Int32 × Sg)) (hrc46 : ∀ (x4 : Int32) (x5 : Int32) (st : Sg) (ls : Array Slot) (H : Heap) (locs : List Loc), rc46 x4 x5 st = some (r9, st9) → Hp g nwM (ceM g) A s.heap st H locs → lv_has ls 8 [(0, .ref (g.2.1 0)), (1, .int x1), (2, .int x2), (3, .int x3), (4, .int x4), (5, .int x5)] → W p l e rm_X8_edge s m args below meth c H locs 0 0 (MQ below (QI g nwM (ceM g) A r9 st9) args s 0 0 A) (F0 m 46 ls [])) (rc60 : Int32 → Int32 → Sg → Option (Int32 × Sg)) (hrc60 : ∀ (x4 : Int32) (x6 : Int32) (st : Sg) (ls : Array Slot) (H : Heap) (locs : List Loc), rc60 x4 x6 st = some (r9, st9) → Hp g nwM (ceM g) A s.heap st H locs → lv_has ls 8 [(0, .ref (g.2.1 0)), (1, .int x1), (2, .int x2), (3, .int x3), (4, .int x4), (5, .int x5), (6, .int x6)] → W p l e rm_X8_edge s m args below meth c H locs 0 0 (MQ below (QI g nwM (ceM g) A r9 st9) args s 0 0 A) (F0 m 60 ls [])) (h : X8_edge_87 rc46 rc60 k0 x1 x2 x3 x4 x5 x6 st = some (r9, st9)) (Y : Hp g nwM (ceM g) A s.heap st H locs)  (hl : lv_has ls 8 [(0, .ref (g.2.1 0)), (1, .int x1), (2, .int x2), (3, .int x3), (4, .int x4), (5, .int x5), (6, .int x6)]) : W p l e rm_X8_edge s m args below meth c H locs 0 0 (MQ below (QI g nwM (ceM g) A r9 st9) args s 0 0 A) (F0 m 87 ls [.int k0]) := by
  have hx := X.1
  have hb := X.2.1
  unfold X8_edge_87 at h
  refine lv_istore (lv' := [(7, .int k0), (0, .ref (g.2.1 0)), (1, .int x1), (2, .int x2), (3, .int x3), (4, .int x4), (5, .int x5), (6, .int x6)]) hx hb dX8_edge_87 hl (by decide) rfl (fun ls hl => ?_)
  refine lv_iload hx hb dX8_edge_89 (lv_at hl 0 rfl) ?_
  refine lv_i2l hx hb dX8_edge_91 rfl ?_
  refine lv_lconst (v := 0) hx hb dX8_edge_92 (by decide) ?_
  refine k_ldc2 X lg_8_99 dX8_edge_93 ?_
  obtain ⟨v2, hc1, h⟩ := bnd1_s h
  refine k_cI Y (k_runS (As := [.long (k0.toInt64), .long 0, .long 4]) (rest := []) X Y cl_8_83 (c_X8_in l hc1 _) ⟨rfl, rfl, Nat.le_of_ble_eq_true rfl, Nat.le_of_ble_eq_true rfl⟩ rfl hl.1 rfl (Nat.le_of_ble_eq_true rfl) dX8_edge_96 ⟨Nat.zero_le _, Nat.zero_le _⟩) (fun H locs Y => ?_)
  refine lv_if_eq (tgt := 127) hx hb dX8_edge_99 (by decide) (fun c3 => ?_) (fun c3 => ?_)
  · have h := ite_t h c3
    exact w_X8_edge_127 X rc46 hrc46 rc60 hrc60 h Y  (lv_sub hl [1, 2, 3, 4, 5, 6, 7] rfl)
  · have h := ite_f h c3
    refine lv_aload_n hx hb dX8_edge_102 rfl (lv_at hl 1 rfl) ?_
    refine k_get (v := .ref (g.2.1 2)) X Y fl_8_13 0 (Nat.le_of_ble_eq_true rfl) rfl rfl dX8_edge_103 ?_
    refine lv_iload_n hx hb dX8_edge_106 rfl (lv_at hl 2 rfl) ?_
    refine lv_iload hx hb dX8_edge_107 (lv_at hl 0 rfl) ?_
    obtain ⟨i4, h⟩ := cix_s h
    refine k_iast X Y 2 (Nat.le_of_ble_eq_true rfl) (fun _ _ => rfl) i4 dX8_edge_109 (fun H locs Y => ?_)
    obtain ⟨st5, est5, h⟩ := nm_s h
    have Y : Hp g nwM (ceM g) A s.heap st5 H locs := by rw [est5]; exact Y
    refine lv_aload_n hx hb dX8_edge_110 rfl (lv_at hl 1 rfl) ?_
    obtain ⟨v8, st7, hc6, h⟩ := bnd2_s h
    refine k_cI Y (k_runV (As := []) (rest := []) (o := 0) X Y cl_8_216 (c_X8_beginPrice l hc6 _) ⟨rfl, rfl, Nat.le_of_ble_eq_true rfl, Nat.le_of_ble_eq_true rfl⟩ (Nat.le_of_ble_eq_true rfl) rfl rfl hl.1 rfl (Nat.le_of_ble_eq_true rfl) dX8_edge_111 ⟨Nat.zero_le _, Nat.zero_le _⟩) (fun H locs Y => ?_)
    refine lv_iload_n hx hb dX8_edge_114 rfl (lv_at hl 4 rfl) ?_
    refine lv_icmp_eq (tgt := 123) hx hb dX8_edge_115 (by decide) (fun c9 => ?_) (fun c9 => ?_)
    · have h := ite_t h c9
      refine lv_bipush (v := (-6)) hx hb dX8_edge_123 (by decide) ?_
      exact w_X8_edge_125 X rc46 hrc46 rc60 hrc60 h Y  (lv_sub hl [1, 2, 3, 4, 6, 7] rfl)
    · have h := ite_f h c9
      refine lv_iload hx hb dX8_edge_118 (lv_at hl 0 rfl) ?_
      refine lv_goto (tgt := 125) hx hb dX8_edge_120 (by decide) ?_
      exact w_X8_edge_125 X rc46 hrc46 rc60 hrc60 h Y  (lv_sub hl [1, 2, 3, 4, 6, 7] rfl)
set_option maxHeartbeats 4000000 in
set_option maxRecDepth 100000 in
theorem w_X8_edge_133 (X : Cx g p s m args meth c cX8_edge 8 RX8 (some .int)) {x1 : Int32} {x2 : Int32} {x3 : Int32} {x4 : Int32} {x5 : Int32} {st : Sg} {r9 : Int32} {st9 : Sg} (rc46 : Int32 → Int32 → Sg → Option (Int32 × Sg)) (hrc46 : ∀ (x4 : Int32) (x5 : Int32) (st : Sg) (ls : Array Slot) (H : Heap) (locs : List Loc), rc46 x4 x5 st = some (r9, st9) → Hp g nwM (ceM g) A s.heap st H locs → lv_has ls 8 [(0, .ref (g.2.1 0)), (1, .int x1), (2, .int x2), (3, .int x3), (4, .int x4), (5, .int x5)] → W p l e rm_X8_edge s m args below meth c H locs 0 0 (MQ below (QI g nwM (ceM g) A r9 st9) args s 0 0 A) (F0 m 46 ls [])) (h : X8_edge_133 rc46 x1 x2 x3 x4 x5 st = some (r9, st9)) (Y : Hp g nwM (ceM g) A s.heap st H locs)  (hl : lv_has ls 8 [(0, .ref (g.2.1 0)), (1, .int x1), (2, .int x2), (3, .int x3), (4, .int x4), (5, .int x5)]) : W p l e rm_X8_edge s m args below meth c H locs 0 0 (MQ below (QI g nwM (ceM g) A r9 st9) args s 0 0 A) (F0 m 133 ls []) := by
  have hx := X.1
  have hb := X.2.1
  unfold X8_edge_133 at h
  obtain ⟨v1, ev1, h⟩ := nm_s h
  refine lv_iinc (v := v1) (lv' := [(5, .int v1), (0, .ref (g.2.1 0)), (1, .int x1), (2, .int x2), (3, .int x3), (4, .int x4)]) hx hb dX8_edge_133 hl (k := 5) rfl (by rw [ev1]; rfl) (by decide) rfl (fun ls hl => ?_)
  refine lv_goto (tgt := 46) hx hb dX8_edge_136 (by decide) ?_
  exact hrc46 x4 v1 st _ _ _ h Y (lv_sub hl [1, 2, 3, 4, 5, 0] rfl)
set_option maxHeartbeats 4000000 in
set_option maxRecDepth 100000 in
theorem w_X8_edge_60b (X : Cx g p s m args meth c cX8_edge 8 RX8 (some .int)) {x1 : Int32} {x2 : Int32} {x3 : Int32} {x4 : Int32} {x5 : Int32} {x6 : Int32} {st : Sg} {r9 : Int32} {st9 : Sg} (rc46 : Int32 → Int32 → Sg → Option (Int32 × Sg)) (hrc46 : ∀ (x4 : Int32) (x5 : Int32) (st : Sg) (ls : Array Slot) (H : Heap) (locs : List Loc), rc46 x4 x5 st = some (r9, st9) → Hp g nwM (ceM g) A s.heap st H locs → lv_has ls 8 [(0, .ref (g.2.1 0)), (1, .int x1), (2, .int x2), (3, .int x3), (4, .int x4), (5, .int x5)] → W p l e rm_X8_edge s m args below meth c H locs 0 0 (MQ below (QI g nwM (ceM g) A r9 st9) args s 0 0 A) (F0 m 46 ls [])) (rc60 : Int32 → Int32 → Sg → Option (Int32 × Sg)) (hrc60 : ∀ (x4 : Int32) (x6 : Int32) (st : Sg) (ls : Array Slot) (H : Heap) (locs : List Loc), rc60 x4 x6 st = some (r9, st9) → Hp g nwM (ceM g) A s.heap st H locs → lv_has ls 8 [(0, .ref (g.2.1 0)), (1, .int x1), (2, .int x2), (3, .int x3), (4, .int x4), (5, .int x5), (6, .int x6)] → W p l e rm_X8_edge s m args below meth c H locs 0 0 (MQ below (QI g nwM (ceM g) A r9 st9) args s 0 0 A) (F0 m 60 ls [])) (h : X8_edge_60b rc46 rc60 x1 x2 x3 x4 x5 x6 st = some (r9, st9)) (Y : Hp g nwM (ceM g) A s.heap st H locs)  (hl : lv_has ls 8 [(0, .ref (g.2.1 0)), (1, .int x1), (2, .int x2), (3, .int x3), (4, .int x4), (5, .int x5), (6, .int x6)]) : W p l e rm_X8_edge s m args below meth c H locs 0 0 (MQ below (QI g nwM (ceM g) A r9 st9) args s 0 0 A) (F0 m 60 ls []) := by
  have hx := X.1
  have hb := X.2.1
  unfold X8_edge_60b at h
  refine lv_iload hx hb dX8_edge_60 (lv_at hl 6 rfl) ?_
  refine lv_iconst (v := 2) hx hb dX8_edge_62 (by decide) ?_
  refine lv_icmp_ge (tgt := 133) hx hb dX8_edge_63 (by decide) (fun c1 => ?_) (fun c1 => ?_)
  · have h := ite_t h c1
    exact w_X8_edge_133 X rc46 hrc46 h Y  (lv_sub hl [0, 1, 2, 3, 4, 5] rfl)
  · have h := ite_f h c1
    refine lv_iload hx hb dX8_edge_66 (lv_at hl 4 rfl) ?_
    refine lv_if_ge (tgt := 133) hx hb dX8_edge_68 (by decide) (fun c2 => ?_) (fun c2 => ?_)
    · have h := ite_t h c2
      exact w_X8_edge_133 X rc46 hrc46 h Y  (lv_sub hl [0, 1, 2, 3, 4, 5] rfl)
    · have h := ite_f h c2
      refine lv_iload hx hb dX8_edge_71 (lv_at hl 6 rfl) ?_
      refine lv_if_ne (tgt := 83) hx hb dX8_edge_73 (by decide) (fun c3 => ?_) (fun c3 => ?_)
      · have h := ite_f h c3
        refine lv_iload_n hx hb dX8_edge_83 rfl (lv_at hl 2 rfl) ?_
        refine lv_iload hx hb dX8_edge_84 (lv_at hl 5 rfl) ?_
        refine lv_iadd hx hb dX8_edge_86 ?_
        exact w_X8_edge_87 X rc46 hrc46 rc60 hrc60 h Y  (lv_sub hl [0, 1, 2, 3, 4, 5, 6] rfl)
      · have h := ite_t h c3
        refine lv_iload_n hx hb dX8_edge_76 rfl (lv_at hl 2 rfl) ?_
        refine lv_iload hx hb dX8_edge_77 (lv_at hl 5 rfl) ?_
        refine lv_isub hx hb dX8_edge_79 ?_
        refine lv_goto (tgt := 87) hx hb dX8_edge_80 (by decide) ?_
        exact w_X8_edge_87 X rc46 hrc46 rc60 hrc60 h Y  (lv_sub hl [0, 1, 2, 3, 4, 5, 6] rfl)
theorem w_X8_edge_60 (X : Cx g p s m args meth c cX8_edge 8 RX8 (some .int)) {x1 : Int32} {x2 : Int32} {x3 : Int32} {x5 : Int32}  {r9 : Int32} {st9 : Sg} (rc46 : Int32 → Int32 → Sg → Option (Int32 × Sg)) (hrc46 : ∀ (x4 : Int32) (x5 : Int32) (st : Sg) (ls : Array Slot) (H : Heap) (locs : List Loc), rc46 x4 x5 st = some (r9, st9) → Hp g nwM (ceM g) A s.heap st H locs → lv_has ls 8 [(0, .ref (g.2.1 0)), (1, .int x1), (2, .int x2), (3, .int x3), (4, .int x4), (5, .int x5)] → W p l e rm_X8_edge s m args below meth c H locs 0 0 (MQ below (QI g nwM (ceM g) A r9 st9) args s 0 0 A) (F0 m 46 ls []))  : ∀ (k : Nat) (x4 : Int32) (x6 : Int32) (st : Sg) (ls : Array Slot) (H : Heap) (locs : List Loc), X8_edge_60 rc46 x1 x2 x3 x5 k x4 x6 st = some (r9, st9) → Hp g nwM (ceM g) A s.heap st H locs → lv_has ls 8 [(0, .ref (g.2.1 0)), (1, .int x1), (2, .int x2), (3, .int x3), (4, .int x4), (5, .int x5), (6, .int x6)] → W p l e rm_X8_edge s m args below meth c H locs 0 0 (MQ below (QI g nwM (ceM g) A r9 st9) args s 0 0 A) (F0 m 60 ls []) := by
  intro k
  induction k with
  | zero =>
    intro x4 x6 st ls H locs h
    exact none_s h
  | succ k ih =>
    intro x4 x6 st ls H locs h Y hl
    exact w_X8_edge_60b X rc46 hrc46 (X8_edge_60 rc46 x1 x2 x3 x5 k) ih h Y  hl
set_option maxHeartbeats 4000000 in
set_option maxRecDepth 100000 in
theorem w_X8_edge_139 (X : Cx g p s m args meth c cX8_edge 8 RX8 (some .int)) {x1 : Int32} {x2 : Int32} {x4 : Int32} {st : Sg} {r9 : Int32} {st9 : Sg}  (h : X8_edge_139 x1 x2 x4 st = some (r9, st9)) (Y : Hp g nwM (ceM g) A s.heap st H locs)  (hl : lv_has ls 8 [(0, .ref (g.2.1 0)), (1, .int x1), (2, .int x2), (4, .int x4)]) : W p l e rm_X8_edge s m args below meth c H locs 0 0 (MQ below (QI g nwM (ceM g) A r9 st9) args s 0 0 A) (F0 m 139 ls []) := by
  have hx := X.1
  have hb := X.2.1
  unfold X8_edge_139 at h
  refine lv_aload_n hx hb dX8_edge_139 rfl (lv_at hl 0 rfl) ?_
  refine k_get (v := .ref (g.2.1 2)) X Y fl_8_13 0 (Nat.le_of_ble_eq_true rfl) rfl rfl dX8_edge_140 ?_
  refine lv_iload_n hx hb dX8_edge_143 rfl (lv_at hl 1 rfl) ?_
  refine lv_iload_n hx hb dX8_edge_144 rfl (lv_at hl 2 rfl) ?_
  obtain ⟨i1, h⟩ := cix_s h
  refine k_iast X Y 2 (Nat.le_of_ble_eq_true rfl) (fun _ _ => rfl) i1 dX8_edge_145 (fun H locs Y => ?_)
  obtain ⟨st2, est2, h⟩ := nm_s h
  have Y : Hp g nwM (ceM g) A s.heap st2 H locs := by rw [est2]; exact Y
  refine lv_iload hx hb dX8_edge_146 (lv_at hl 3 rfl) ?_
  exact k_iretW X Y h dX8_edge_148
set_option maxHeartbeats 4000000 in
set_option maxRecDepth 100000 in
theorem w_X8_edge_46b (X : Cx g p s m args meth c cX8_edge 8 RX8 (some .int)) {x1 : Int32} {x2 : Int32} {x3 : Int32} {x4 : Int32} {x5 : Int32} {st : Sg} {r9 : Int32} {st9 : Sg} (rc46 : Int32 → Int32 → Sg → Option (Int32 × Sg)) (hrc46 : ∀ (x4 : Int32) (x5 : Int32) (st : Sg) (ls : Array Slot) (H : Heap) (locs : List Loc), rc46 x4 x5 st = some (r9, st9) → Hp g nwM (ceM g) A s.heap st H locs → lv_has ls 8 [(0, .ref (g.2.1 0)), (1, .int x1), (2, .int x2), (3, .int x3), (4, .int x4), (5, .int x5)] → W p l e rm_X8_edge s m args below meth c H locs 0 0 (MQ below (QI g nwM (ceM g) A r9 st9) args s 0 0 A) (F0 m 46 ls [])) (h : X8_edge_46b rc46 x1 x2 x3 x4 x5 st = some (r9, st9)) (Y : Hp g nwM (ceM g) A s.heap st H locs)  (hl : lv_has ls 8 [(0, .ref (g.2.1 0)), (1, .int x1), (2, .int x2), (3, .int x3), (4, .int x4), (5, .int x5)]) : W p l e rm_X8_edge s m args below meth c H locs 0 0 (MQ below (QI g nwM (ceM g) A r9 st9) args s 0 0 A) (F0 m 46 ls []) := by
  have hx := X.1
  have hb := X.2.1
  unfold X8_edge_46b at h
  refine lv_iload hx hb dX8_edge_46 (lv_at hl 5 rfl) ?_
  refine lv_iconst (v := 4) hx hb dX8_edge_48 (by decide) ?_
  refine lv_icmp_gt (tgt := 139) hx hb dX8_edge_49 (by decide) (fun c1 => ?_) (fun c1 => ?_)
  · have h := ite_t h c1
    exact w_X8_edge_139 X  h Y  (lv_sub hl [0, 1, 2, 4] rfl)
  · have h := ite_f h c1
    refine lv_iload hx hb dX8_edge_52 (lv_at hl 4 rfl) ?_
    refine lv_if_ge (tgt := 139) hx hb dX8_edge_54 (by decide) (fun c2 => ?_) (fun c2 => ?_)
    · have h := ite_t h c2
      exact w_X8_edge_139 X  h Y  (lv_sub hl [0, 1, 2, 4] rfl)
    · have h := ite_f h c2
      refine lv_iconst (v := 0) hx hb dX8_edge_57 (by decide) ?_
      refine lv_istore (lv' := [(6, .int 0), (0, .ref (g.2.1 0)), (1, .int x1), (2, .int x2), (3, .int x3), (4, .int x4), (5, .int x5)]) hx hb dX8_edge_58 hl (by decide) rfl (fun ls hl => ?_)
      exact w_X8_edge_60 X rc46 hrc46  FU x4 0 st _ _ _ h Y (lv_sub hl [1, 2, 3, 4, 5, 6, 0] rfl)
theorem w_X8_edge_46 (X : Cx g p s m args meth c cX8_edge 8 RX8 (some .int)) {x1 : Int32} {x2 : Int32} {x3 : Int32}  {r9 : Int32} {st9 : Sg}   : ∀ (k : Nat) (x4 : Int32) (x5 : Int32) (st : Sg) (ls : Array Slot) (H : Heap) (locs : List Loc), X8_edge_46 x1 x2 x3 k x4 x5 st = some (r9, st9) → Hp g nwM (ceM g) A s.heap st H locs → lv_has ls 8 [(0, .ref (g.2.1 0)), (1, .int x1), (2, .int x2), (3, .int x3), (4, .int x4), (5, .int x5)] → W p l e rm_X8_edge s m args below meth c H locs 0 0 (MQ below (QI g nwM (ceM g) A r9 st9) args s 0 0 A) (F0 m 46 ls []) := by
  intro k
  induction k with
  | zero =>
    intro x4 x5 st ls H locs h
    exact none_s h
  | succ k ih =>
    intro x4 x5 st ls H locs h Y hl
    exact w_X8_edge_46b X  (X8_edge_46 x1 x2 x3 k) ih h Y  hl
set_option maxHeartbeats 4000000 in
set_option maxRecDepth 100000 in
theorem w_X8_edge (X : Cx g p s m args meth c cX8_edge 8 RX8 (some .int)) {x1 : Int32} {st : Sg} {r9 : Int32} {st9 : Sg}  (h : X8_edge x1 st = some (r9, st9)) (Y : Hp g nwM (ceM g) A s.heap st H locs)  (hl : lv_has ls 8 [(0, .ref (g.2.1 0)), (1, .int x1)]) : W p l e rm_X8_edge s m args below meth c H locs 0 0 (MQ below (QI g nwM (ceM g) A r9 st9) args s 0 0 A) (F0 m 0 ls []) := by
  have hx := X.1
  have hb := X.2.1
  unfold X8_edge at h
  refine lv_aload_n hx hb dX8_edge_0 rfl (lv_at hl 0 rfl) ?_
  refine lv_iload_n hx hb dX8_edge_1 rfl (lv_at hl 1 rfl) ?_
  obtain ⟨v2, hc1, h⟩ := bnd1_s h
  refine k_cI Y (k_runV (As := [.int x1]) (rest := []) (o := 0) X Y cl_8_106 (c_X8_isSort l hc1 _) ⟨rfl, rfl, Nat.le_of_ble_eq_true rfl, Nat.le_of_ble_eq_true rfl⟩ (Nat.le_of_ble_eq_true rfl) rfl rfl hl.1 rfl (Nat.le_of_ble_eq_true rfl) dX8_edge_2 ⟨Nat.zero_le _, Nat.zero_le _⟩) (fun H locs Y => ?_)
  refine lv_if_ne (tgt := 10) hx hb dX8_edge_5 (by decide) (fun c3 => ?_) (fun c3 => ?_)
  · have h := ite_f h c3
    refine lv_aload_n hx hb dX8_edge_10 rfl (lv_at hl 0 rfl) ?_
    refine k_get (v := .int (st.1 0 4)) X Y fl_8_96 0 (Nat.le_of_ble_eq_true rfl) rfl rfl dX8_edge_11 ?_
    refine lv_if_eq (tgt := 24) hx hb dX8_edge_14 (by decide) (fun c4 => ?_) (fun c4 => ?_)
    · have h := ite_t h c4
      exact w_X8_edge_24 X  h Y  (lv_sub hl [] rfl)
    · have h := ite_f h c4
      refine lv_aload_n hx hb dX8_edge_17 rfl (lv_at hl 0 rfl) ?_
      refine k_get (v := .int (st.1 0 0)) X Y fl_8_75 0 (Nat.le_of_ble_eq_true rfl) rfl rfl dX8_edge_18 ?_
      refine lv_if_ne (tgt := 27) hx hb dX8_edge_21 (by decide) (fun c5 => ?_) (fun c5 => ?_)
      · have h := ite_f h c5
        refine lv_aload_n hx hb dX8_edge_27 rfl (lv_at hl 0 rfl) ?_
        refine k_get (v := .ref (g.2.1 2)) X Y fl_8_13 0 (Nat.le_of_ble_eq_true rfl) rfl rfl dX8_edge_28 ?_
        refine lv_iload_n hx hb dX8_edge_31 rfl (lv_at hl 1 rfl) ?_
        obtain ⟨i6, h⟩ := cix_s h
        refine k_iald X Y 2 (Nat.le_of_ble_eq_true rfl) (fun _ _ => rfl) i6 dX8_edge_32 ?_
        obtain ⟨v7, ev7, h⟩ := nm_s h
        refine k_nmI ev7 ?_
        refine lv_istore_n (lv' := [(2, .int v7), (0, .ref (g.2.1 0)), (1, .int x1)]) hx hb dX8_edge_33 rfl hl (by decide) rfl (fun ls hl => ?_)
        refine lv_aload_n hx hb dX8_edge_34 rfl (lv_at hl 1 rfl) ?_
        obtain ⟨v10, st9, hc8, h⟩ := bnd2_s h
        refine k_cI Y (k_runV (As := []) (rest := []) (o := 0) X Y cl_8_216 (c_X8_beginPrice l hc8 _) ⟨rfl, rfl, Nat.le_of_ble_eq_true rfl, Nat.le_of_ble_eq_true rfl⟩ (Nat.le_of_ble_eq_true rfl) rfl rfl hl.1 rfl (Nat.le_of_ble_eq_true rfl) dX8_edge_35 ⟨Nat.zero_le _, Nat.zero_le _⟩) (fun H locs Y => ?_)
        refine lv_istore_n (lv' := [(3, .int v10), (2, .int v7), (0, .ref (g.2.1 0)), (1, .int x1)]) hx hb dX8_edge_38 rfl hl (by decide) rfl (fun ls hl => ?_)
        refine lv_bipush (v := (-6)) hx hb dX8_edge_39 (by decide) ?_
        refine lv_istore (lv' := [(4, .int (-6)), (3, .int v10), (2, .int v7), (0, .ref (g.2.1 0)), (1, .int x1)]) hx hb dX8_edge_41 hl (by decide) rfl (fun ls hl => ?_)
        refine lv_iconst (v := 1) hx hb dX8_edge_43 (by decide) ?_
        refine lv_istore (lv' := [(5, .int 1), (4, .int (-6)), (3, .int v10), (2, .int v7), (0, .ref (g.2.1 0)), (1, .int x1)]) hx hb dX8_edge_44 hl (by decide) rfl (fun ls hl => ?_)
        exact w_X8_edge_46 X   FU (-6) 1 st9 _ _ _ h Y (lv_sub hl [4, 5, 3, 2, 1, 0] rfl)
      · have h := ite_t h c5
        exact w_X8_edge_24 X  h Y  (lv_sub hl [] rfl)
  · have h := ite_t h c3
    refine lv_iconst (v := (-1)) hx hb dX8_edge_8 (by decide) ?_
    exact k_iretW X Y h dX8_edge_9
theorem c_X8_edge (l : Launch) {g : Gx} {x1 : Int32} {st : Sg} {r9 : Int32} {st9 : Sg} (h : X8_edge x1 st = some (r9, st9)) : MetI l yX8_edge cX8_edge 8 (some .int) rm_X8_edge g nwM (ceM g) [.ref (g.2.1 0), .int x1] st r9 st9 :=
  met_of (Qc := fun A => QI g nwM (ceM g) A r9 st9) (by decide) (Nat.le_of_ble_eq_true rfl) (fun p e s m below meth c A ls X Y hl => w_X8_edge X h Y hl)
end LIFT
