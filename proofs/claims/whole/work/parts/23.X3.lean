/-! lifted by program: SaturdaySale$Text.faultPlace, SaturdaySale.fault, SaturdaySale$Greatest.clear, SaturdaySale$FallingPlans.begin, SaturdaySale$Greatest.offer, SaturdaySale$FallingPlans.marksDown, SaturdaySale$FallingPlans.advance, SaturdaySale.findKept, SaturdaySale$Sale.dayPicked, SaturdaySale$Walk.pickAll, SaturdaySale$Walk.passThoseOf -/
section LIFT
variable {p : Program} {l : Launch} {e : Env} {s : State} {m : MethodId} {args : Array Value} {below : List Frame} {meth : Method} {c : Code} {g : Gx} {A : Nat → Prop} {H : Heap} {locs : List Loc} {ls : Array Slot}
def X5_faultPlace_29   (x2 : Int32) (st : Sg) : Option Int32 :=
  some x2
def X5_faultPlace_52   (k0 : Int32) (st : Sg) : Option Int32 :=
  some k0
def X5_faultPlace_37   (x1 : Int32) (st : Sg) : Option Int32 :=
  if x1 = (7 : Int32) then
    X5_faultPlace_52 (-6) st
  else
    X5_faultPlace_52 (st.1 67 1) st
def X5_faultPlace_4b  (rc4 : Int32 → Int32 → Option Int32) (x1 : Int32) (x2 : Int32) (st : Sg) : Option Int32 :=
  if (st.1 67 1) ≤ x2 then
    X5_faultPlace_37 x1 st
  else
    cix x2 40 <|
    bnd1 (X5_follow x1 (st.1 68 x2.toNatClampNeg)) fun v4 =>
    if v4 = (8 : Int32) then
      X5_faultPlace_29 x2 st
    else
      nm (x2 + 1) fun v6 =>
      rc4 v4 v6
def X5_faultPlace_4    (st : Sg) : Nat → Int32 → Int32 → Option Int32
  | 0, _, _ => none
  | k + 1, x1, x2 => X5_faultPlace_4b   (X5_faultPlace_4 st k) x1 x2 st
def X5_faultPlace    (st : Sg) : Option Int32 :=
  X5_faultPlace_4 st FU 0 0
abbrev rm_X5_faultPlace : Room := { frames := 2, cells := 0, slots := 0, locals := 41 }
set_option maxHeartbeats 4000000 in
set_option maxRecDepth 100000 in
theorem w_X5_faultPlace_29 (X : Cx g p s m args meth c cX5_faultPlace 3 RX5 (some .int)) {x2 : Int32} {st : Sg} {r9 : Int32}  (h : X5_faultPlace_29 x2 st = some r9) (Y : Hp g nwX (ceX g) A s.heap st H locs)  (hl : lv_has ls 3 [(2, .int x2)]) : W p l e rm_X5_faultPlace s m args below meth c H locs 0 0 (MQ below (QI g nwX (ceX g) A r9 st) args s 0 0 A) (F0 m 29 ls []) := by
  have hx := X.1
  have hb := X.2.1
  unfold X5_faultPlace_29 at h
  refine lv_iload_n hx hb dX5_faultPlace_29 rfl (lv_at hl 0 rfl) ?_
  exact k_iretR X Y h dX5_faultPlace_30
set_option maxHeartbeats 4000000 in
set_option maxRecDepth 100000 in
theorem w_X5_faultPlace_52 (X : Cx g p s m args meth c cX5_faultPlace 3 RX5 (some .int)) {k0 : Int32} {st : Sg} {r9 : Int32}  (h : X5_faultPlace_52 k0 st = some r9) (Y : Hp g nwX (ceX g) A s.heap st H locs)  (hl : lv_has ls 3 []) : W p l e rm_X5_faultPlace s m args below meth c H locs 0 0 (MQ below (QI g nwX (ceX g) A r9 st) args s 0 0 A) (F0 m 52 ls [.int k0]) := by
  have hx := X.1
  have hb := X.2.1
  unfold X5_faultPlace_52 at h
  exact k_iretR X Y h dX5_faultPlace_52
set_option maxHeartbeats 4000000 in
set_option maxRecDepth 100000 in
theorem w_X5_faultPlace_37 (X : Cx g p s m args meth c cX5_faultPlace 3 RX5 (some .int)) {x1 : Int32} {st : Sg} {r9 : Int32}  (h : X5_faultPlace_37 x1 st = some r9) (Y : Hp g nwX (ceX g) A s.heap st H locs)  (hl : lv_has ls 3 [(0, .ref (g.2.1 67)), (1, .int x1)]) : W p l e rm_X5_faultPlace s m args below meth c H locs 0 0 (MQ below (QI g nwX (ceX g) A r9 st) args s 0 0 A) (F0 m 37 ls []) := by
  have hx := X.1
  have hb := X.2.1
  unfold X5_faultPlace_37 at h
  refine lv_iload_n hx hb dX5_faultPlace_37 rfl (lv_at hl 1 rfl) ?_
  refine lv_bipush (v := 7) hx hb dX5_faultPlace_38 (by decide) ?_
  refine lv_icmp_ne (tgt := 48) hx hb dX5_faultPlace_40 (by decide) (fun c1 => ?_) (fun c1 => ?_)
  · have h := ite_f h c1
    refine lv_aload_n hx hb dX5_faultPlace_48 rfl (lv_at hl 0 rfl) ?_
    refine k_get (v := .int (st.1 67 1)) X Y fl_5_15 67 (Nat.le_of_ble_eq_true rfl) rfl rfl dX5_faultPlace_49 ?_
    exact w_X5_faultPlace_52 X  h Y  (lv_sub hl [] rfl)
  · have h := ite_t h c1
    refine lv_bipush (v := (-6)) hx hb dX5_faultPlace_43 (by decide) ?_
    refine lv_goto (tgt := 52) hx hb dX5_faultPlace_45 (by decide) ?_
    exact w_X5_faultPlace_52 X  h Y  (lv_sub hl [] rfl)
set_option maxHeartbeats 4000000 in
set_option maxRecDepth 100000 in
theorem w_X5_faultPlace_4b (X : Cx g p s m args meth c cX5_faultPlace 3 RX5 (some .int)) {x1 : Int32} {x2 : Int32} {st : Sg} {r9 : Int32} (rc4 : Int32 → Int32 → Option Int32) (hrc4 : ∀ (x1 : Int32) (x2 : Int32) (ls : Array Slot) (H : Heap) (locs : List Loc), rc4 x1 x2 = some r9 → Hp g nwX (ceX g) A s.heap st H locs → lv_has ls 3 [(0, .ref (g.2.1 67)), (1, .int x1), (2, .int x2)] → W p l e rm_X5_faultPlace s m args below meth c H locs 0 0 (MQ below (QI g nwX (ceX g) A r9 st) args s 0 0 A) (F0 m 4 ls [])) (h : X5_faultPlace_4b rc4 x1 x2 st = some r9) (Y : Hp g nwX (ceX g) A s.heap st H locs)  (hl : lv_has ls 3 [(0, .ref (g.2.1 67)), (1, .int x1), (2, .int x2)]) : W p l e rm_X5_faultPlace s m args below meth c H locs 0 0 (MQ below (QI g nwX (ceX g) A r9 st) args s 0 0 A) (F0 m 4 ls []) := by
  have hx := X.1
  have hb := X.2.1
  unfold X5_faultPlace_4b at h
  refine lv_iload_n hx hb dX5_faultPlace_4 rfl (lv_at hl 2 rfl) ?_
  refine lv_aload_n hx hb dX5_faultPlace_5 rfl (lv_at hl 0 rfl) ?_
  refine k_get (v := .int (st.1 67 1)) X Y fl_5_15 67 (Nat.le_of_ble_eq_true rfl) rfl rfl dX5_faultPlace_6 ?_
  refine lv_icmp_ge (tgt := 37) hx hb dX5_faultPlace_9 (by decide) (fun c1 => ?_) (fun c1 => ?_)
  · have h := ite_t h c1
    exact w_X5_faultPlace_37 X  h Y  (lv_sub hl [0, 1] rfl)
  · have h := ite_f h c1
    refine lv_iload_n hx hb dX5_faultPlace_12 rfl (lv_at hl 1 rfl) ?_
    refine lv_aload_n hx hb dX5_faultPlace_13 rfl (lv_at hl 0 rfl) ?_
    refine k_get (v := .ref (g.2.1 68)) X Y fl_5_9 67 (Nat.le_of_ble_eq_true rfl) rfl rfl dX5_faultPlace_14 ?_
    refine lv_iload_n hx hb dX5_faultPlace_17 rfl (lv_at hl 2 rfl) ?_
    obtain ⟨i2, h⟩ := cix_s h
    refine k_iald X Y 68 (Nat.le_of_ble_eq_true rfl) (fun _ _ => rfl) i2 dX5_faultPlace_18 ?_
    obtain ⟨v4, hc3, h⟩ := bnd1_s h
    refine k_cI Y (k_runS (As := [.int x1, .int (st.1 68 x2.toNatClampNeg)]) (rest := []) X Y cl_5_19 (c_X5_follow l hc3 _) ⟨rfl, rfl, Nat.le_of_ble_eq_true rfl, Nat.le_of_ble_eq_true rfl⟩ rfl hl.1 rfl (Nat.le_of_ble_eq_true rfl) dX5_faultPlace_19 ⟨Nat.zero_le _, Nat.zero_le _⟩) (fun H locs Y => ?_)
    refine lv_istore_n (lv' := [(1, .int v4), (0, .ref (g.2.1 67)), (2, .int x2)]) hx hb dX5_faultPlace_22 rfl hl (by decide) rfl (fun ls hl => ?_)
    refine lv_iload_n hx hb dX5_faultPlace_23 rfl (lv_at hl 0 rfl) ?_
    refine lv_bipush (v := 8) hx hb dX5_faultPlace_24 (by decide) ?_
    refine lv_icmp_ne (tgt := 31) hx hb dX5_faultPlace_26 (by decide) (fun c5 => ?_) (fun c5 => ?_)
    · have h := ite_f h c5
      obtain ⟨v6, ev6, h⟩ := nm_s h
      refine lv_iinc (v := v6) (lv' := [(2, .int v6), (1, .int v4), (0, .ref (g.2.1 67))]) hx hb dX5_faultPlace_31 hl (k := 2) rfl (by rw [ev6]; rfl) (by decide) rfl (fun ls hl => ?_)
      refine lv_goto (tgt := 4) hx hb dX5_faultPlace_34 (by decide) ?_
      exact hrc4 v4 v6 _ _ _ h Y (lv_sub hl [2, 1, 0] rfl)
    · have h := ite_t h c5
      exact w_X5_faultPlace_29 X  h Y  (lv_sub hl [2] rfl)
theorem w_X5_faultPlace_4 (X : Cx g p s m args meth c cX5_faultPlace 3 RX5 (some .int))  {st : Sg} {r9 : Int32}   : ∀ (k : Nat) (x1 : Int32) (x2 : Int32) (ls : Array Slot) (H : Heap) (locs : List Loc), X5_faultPlace_4 st k x1 x2 = some r9 → Hp g nwX (ceX g) A s.heap st H locs → lv_has ls 3 [(0, .ref (g.2.1 67)), (1, .int x1), (2, .int x2)] → W p l e rm_X5_faultPlace s m args below meth c H locs 0 0 (MQ below (QI g nwX (ceX g) A r9 st) args s 0 0 A) (F0 m 4 ls []) := by
  intro k
  induction k with
  | zero =>
    intro x1 x2 ls H locs h
    exact none_s h
  | succ k ih =>
    intro x1 x2 ls H locs h Y hl
    exact w_X5_faultPlace_4b X  (X5_faultPlace_4 st k) ih h Y  hl
set_option maxHeartbeats 4000000 in
set_option maxRecDepth 100000 in
theorem w_X5_faultPlace (X : Cx g p s m args meth c cX5_faultPlace 3 RX5 (some .int))  {st : Sg} {r9 : Int32}  (h : X5_faultPlace st = some r9) (Y : Hp g nwX (ceX g) A s.heap st H locs)  (hl : lv_has ls 3 [(0, .ref (g.2.1 67))]) : W p l e rm_X5_faultPlace s m args below meth c H locs 0 0 (MQ below (QI g nwX (ceX g) A r9 st) args s 0 0 A) (F0 m 0 ls []) := by
  have hx := X.1
  have hb := X.2.1
  unfold X5_faultPlace at h
  refine lv_iconst (v := 0) hx hb dX5_faultPlace_0 (by decide) ?_
  refine lv_istore_n (lv' := [(1, .int 0), (0, .ref (g.2.1 67))]) hx hb dX5_faultPlace_1 rfl hl (by decide) rfl (fun ls hl => ?_)
  refine lv_iconst (v := 0) hx hb dX5_faultPlace_2 (by decide) ?_
  refine lv_istore_n (lv' := [(2, .int 0), (1, .int 0), (0, .ref (g.2.1 67))]) hx hb dX5_faultPlace_3 rfl hl (by decide) rfl (fun ls hl => ?_)
  exact w_X5_faultPlace_4 X   FU 0 0 _ _ _ h Y (lv_sub hl [2, 1, 0] rfl)
theorem c_X5_faultPlace (l : Launch) {g : Gx}  {st : Sg} {r9 : Int32} (h : X5_faultPlace st = some r9) : MetI l yX5_faultPlace cX5_faultPlace 3 (some .int) rm_X5_faultPlace g nwX (ceX g) [.ref (g.2.1 67)] st r9 st :=
  met_of (Qc := fun A => QI g nwX (ceX g) A r9 st) (by decide) (Nat.le_of_ble_eq_true rfl) (fun p e s m below meth c A ls X Y hl => w_X5_faultPlace X h Y hl)
def X7_fault    (st : Sg) : Option Int32 :=
  bnd1 (X5_faultPlace st) fun v2 =>
  some v2
abbrev rm_X7_fault : Room := { frames := 3, cells := 0, slots := 0, locals := 63 }
set_option maxHeartbeats 4000000 in
set_option maxRecDepth 100000 in
theorem w_X7_fault (X : Cx g p s m args meth c cX7_fault 1 RX7 (some .int))  {st : Sg} {r9 : Int32}  (h : X7_fault st = some r9) (Y : Hp g nwX (ceX g) A s.heap st H locs)  (hl : lv_has ls 1 [(0, .ref (g.2.1 0))]) : W p l e rm_X7_fault s m args below meth c H locs 0 0 (MQ below (QI g nwX (ceX g) A r9 st) args s 0 0 A) (F0 m 0 ls []) := by
  have hx := X.1
  have hb := X.2.1
  unfold X7_fault at h
  refine lv_aload_n hx hb dX7_fault_0 rfl (lv_at hl 0 rfl) ?_
  refine k_get (v := .ref (g.2.1 67)) X Y fl_7_60 0 (Nat.le_of_ble_eq_true rfl) rfl rfl dX7_fault_1 ?_
  obtain ⟨v2, hc1, h⟩ := bnd1_s h
  refine k_cI Y (k_runV (As := []) (rest := []) (o := 67) X Y cl_7_209 (c_X5_faultPlace l hc1 _) ⟨rfl, rfl, Nat.le_of_ble_eq_true rfl, Nat.le_of_ble_eq_true rfl⟩ (Nat.le_of_ble_eq_true rfl) rfl rfl hl.1 rfl (Nat.le_of_ble_eq_true rfl) dX7_fault_4 ⟨Nat.zero_le _, Nat.zero_le _⟩) (fun H locs Y => ?_)
  exact k_iretR X Y h dX7_fault_7
theorem c_X7_fault (l : Launch) {g : Gx}  {st : Sg} {r9 : Int32} (h : X7_fault st = some r9) : MetI l yX7_fault cX7_fault 1 (some .int) rm_X7_fault g nwX (ceX g) [.ref (g.2.1 0)] st r9 st :=
  met_of (Qc := fun A => QI g nwX (ceX g) A r9 st) (by decide) (Nat.le_of_ble_eq_true rfl) (fun p e s m below meth c A ls X Y hl => w_X7_fault X h Y hl)
def X1_clear (b : Nat)   (st : Sg) : Option Sg :=
  nm (sJ st b 1 (-1)) fun st1 =>
  some st1
abbrev rm_X1_clear : Room := { frames := 0, cells := 0, slots := 0, locals := 0 }
set_option maxHeartbeats 4000000 in
set_option maxRecDepth 100000 in
theorem w_X1_clear_61 (X : Cx g p s m args meth c cX1_clear 1 RX1 none)  {st : Sg} {st9 : Sg}  (h : X1_clear 61 st = some st9) (Y : Hp g nwX (ceX g) A s.heap st H locs)  (hl : lv_has ls 1 [(0, .ref (g.2.1 61))]) : W p l e rm_X1_clear s m args below meth c H locs 0 0 (MQ below (QV g nwX (ceX g) A st9) args s 0 0 A) (F0 m 0 ls []) := by
  have hx := X.1
  have hb := X.2.1
  unfold X1_clear at h
  refine lv_aload_n hx hb dX1_clear_0 rfl (lv_at hl 0 rfl) ?_
  refine k_ldc2 X lg_1_15 dX1_clear_1 ?_
  refine k_putJ X Y fl_1_17 61 (Nat.le_of_ble_eq_true rfl) rfl (Nat.le_of_ble_eq_true rfl) rfl dX1_clear_4 (fun H locs Y => ?_)
  obtain ⟨st1, est1, h⟩ := nm_s h
  have Y : Hp g nwX (ceX g) A s.heap st1 H locs := by rw [est1]; exact Y
  exact k_vretW X Y h dX1_clear_7
theorem c_X1_clear_61 (l : Launch) {g : Gx}  {st : Sg} {st9 : Sg} (h : X1_clear 61 st = some st9) : MetV l yX1_clear cX1_clear 1 none rm_X1_clear g nwX (ceX g) [.ref (g.2.1 61)] st st9 :=
  met_of (Qc := fun A => QV g nwX (ceX g) A st9) (by decide) (Nat.le_of_ble_eq_true rfl) (fun p e s m below meth c A ls X Y hl => w_X1_clear_61 X h Y hl)
set_option maxHeartbeats 4000000 in
set_option maxRecDepth 100000 in
theorem w_X1_clear_63 (X : Cx g p s m args meth c cX1_clear 1 RX1 none)  {st : Sg} {st9 : Sg}  (h : X1_clear 63 st = some st9) (Y : Hp g nwX (ceX g) A s.heap st H locs)  (hl : lv_has ls 1 [(0, .ref (g.2.1 63))]) : W p l e rm_X1_clear s m args below meth c H locs 0 0 (MQ below (QV g nwX (ceX g) A st9) args s 0 0 A) (F0 m 0 ls []) := by
  have hx := X.1
  have hb := X.2.1
  unfold X1_clear at h
  refine lv_aload_n hx hb dX1_clear_0 rfl (lv_at hl 0 rfl) ?_
  refine k_ldc2 X lg_1_15 dX1_clear_1 ?_
  refine k_putJ X Y fl_1_17 63 (Nat.le_of_ble_eq_true rfl) rfl (Nat.le_of_ble_eq_true rfl) rfl dX1_clear_4 (fun H locs Y => ?_)
  obtain ⟨st1, est1, h⟩ := nm_s h
  have Y : Hp g nwX (ceX g) A s.heap st1 H locs := by rw [est1]; exact Y
  exact k_vretW X Y h dX1_clear_7
theorem c_X1_clear_63 (l : Launch) {g : Gx}  {st : Sg} {st9 : Sg} (h : X1_clear 63 st = some st9) : MetV l yX1_clear cX1_clear 1 none rm_X1_clear g nwX (ceX g) [.ref (g.2.1 63)] st st9 :=
  met_of (Qc := fun A => QV g nwX (ceX g) A st9) (by decide) (Nat.le_of_ble_eq_true rfl) (fun p e s m below meth c A ls X Y hl => w_X1_clear_63 X h Y hl)
set_option maxHeartbeats 4000000 in
set_option maxRecDepth 100000 in
theorem w_X1_clear_65 (X : Cx g p s m args meth c cX1_clear 1 RX1 none)  {st : Sg} {st9 : Sg}  (h : X1_clear 65 st = some st9) (Y : Hp g nwX (ceX g) A s.heap st H locs)  (hl : lv_has ls 1 [(0, .ref (g.2.1 65))]) : W p l e rm_X1_clear s m args below meth c H locs 0 0 (MQ below (QV g nwX (ceX g) A st9) args s 0 0 A) (F0 m 0 ls []) := by
  have hx := X.1
  have hb := X.2.1
  unfold X1_clear at h
  refine lv_aload_n hx hb dX1_clear_0 rfl (lv_at hl 0 rfl) ?_
  refine k_ldc2 X lg_1_15 dX1_clear_1 ?_
  refine k_putJ X Y fl_1_17 65 (Nat.le_of_ble_eq_true rfl) rfl (Nat.le_of_ble_eq_true rfl) rfl dX1_clear_4 (fun H locs Y => ?_)
  obtain ⟨st1, est1, h⟩ := nm_s h
  have Y : Hp g nwX (ceX g) A s.heap st1 H locs := by rw [est1]; exact Y
  exact k_vretW X Y h dX1_clear_7
theorem c_X1_clear_65 (l : Launch) {g : Gx}  {st : Sg} {st9 : Sg} (h : X1_clear 65 st = some st9) : MetV l yX1_clear cX1_clear 1 none rm_X1_clear g nwX (ceX g) [.ref (g.2.1 65)] st st9 :=
  met_of (Qc := fun A => QV g nwX (ceX g) A st9) (by decide) (Nat.le_of_ble_eq_true rfl) (fun p e s m below meth c A ls X Y hl => w_X1_clear_65 X h Y hl)
def X0_begin_21    (st : Sg) : Option (Int32 × Sg) :=
  some (0, st)
def X0_begin_2b  (rc2 : Int32 → Sg → Option (Int32 × Sg)) (x1 : Int32) (st : Sg) : Option (Int32 × Sg) :=
  if (6 : Int32) ≤ x1 then
    X0_begin_21 st
  else
    cix x1 6 <|
    nm (sI st 60 x1.toNatClampNeg 0) fun st3 =>
    nm (x1 + 1) fun v4 =>
    rc2 v4 st3
def X0_begin_2    : Nat → Int32 → Sg → Option (Int32 × Sg)
  | 0, _, _ => none
  | k + 1, x1, st => X0_begin_2b   (X0_begin_2 k) x1 st
def X0_begin    (st : Sg) : Option (Int32 × Sg) :=
  X0_begin_2 FU 0 st
abbrev rm_X0_begin : Room := { frames := 0, cells := 0, slots := 0, locals := 0 }
set_option maxHeartbeats 4000000 in
set_option maxRecDepth 100000 in
theorem w_X0_begin_21 (X : Cx g p s m args meth c cX0_begin 2 RX0 (some .int))  {st : Sg} {r9 : Int32} {st9 : Sg}  (h : X0_begin_21 st = some (r9, st9)) (Y : Hp g nwX (ceX g) A s.heap st H locs)  (hl : lv_has ls 2 []) : W p l e rm_X0_begin s m args below meth c H locs 0 0 (MQ below (QI g nwX (ceX g) A r9 st9) args s 0 0 A) (F0 m 21 ls []) := by
  have hx := X.1
  have hb := X.2.1
  unfold X0_begin_21 at h
  refine lv_iconst (v := 0) hx hb dX0_begin_21 (by decide) ?_
  exact k_iretW X Y h dX0_begin_22
set_option maxHeartbeats 4000000 in
set_option maxRecDepth 100000 in
theorem w_X0_begin_2b (X : Cx g p s m args meth c cX0_begin 2 RX0 (some .int)) {x1 : Int32} {st : Sg} {r9 : Int32} {st9 : Sg} (rc2 : Int32 → Sg → Option (Int32 × Sg)) (hrc2 : ∀ (x1 : Int32) (st : Sg) (ls : Array Slot) (H : Heap) (locs : List Loc), rc2 x1 st = some (r9, st9) → Hp g nwX (ceX g) A s.heap st H locs → lv_has ls 2 [(0, .ref (g.2.1 59)), (1, .int x1)] → W p l e rm_X0_begin s m args below meth c H locs 0 0 (MQ below (QI g nwX (ceX g) A r9 st9) args s 0 0 A) (F0 m 2 ls [])) (h : X0_begin_2b rc2 x1 st = some (r9, st9)) (Y : Hp g nwX (ceX g) A s.heap st H locs)  (hl : lv_has ls 2 [(0, .ref (g.2.1 59)), (1, .int x1)]) : W p l e rm_X0_begin s m args below meth c H locs 0 0 (MQ below (QI g nwX (ceX g) A r9 st9) args s 0 0 A) (F0 m 2 ls []) := by
  have hx := X.1
  have hb := X.2.1
  unfold X0_begin_2b at h
  refine lv_iload_n hx hb dX0_begin_2 rfl (lv_at hl 1 rfl) ?_
  refine lv_bipush (v := 6) hx hb dX0_begin_3 (by decide) ?_
  refine lv_icmp_ge (tgt := 21) hx hb dX0_begin_5 (by decide) (fun c1 => ?_) (fun c1 => ?_)
  · have h := ite_t h c1
    exact w_X0_begin_21 X  h Y  (lv_sub hl [] rfl)
  · have h := ite_f h c1
    refine lv_aload_n hx hb dX0_begin_8 rfl (lv_at hl 0 rfl) ?_
    refine k_get (v := .ref (g.2.1 60)) X Y fl_0_9 59 (Nat.le_of_ble_eq_true rfl) rfl rfl dX0_begin_9 ?_
    refine lv_iload_n hx hb dX0_begin_12 rfl (lv_at hl 1 rfl) ?_
    refine lv_iconst (v := 0) hx hb dX0_begin_13 (by decide) ?_
    obtain ⟨i2, h⟩ := cix_s h
    refine k_iast X Y 60 (Nat.le_of_ble_eq_true rfl) (fun _ _ => rfl) i2 dX0_begin_14 (fun H locs Y => ?_)
    obtain ⟨st3, est3, h⟩ := nm_s h
    have Y : Hp g nwX (ceX g) A s.heap st3 H locs := by rw [est3]; exact Y
    obtain ⟨v4, ev4, h⟩ := nm_s h
    refine lv_iinc (v := v4) (lv' := [(1, .int v4), (0, .ref (g.2.1 59))]) hx hb dX0_begin_15 hl (k := 1) rfl (by rw [ev4]; rfl) (by decide) rfl (fun ls hl => ?_)
    refine lv_goto (tgt := 2) hx hb dX0_begin_18 (by decide) ?_
    exact hrc2 v4 st3 _ _ _ h Y (lv_sub hl [1, 0] rfl)
theorem w_X0_begin_2 (X : Cx g p s m args meth c cX0_begin 2 RX0 (some .int))   {r9 : Int32} {st9 : Sg}   : ∀ (k : Nat) (x1 : Int32) (st : Sg) (ls : Array Slot) (H : Heap) (locs : List Loc), X0_begin_2 k x1 st = some (r9, st9) → Hp g nwX (ceX g) A s.heap st H locs → lv_has ls 2 [(0, .ref (g.2.1 59)), (1, .int x1)] → W p l e rm_X0_begin s m args below meth c H locs 0 0 (MQ below (QI g nwX (ceX g) A r9 st9) args s 0 0 A) (F0 m 2 ls []) := by
  intro k
  induction k with
  | zero =>
    intro x1 st ls H locs h
    exact none_s h
  | succ k ih =>
    intro x1 st ls H locs h Y hl
    exact w_X0_begin_2b X  (X0_begin_2 k) ih h Y  hl
set_option maxHeartbeats 4000000 in
set_option maxRecDepth 100000 in
theorem w_X0_begin (X : Cx g p s m args meth c cX0_begin 2 RX0 (some .int))  {st : Sg} {r9 : Int32} {st9 : Sg}  (h : X0_begin st = some (r9, st9)) (Y : Hp g nwX (ceX g) A s.heap st H locs)  (hl : lv_has ls 2 [(0, .ref (g.2.1 59))]) : W p l e rm_X0_begin s m args below meth c H locs 0 0 (MQ below (QI g nwX (ceX g) A r9 st9) args s 0 0 A) (F0 m 0 ls []) := by
  have hx := X.1
  have hb := X.2.1
  unfold X0_begin at h
  refine lv_iconst (v := 0) hx hb dX0_begin_0 (by decide) ?_
  refine lv_istore_n (lv' := [(1, .int 0), (0, .ref (g.2.1 59))]) hx hb dX0_begin_1 rfl hl (by decide) rfl (fun ls hl => ?_)
  exact w_X0_begin_2 X   FU 0 st _ _ _ h Y (lv_sub hl [1, 0] rfl)
theorem c_X0_begin (l : Launch) {g : Gx}  {st : Sg} {r9 : Int32} {st9 : Sg} (h : X0_begin st = some (r9, st9)) : MetI l yX0_begin cX0_begin 2 (some .int) rm_X0_begin g nwX (ceX g) [.ref (g.2.1 59)] st r9 st9 :=
  met_of (Qc := fun A => QI g nwX (ceX g) A r9 st9) (by decide) (Nat.le_of_ble_eq_true rfl) (fun p e s m below meth c A ls X Y hl => w_X0_begin X h Y hl)
def X1_offer_26 (b : Nat)   (st : Sg) : Option Sg :=
  some st
def X1_offer (b : Nat)  (x1 : Int64) (st : Sg) : Option Sg :=
  if (lg_cmp x1 (st.2 b 1)) ≤ (0 : Int32) then
    X1_offer_26 b st
  else
    nm (sJ st b 1 x1) fun st2 =>
    cpc 0 0 6 6 6 <|
    nm (sIr st2 (b + 1) (va_cpy (st2.1 60) (st2.1 (b + 1)) (0 : Int32).toNatClampNeg (0 : Int32).toNatClampNeg (6 : Int32).toNatClampNeg)) fun st4 =>
    X1_offer_26 b st4
abbrev rm_X1_offer : Room := { frames := 1, cells := 0, slots := 0, locals := 28 }
set_option maxHeartbeats 4000000 in
set_option maxRecDepth 100000 in
theorem w_X1_offer_26_61 (X : Cx g p s m args meth c cX1_offer 4 RX1 none)  {st : Sg} {st9 : Sg}  (h : X1_offer_26 61 st = some st9) (Y : Hp g nwX (ceX g) A s.heap st H locs)  (hl : lv_has ls 4 []) : W p l e rm_X1_offer s m args below meth c H locs 0 0 (MQ below (QV g nwX (ceX g) A st9) args s 0 0 A) (F0 m 26 ls []) := by
  have hx := X.1
  have hb := X.2.1
  unfold X1_offer_26 at h
  exact k_vretW X Y h dX1_offer_26
set_option maxHeartbeats 4000000 in
set_option maxRecDepth 100000 in
theorem w_X1_offer_61 (X : Cx g p s m args meth c cX1_offer 4 RX1 none) {x1 : Int64} {st : Sg} {st9 : Sg}  (h : X1_offer 61 x1 st = some st9) (Y : Hp g nwX (ceX g) A s.heap st H locs)  (hl : lv_has ls 4 [(0, .ref (g.2.1 61)), (1, .long x1), (3, .ref (g.2.1 60))]) : W p l e rm_X1_offer s m args below meth c H locs 0 0 (MQ below (QV g nwX (ceX g) A st9) args s 0 0 A) (F0 m 0 ls []) := by
  have hx := X.1
  have hb := X.2.1
  unfold X1_offer at h
  refine lv_lload_n hx hb dX1_offer_0 rfl (lv_at hl 1 rfl) ?_
  refine lv_aload_n hx hb dX1_offer_1 rfl (lv_at hl 0 rfl) ?_
  refine k_get (v := .long (st.2 61 1)) X Y fl_1_17 61 (Nat.le_of_ble_eq_true rfl) rfl rfl dX1_offer_2 ?_
  refine W.lcmp hx hb dX1_offer_5 ?_
  refine lv_if_le (tgt := 26) hx hb dX1_offer_6 (by decide) (fun c1 => ?_) (fun c1 => ?_)
  · have h := ite_t h c1
    exact w_X1_offer_26_61 X  h Y  (lv_sub hl [] rfl)
  · have h := ite_f h c1
    refine lv_aload_n hx hb dX1_offer_9 rfl (lv_at hl 0 rfl) ?_
    refine lv_lload_n hx hb dX1_offer_10 rfl (lv_at hl 1 rfl) ?_
    refine k_putJ X Y fl_1_17 61 (Nat.le_of_ble_eq_true rfl) rfl (Nat.le_of_ble_eq_true rfl) rfl dX1_offer_11 (fun H locs Y => ?_)
    obtain ⟨st2, est2, h⟩ := nm_s h
    have Y : Hp g nwX (ceX g) A s.heap st2 H locs := by rw [est2]; exact Y
    refine lv_aload_n hx hb dX1_offer_14 rfl (lv_at hl 2 rfl) ?_
    refine lv_iconst (v := 0) hx hb dX1_offer_15 (by decide) ?_
    refine lv_aload_n hx hb dX1_offer_16 rfl (lv_at hl 0 rfl) ?_
    refine k_get (v := .ref (g.2.1 62)) X Y fl_1_9 61 (Nat.le_of_ble_eq_true rfl) rfl rfl dX1_offer_17 ?_
    refine lv_iconst (v := 0) hx hb dX1_offer_20 (by decide) ?_
    refine lv_bipush (v := 6) hx hb dX1_offer_21 (by decide) ?_
    obtain ⟨y3, h⟩ := cpc_s h
    refine k_copyI X Y cl_1_21 hl.1 60 62 (Nat.le_of_ble_eq_true rfl) (Nat.le_of_ble_eq_true rfl) (fun _ _ => rfl) (fun _ _ => rfl) y3 ⟨Nat.le_of_ble_eq_true rfl, by decide +kernel⟩ dX1_offer_23 (fun H locs Y => ?_)
    obtain ⟨st4, est4, h⟩ := nm_s h
    have Y : Hp g nwX (ceX g) A s.heap st4 H locs := by rw [est4]; exact Y
    exact w_X1_offer_26_61 X  h Y  (lv_sub hl [] rfl)
theorem c_X1_offer_61 (l : Launch) {g : Gx} {x1 : Int64} {st : Sg} {st9 : Sg} (h : X1_offer 61 x1 st = some st9) : MetV l yX1_offer cX1_offer 4 none rm_X1_offer g nwX (ceX g) [.ref (g.2.1 61), .long x1, .ref (g.2.1 60)] st st9 :=
  met_of (Qc := fun A => QV g nwX (ceX g) A st9) (by decide) (Nat.le_of_ble_eq_true rfl) (fun p e s m below meth c A ls X Y hl => w_X1_offer_61 X h Y hl)
set_option maxHeartbeats 4000000 in
set_option maxRecDepth 100000 in
theorem w_X1_offer_26_63 (X : Cx g p s m args meth c cX1_offer 4 RX1 none)  {st : Sg} {st9 : Sg}  (h : X1_offer_26 63 st = some st9) (Y : Hp g nwX (ceX g) A s.heap st H locs)  (hl : lv_has ls 4 []) : W p l e rm_X1_offer s m args below meth c H locs 0 0 (MQ below (QV g nwX (ceX g) A st9) args s 0 0 A) (F0 m 26 ls []) := by
  have hx := X.1
  have hb := X.2.1
  unfold X1_offer_26 at h
  exact k_vretW X Y h dX1_offer_26
set_option maxHeartbeats 4000000 in
set_option maxRecDepth 100000 in
theorem w_X1_offer_63 (X : Cx g p s m args meth c cX1_offer 4 RX1 none) {x1 : Int64} {st : Sg} {st9 : Sg}  (h : X1_offer 63 x1 st = some st9) (Y : Hp g nwX (ceX g) A s.heap st H locs)  (hl : lv_has ls 4 [(0, .ref (g.2.1 63)), (1, .long x1), (3, .ref (g.2.1 60))]) : W p l e rm_X1_offer s m args below meth c H locs 0 0 (MQ below (QV g nwX (ceX g) A st9) args s 0 0 A) (F0 m 0 ls []) := by
  have hx := X.1
  have hb := X.2.1
  unfold X1_offer at h
  refine lv_lload_n hx hb dX1_offer_0 rfl (lv_at hl 1 rfl) ?_
  refine lv_aload_n hx hb dX1_offer_1 rfl (lv_at hl 0 rfl) ?_
  refine k_get (v := .long (st.2 63 1)) X Y fl_1_17 63 (Nat.le_of_ble_eq_true rfl) rfl rfl dX1_offer_2 ?_
  refine W.lcmp hx hb dX1_offer_5 ?_
  refine lv_if_le (tgt := 26) hx hb dX1_offer_6 (by decide) (fun c1 => ?_) (fun c1 => ?_)
  · have h := ite_t h c1
    exact w_X1_offer_26_63 X  h Y  (lv_sub hl [] rfl)
  · have h := ite_f h c1
    refine lv_aload_n hx hb dX1_offer_9 rfl (lv_at hl 0 rfl) ?_
    refine lv_lload_n hx hb dX1_offer_10 rfl (lv_at hl 1 rfl) ?_
    refine k_putJ X Y fl_1_17 63 (Nat.le_of_ble_eq_true rfl) rfl (Nat.le_of_ble_eq_true rfl) rfl dX1_offer_11 (fun H locs Y => ?_)
    obtain ⟨st2, est2, h⟩ := nm_s h
    have Y : Hp g nwX (ceX g) A s.heap st2 H locs := by rw [est2]; exact Y
    refine lv_aload_n hx hb dX1_offer_14 rfl (lv_at hl 2 rfl) ?_
    refine lv_iconst (v := 0) hx hb dX1_offer_15 (by decide) ?_
    refine lv_aload_n hx hb dX1_offer_16 rfl (lv_at hl 0 rfl) ?_
    refine k_get (v := .ref (g.2.1 64)) X Y fl_1_9 63 (Nat.le_of_ble_eq_true rfl) rfl rfl dX1_offer_17 ?_
    refine lv_iconst (v := 0) hx hb dX1_offer_20 (by decide) ?_
    refine lv_bipush (v := 6) hx hb dX1_offer_21 (by decide) ?_
    obtain ⟨y3, h⟩ := cpc_s h
    refine k_copyI X Y cl_1_21 hl.1 60 64 (Nat.le_of_ble_eq_true rfl) (Nat.le_of_ble_eq_true rfl) (fun _ _ => rfl) (fun _ _ => rfl) y3 ⟨Nat.le_of_ble_eq_true rfl, by decide +kernel⟩ dX1_offer_23 (fun H locs Y => ?_)
    obtain ⟨st4, est4, h⟩ := nm_s h
    have Y : Hp g nwX (ceX g) A s.heap st4 H locs := by rw [est4]; exact Y
    exact w_X1_offer_26_63 X  h Y  (lv_sub hl [] rfl)
theorem c_X1_offer_63 (l : Launch) {g : Gx} {x1 : Int64} {st : Sg} {st9 : Sg} (h : X1_offer 63 x1 st = some st9) : MetV l yX1_offer cX1_offer 4 none rm_X1_offer g nwX (ceX g) [.ref (g.2.1 63), .long x1, .ref (g.2.1 60)] st st9 :=
  met_of (Qc := fun A => QV g nwX (ceX g) A st9) (by decide) (Nat.le_of_ble_eq_true rfl) (fun p e s m below meth c A ls X Y hl => w_X1_offer_63 X h Y hl)
set_option maxHeartbeats 4000000 in
set_option maxRecDepth 100000 in
theorem w_X1_offer_26_65 (X : Cx g p s m args meth c cX1_offer 4 RX1 none)  {st : Sg} {st9 : Sg}  (h : X1_offer_26 65 st = some st9) (Y : Hp g nwX (ceX g) A s.heap st H locs)  (hl : lv_has ls 4 []) : W p l e rm_X1_offer s m args below meth c H locs 0 0 (MQ below (QV g nwX (ceX g) A st9) args s 0 0 A) (F0 m 26 ls []) := by
  have hx := X.1
  have hb := X.2.1
  unfold X1_offer_26 at h
  exact k_vretW X Y h dX1_offer_26
set_option maxHeartbeats 4000000 in
set_option maxRecDepth 100000 in
theorem w_X1_offer_65 (X : Cx g p s m args meth c cX1_offer 4 RX1 none) {x1 : Int64} {st : Sg} {st9 : Sg}  (h : X1_offer 65 x1 st = some st9) (Y : Hp g nwX (ceX g) A s.heap st H locs)  (hl : lv_has ls 4 [(0, .ref (g.2.1 65)), (1, .long x1), (3, .ref (g.2.1 60))]) : W p l e rm_X1_offer s m args below meth c H locs 0 0 (MQ below (QV g nwX (ceX g) A st9) args s 0 0 A) (F0 m 0 ls []) := by
  have hx := X.1
  have hb := X.2.1
  unfold X1_offer at h
  refine lv_lload_n hx hb dX1_offer_0 rfl (lv_at hl 1 rfl) ?_
  refine lv_aload_n hx hb dX1_offer_1 rfl (lv_at hl 0 rfl) ?_
  refine k_get (v := .long (st.2 65 1)) X Y fl_1_17 65 (Nat.le_of_ble_eq_true rfl) rfl rfl dX1_offer_2 ?_
  refine W.lcmp hx hb dX1_offer_5 ?_
  refine lv_if_le (tgt := 26) hx hb dX1_offer_6 (by decide) (fun c1 => ?_) (fun c1 => ?_)
  · have h := ite_t h c1
    exact w_X1_offer_26_65 X  h Y  (lv_sub hl [] rfl)
  · have h := ite_f h c1
    refine lv_aload_n hx hb dX1_offer_9 rfl (lv_at hl 0 rfl) ?_
    refine lv_lload_n hx hb dX1_offer_10 rfl (lv_at hl 1 rfl) ?_
    refine k_putJ X Y fl_1_17 65 (Nat.le_of_ble_eq_true rfl) rfl (Nat.le_of_ble_eq_true rfl) rfl dX1_offer_11 (fun H locs Y => ?_)
    obtain ⟨st2, est2, h⟩ := nm_s h
    have Y : Hp g nwX (ceX g) A s.heap st2 H locs := by rw [est2]; exact Y
    refine lv_aload_n hx hb dX1_offer_14 rfl (lv_at hl 2 rfl) ?_
    refine lv_iconst (v := 0) hx hb dX1_offer_15 (by decide) ?_
    refine lv_aload_n hx hb dX1_offer_16 rfl (lv_at hl 0 rfl) ?_
    refine k_get (v := .ref (g.2.1 66)) X Y fl_1_9 65 (Nat.le_of_ble_eq_true rfl) rfl rfl dX1_offer_17 ?_
    refine lv_iconst (v := 0) hx hb dX1_offer_20 (by decide) ?_
    refine lv_bipush (v := 6) hx hb dX1_offer_21 (by decide) ?_
    obtain ⟨y3, h⟩ := cpc_s h
    refine k_copyI X Y cl_1_21 hl.1 60 66 (Nat.le_of_ble_eq_true rfl) (Nat.le_of_ble_eq_true rfl) (fun _ _ => rfl) (fun _ _ => rfl) y3 ⟨Nat.le_of_ble_eq_true rfl, by decide +kernel⟩ dX1_offer_23 (fun H locs Y => ?_)
    obtain ⟨st4, est4, h⟩ := nm_s h
    have Y : Hp g nwX (ceX g) A s.heap st4 H locs := by rw [est4]; exact Y
    exact w_X1_offer_26_65 X  h Y  (lv_sub hl [] rfl)
theorem c_X1_offer_65 (l : Launch) {g : Gx} {x1 : Int64} {st : Sg} {st9 : Sg} (h : X1_offer 65 x1 st = some st9) : MetV l yX1_offer cX1_offer 4 none rm_X1_offer g nwX (ceX g) [.ref (g.2.1 65), .long x1, .ref (g.2.1 60)] st st9 :=
  met_of (Qc := fun A => QV g nwX (ceX g) A st9) (by decide) (Nat.le_of_ble_eq_true rfl) (fun p e s m below meth c A ls X Y hl => w_X1_offer_65 X h Y hl)
def X0_marksDown_29  (rc4 : Int32 → Int32 → Option Int32) (x1 : Int32) (x2 : Int32) (x3 : Int32) (st : Sg) : Option Int32 :=
  nm (x3 + 1) fun v1 =>
  rc4 x2 v1
def X0_marksDown_35   (x2 : Int32) (st : Sg) : Option Int32 :=
  some x2
def X0_marksDown_4b  (rc4 : Int32 → Int32 → Option Int32) (x1 : Int32) (x2 : Int32) (x3 : Int32) (st : Sg) : Option Int32 :=
  if x1 ≤ x3 then
    X0_marksDown_35 x2 st
  else
    cix x3 6 <|
    cix (x3 - 1) 6 <|
    if (st.1 60 x3.toNatClampNeg) = (st.1 60 (x3 - 1).toNatClampNeg) then
      X0_marksDown_29 rc4 x1 x2 x3 st
    else
      nm (x2 + 1) fun v5 =>
      X0_marksDown_29 rc4 x1 v5 x3 st
def X0_marksDown_4   (x1 : Int32) (st : Sg) : Nat → Int32 → Int32 → Option Int32
  | 0, _, _ => none
  | k + 1, x2, x3 => X0_marksDown_4b   (X0_marksDown_4 x1 st k) x1 x2 x3 st
def X0_marksDown   (x1 : Int32) (st : Sg) : Option Int32 :=
  X0_marksDown_4 x1 st FU 0 1
abbrev rm_X0_marksDown : Room := { frames := 0, cells := 0, slots := 0, locals := 0 }
set_option maxHeartbeats 4000000 in
set_option maxRecDepth 100000 in
theorem w_X0_marksDown_29 (X : Cx g p s m args meth c cX0_marksDown 4 RX0 (some .int)) {x1 : Int32} {x2 : Int32} {x3 : Int32} {st : Sg} {r9 : Int32} (rc4 : Int32 → Int32 → Option Int32) (hrc4 : ∀ (x2 : Int32) (x3 : Int32) (ls : Array Slot) (H : Heap) (locs : List Loc), rc4 x2 x3 = some r9 → Hp g nwX (ceX g) A s.heap st H locs → lv_has ls 4 [(0, .ref (g.2.1 59)), (1, .int x1), (2, .int x2), (3, .int x3)] → W p l e rm_X0_marksDown s m args below meth c H locs 0 0 (MQ below (QI g nwX (ceX g) A r9 st) args s 0 0 A) (F0 m 4 ls [])) (h : X0_marksDown_29 rc4 x1 x2 x3 st = some r9) (Y : Hp g nwX (ceX g) A s.heap st H locs)  (hl : lv_has ls 4 [(0, .ref (g.2.1 59)), (1, .int x1), (2, .int x2), (3, .int x3)]) : W p l e rm_X0_marksDown s m args below meth c H locs 0 0 (MQ below (QI g nwX (ceX g) A r9 st) args s 0 0 A) (F0 m 29 ls []) := by
  have hx := X.1
  have hb := X.2.1
  unfold X0_marksDown_29 at h
  obtain ⟨v1, ev1, h⟩ := nm_s h
  refine lv_iinc (v := v1) (lv' := [(3, .int v1), (0, .ref (g.2.1 59)), (1, .int x1), (2, .int x2)]) hx hb dX0_marksDown_29 hl (k := 3) rfl (by rw [ev1]; rfl) (by decide) rfl (fun ls hl => ?_)
  refine lv_goto (tgt := 4) hx hb dX0_marksDown_32 (by decide) ?_
  exact hrc4 x2 v1 _ _ _ h Y (lv_sub hl [1, 2, 3, 0] rfl)
set_option maxHeartbeats 4000000 in
set_option maxRecDepth 100000 in
theorem w_X0_marksDown_35 (X : Cx g p s m args meth c cX0_marksDown 4 RX0 (some .int)) {x2 : Int32} {st : Sg} {r9 : Int32}  (h : X0_marksDown_35 x2 st = some r9) (Y : Hp g nwX (ceX g) A s.heap st H locs)  (hl : lv_has ls 4 [(2, .int x2)]) : W p l e rm_X0_marksDown s m args below meth c H locs 0 0 (MQ below (QI g nwX (ceX g) A r9 st) args s 0 0 A) (F0 m 35 ls []) := by
  have hx := X.1
  have hb := X.2.1
  unfold X0_marksDown_35 at h
  refine lv_iload_n hx hb dX0_marksDown_35 rfl (lv_at hl 0 rfl) ?_
  exact k_iretR X Y h dX0_marksDown_36
set_option maxHeartbeats 4000000 in
set_option maxRecDepth 100000 in
theorem w_X0_marksDown_4b (X : Cx g p s m args meth c cX0_marksDown 4 RX0 (some .int)) {x1 : Int32} {x2 : Int32} {x3 : Int32} {st : Sg} {r9 : Int32} (rc4 : Int32 → Int32 → Option Int32) (hrc4 : ∀ (x2 : Int32) (x3 : Int32) (ls : Array Slot) (H : Heap) (locs : List Loc), rc4 x2 x3 = some r9 → Hp g nwX (ceX g) A s.heap st H locs → lv_has ls 4 [(0, .ref (g.2.1 59)), (1, .int x1), (2, .int x2), (3, .int x3)] → W p l e rm_X0_marksDown s m args below meth c H locs 0 0 (MQ below (QI g nwX (ceX g) A r9 st) args s 0 0 A) (F0 m 4 ls [])) (h : X0_marksDown_4b rc4 x1 x2 x3 st = some r9) (Y : Hp g nwX (ceX g) A s.heap st H locs)  (hl : lv_has ls 4 [(0, .ref (g.2.1 59)), (1, .int x1), (2, .int x2), (3, .int x3)]) : W p l e rm_X0_marksDown s m args below meth c H locs 0 0 (MQ below (QI g nwX (ceX g) A r9 st) args s 0 0 A) (F0 m 4 ls []) := by
  have hx := X.1
  have hb := X.2.1
  unfold X0_marksDown_4b at h
  refine lv_iload_n hx hb dX0_marksDown_4 rfl (lv_at hl 3 rfl) ?_
  refine lv_iload_n hx hb dX0_marksDown_5 rfl (lv_at hl 1 rfl) ?_
  refine lv_icmp_ge (tgt := 35) hx hb dX0_marksDown_6 (by decide) (fun c1 => ?_) (fun c1 => ?_)
  · have h := ite_t h c1
    exact w_X0_marksDown_35 X  h Y  (lv_sub hl [2] rfl)
  · have h := ite_f h c1
    refine lv_aload_n hx hb dX0_marksDown_9 rfl (lv_at hl 0 rfl) ?_
    refine k_get (v := .ref (g.2.1 60)) X Y fl_0_9 59 (Nat.le_of_ble_eq_true rfl) rfl rfl dX0_marksDown_10 ?_
    refine lv_iload_n hx hb dX0_marksDown_13 rfl (lv_at hl 3 rfl) ?_
    obtain ⟨i2, h⟩ := cix_s h
    refine k_iald X Y 60 (Nat.le_of_ble_eq_true rfl) (fun _ _ => rfl) i2 dX0_marksDown_14 ?_
    refine lv_aload_n hx hb dX0_marksDown_15 rfl (lv_at hl 0 rfl) ?_
    refine k_get (v := .ref (g.2.1 60)) X Y fl_0_9 59 (Nat.le_of_ble_eq_true rfl) rfl rfl dX0_marksDown_16 ?_
    refine lv_iload_n hx hb dX0_marksDown_19 rfl (lv_at hl 3 rfl) ?_
    refine lv_iconst (v := 1) hx hb dX0_marksDown_20 (by decide) ?_
    refine lv_isub hx hb dX0_marksDown_21 ?_
    obtain ⟨i3, h⟩ := cix_s h
    refine k_iald X Y 60 (Nat.le_of_ble_eq_true rfl) (fun _ _ => rfl) i3 dX0_marksDown_22 ?_
    refine lv_icmp_eq (tgt := 29) hx hb dX0_marksDown_23 (by decide) (fun c4 => ?_) (fun c4 => ?_)
    · have h := ite_t h c4
      exact w_X0_marksDown_29 X rc4 hrc4 h Y  (lv_sub hl [0, 1, 2, 3] rfl)
    · have h := ite_f h c4
      obtain ⟨v5, ev5, h⟩ := nm_s h
      refine lv_iinc (v := v5) (lv' := [(2, .int v5), (0, .ref (g.2.1 59)), (1, .int x1), (3, .int x3)]) hx hb dX0_marksDown_26 hl (k := 2) rfl (by rw [ev5]; rfl) (by decide) rfl (fun ls hl => ?_)
      exact w_X0_marksDown_29 X rc4 hrc4 h Y  (lv_sub hl [1, 2, 0, 3] rfl)
theorem w_X0_marksDown_4 (X : Cx g p s m args meth c cX0_marksDown 4 RX0 (some .int)) {x1 : Int32} {st : Sg} {r9 : Int32}   : ∀ (k : Nat) (x2 : Int32) (x3 : Int32) (ls : Array Slot) (H : Heap) (locs : List Loc), X0_marksDown_4 x1 st k x2 x3 = some r9 → Hp g nwX (ceX g) A s.heap st H locs → lv_has ls 4 [(0, .ref (g.2.1 59)), (1, .int x1), (2, .int x2), (3, .int x3)] → W p l e rm_X0_marksDown s m args below meth c H locs 0 0 (MQ below (QI g nwX (ceX g) A r9 st) args s 0 0 A) (F0 m 4 ls []) := by
  intro k
  induction k with
  | zero =>
    intro x2 x3 ls H locs h
    exact none_s h
  | succ k ih =>
    intro x2 x3 ls H locs h Y hl
    exact w_X0_marksDown_4b X  (X0_marksDown_4 x1 st k) ih h Y  hl
set_option maxHeartbeats 4000000 in
set_option maxRecDepth 100000 in
theorem w_X0_marksDown (X : Cx g p s m args meth c cX0_marksDown 4 RX0 (some .int)) {x1 : Int32} {st : Sg} {r9 : Int32}  (h : X0_marksDown x1 st = some r9) (Y : Hp g nwX (ceX g) A s.heap st H locs)  (hl : lv_has ls 4 [(0, .ref (g.2.1 59)), (1, .int x1)]) : W p l e rm_X0_marksDown s m args below meth c H locs 0 0 (MQ below (QI g nwX (ceX g) A r9 st) args s 0 0 A) (F0 m 0 ls []) := by
  have hx := X.1
  have hb := X.2.1
  unfold X0_marksDown at h
  refine lv_iconst (v := 0) hx hb dX0_marksDown_0 (by decide) ?_
  refine lv_istore_n (lv' := [(2, .int 0), (0, .ref (g.2.1 59)), (1, .int x1)]) hx hb dX0_marksDown_1 rfl hl (by decide) rfl (fun ls hl => ?_)
  refine lv_iconst (v := 1) hx hb dX0_marksDown_2 (by decide) ?_
  refine lv_istore_n (lv' := [(3, .int 1), (2, .int 0), (0, .ref (g.2.1 59)), (1, .int x1)]) hx hb dX0_marksDown_3 rfl hl (by decide) rfl (fun ls hl => ?_)
  exact w_X0_marksDown_4 X   FU 0 1 _ _ _ h Y (lv_sub hl [2, 3, 1, 0] rfl)
theorem c_X0_marksDown (l : Launch) {g : Gx} {x1 : Int32} {st : Sg} {r9 : Int32} (h : X0_marksDown x1 st = some r9) : MetI l yX0_marksDown cX0_marksDown 4 (some .int) rm_X0_marksDown g nwX (ceX g) [.ref (g.2.1 59), .int x1] st r9 st :=
  met_of (Qc := fun A => QI g nwX (ceX g) A r9 st) (by decide) (Nat.le_of_ble_eq_true rfl) (fun p e s m below meth c A ls X Y hl => w_X0_marksDown X h Y hl)
def X0_advance_54   (x3 : Int32) (st : Sg) : Option (Int32 × Sg) :=
  some (x3, st)
def X0_advance_33b  (rc33 : Int32 → Sg → Option (Int32 × Sg)) (x1 : Int32) (x3 : Int32) (x4 : Int32) (x5 : Int32) (st : Sg) : Option (Int32 × Sg) :=
  if x1 ≤ x5 then
    X0_advance_54 x3 st
  else
    cix x5 6 <|
    nm (sI st 60 x5.toNatClampNeg x4) fun st3 =>
    nm (x5 + 1) fun v4 =>
    rc33 v4 st3
def X0_advance_33   (x1 : Int32) (x3 : Int32) (x4 : Int32) : Nat → Int32 → Sg → Option (Int32 × Sg)
  | 0, _, _ => none
  | k + 1, x5, st => X0_advance_33b   (X0_advance_33 x1 x3 x4 k) x1 x3 x4 x5 st
def X0_advance_20   (x1 : Int32) (x3 : Int32) (st : Sg) : Option (Int32 × Sg) :=
  cix x3 6 <|
  nm ((st.1 60 x3.toNatClampNeg) + 1) fun v2 =>
  X0_advance_33 x1 x3 v2 FU x3 st
def X0_advance_62    (st : Sg) : Option (Int32 × Sg) :=
  some ((-6), st)
def X0_advance_4b  (rc4 : Int32 → Sg → Option (Int32 × Sg)) (x1 : Int32) (x2 : Int32) (x3 : Int32) (st : Sg) : Option (Int32 × Sg) :=
  if x3 < (0 : Int32) then
    X0_advance_62 st
  else
    cix x3 6 <|
    if (x2 - 1) ≤ (st.1 60 x3.toNatClampNeg) then
      nm (x3 + (-1)) fun v4 =>
      rc4 v4 st
    else
      X0_advance_20 x1 x3 st
def X0_advance_4   (x1 : Int32) (x2 : Int32) : Nat → Int32 → Sg → Option (Int32 × Sg)
  | 0, _, _ => none
  | k + 1, x3, st => X0_advance_4b   (X0_advance_4 x1 x2 k) x1 x2 x3 st
def X0_advance   (x1 : Int32) (x2 : Int32) (st : Sg) : Option (Int32 × Sg) :=
  nm (x1 - 1) fun v1 =>
  X0_advance_4 x1 x2 FU v1 st
abbrev rm_X0_advance : Room := { frames := 0, cells := 0, slots := 0, locals := 0 }
set_option maxHeartbeats 4000000 in
set_option maxRecDepth 100000 in
theorem w_X0_advance_54 (X : Cx g p s m args meth c cX0_advance 6 RX0 (some .int)) {x3 : Int32} {st : Sg} {r9 : Int32} {st9 : Sg}  (h : X0_advance_54 x3 st = some (r9, st9)) (Y : Hp g nwX (ceX g) A s.heap st H locs)  (hl : lv_has ls 6 [(3, .int x3)]) : W p l e rm_X0_advance s m args below meth c H locs 0 0 (MQ below (QI g nwX (ceX g) A r9 st9) args s 0 0 A) (F0 m 54 ls []) := by
  have hx := X.1
  have hb := X.2.1
  unfold X0_advance_54 at h
  refine lv_iload_n hx hb dX0_advance_54 rfl (lv_at hl 0 rfl) ?_
  exact k_iretW X Y h dX0_advance_55
set_option maxHeartbeats 4000000 in
set_option maxRecDepth 100000 in
theorem w_X0_advance_33b (X : Cx g p s m args meth c cX0_advance 6 RX0 (some .int)) {x1 : Int32} {x3 : Int32} {x4 : Int32} {x5 : Int32} {st : Sg} {r9 : Int32} {st9 : Sg} (rc33 : Int32 → Sg → Option (Int32 × Sg)) (hrc33 : ∀ (x5 : Int32) (st : Sg) (ls : Array Slot) (H : Heap) (locs : List Loc), rc33 x5 st = some (r9, st9) → Hp g nwX (ceX g) A s.heap st H locs → lv_has ls 6 [(0, .ref (g.2.1 59)), (1, .int x1), (3, .int x3), (4, .int x4), (5, .int x5)] → W p l e rm_X0_advance s m args below meth c H locs 0 0 (MQ below (QI g nwX (ceX g) A r9 st9) args s 0 0 A) (F0 m 33 ls [])) (h : X0_advance_33b rc33 x1 x3 x4 x5 st = some (r9, st9)) (Y : Hp g nwX (ceX g) A s.heap st H locs)  (hl : lv_has ls 6 [(0, .ref (g.2.1 59)), (1, .int x1), (3, .int x3), (4, .int x4), (5, .int x5)]) : W p l e rm_X0_advance s m args below meth c H locs 0 0 (MQ below (QI g nwX (ceX g) A r9 st9) args s 0 0 A) (F0 m 33 ls []) := by
  have hx := X.1
  have hb := X.2.1
  unfold X0_advance_33b at h
  refine lv_iload hx hb dX0_advance_33 (lv_at hl 4 rfl) ?_
  refine lv_iload_n hx hb dX0_advance_35 rfl (lv_at hl 1 rfl) ?_
  refine lv_icmp_ge (tgt := 54) hx hb dX0_advance_36 (by decide) (fun c1 => ?_) (fun c1 => ?_)
  · have h := ite_t h c1
    exact w_X0_advance_54 X  h Y  (lv_sub hl [2] rfl)
  · have h := ite_f h c1
    refine lv_aload_n hx hb dX0_advance_39 rfl (lv_at hl 0 rfl) ?_
    refine k_get (v := .ref (g.2.1 60)) X Y fl_0_9 59 (Nat.le_of_ble_eq_true rfl) rfl rfl dX0_advance_40 ?_
    refine lv_iload hx hb dX0_advance_43 (lv_at hl 4 rfl) ?_
    refine lv_iload hx hb dX0_advance_45 (lv_at hl 3 rfl) ?_
    obtain ⟨i2, h⟩ := cix_s h
    refine k_iast X Y 60 (Nat.le_of_ble_eq_true rfl) (fun _ _ => rfl) i2 dX0_advance_47 (fun H locs Y => ?_)
    obtain ⟨st3, est3, h⟩ := nm_s h
    have Y : Hp g nwX (ceX g) A s.heap st3 H locs := by rw [est3]; exact Y
    obtain ⟨v4, ev4, h⟩ := nm_s h
    refine lv_iinc (v := v4) (lv' := [(5, .int v4), (0, .ref (g.2.1 59)), (1, .int x1), (3, .int x3), (4, .int x4)]) hx hb dX0_advance_48 hl (k := 4) rfl (by rw [ev4]; rfl) (by decide) rfl (fun ls hl => ?_)
    refine lv_goto (tgt := 33) hx hb dX0_advance_51 (by decide) ?_
    exact hrc33 v4 st3 _ _ _ h Y (lv_sub hl [1, 2, 3, 4, 0] rfl)
theorem w_X0_advance_33 (X : Cx g p s m args meth c cX0_advance 6 RX0 (some .int)) {x1 : Int32} {x3 : Int32} {x4 : Int32}  {r9 : Int32} {st9 : Sg}   : ∀ (k : Nat) (x5 : Int32) (st : Sg) (ls : Array Slot) (H : Heap) (locs : List Loc), X0_advance_33 x1 x3 x4 k x5 st = some (r9, st9) → Hp g nwX (ceX g) A s.heap st H locs → lv_has ls 6 [(0, .ref (g.2.1 59)), (1, .int x1), (3, .int x3), (4, .int x4), (5, .int x5)] → W p l e rm_X0_advance s m args below meth c H locs 0 0 (MQ below (QI g nwX (ceX g) A r9 st9) args s 0 0 A) (F0 m 33 ls []) := by
  intro k
  induction k with
  | zero =>
    intro x5 st ls H locs h
    exact none_s h
  | succ k ih =>
    intro x5 st ls H locs h Y hl
    exact w_X0_advance_33b X  (X0_advance_33 x1 x3 x4 k) ih h Y  hl
set_option maxHeartbeats 4000000 in
set_option maxRecDepth 100000 in
theorem w_X0_advance_20 (X : Cx g p s m args meth c cX0_advance 6 RX0 (some .int)) {x1 : Int32} {x3 : Int32} {st : Sg} {r9 : Int32} {st9 : Sg}  (h : X0_advance_20 x1 x3 st = some (r9, st9)) (Y : Hp g nwX (ceX g) A s.heap st H locs)  (hl : lv_has ls 6 [(0, .ref (g.2.1 59)), (1, .int x1), (3, .int x3)]) : W p l e rm_X0_advance s m args below meth c H locs 0 0 (MQ below (QI g nwX (ceX g) A r9 st9) args s 0 0 A) (F0 m 20 ls []) := by
  have hx := X.1
  have hb := X.2.1
  unfold X0_advance_20 at h
  refine lv_aload_n hx hb dX0_advance_20 rfl (lv_at hl 0 rfl) ?_
  refine k_get (v := .ref (g.2.1 60)) X Y fl_0_9 59 (Nat.le_of_ble_eq_true rfl) rfl rfl dX0_advance_21 ?_
  refine lv_iload_n hx hb dX0_advance_24 rfl (lv_at hl 2 rfl) ?_
  obtain ⟨i1, h⟩ := cix_s h
  refine k_iald X Y 60 (Nat.le_of_ble_eq_true rfl) (fun _ _ => rfl) i1 dX0_advance_25 ?_
  refine lv_iconst (v := 1) hx hb dX0_advance_26 (by decide) ?_
  refine lv_iadd hx hb dX0_advance_27 ?_
  obtain ⟨v2, ev2, h⟩ := nm_s h
  refine k_nmI ev2 ?_
  refine lv_istore (lv' := [(4, .int v2), (0, .ref (g.2.1 59)), (1, .int x1), (3, .int x3)]) hx hb dX0_advance_28 hl (by decide) rfl (fun ls hl => ?_)
  refine lv_iload_n hx hb dX0_advance_30 rfl (lv_at hl 3 rfl) ?_
  refine lv_istore (lv' := [(5, .int x3), (4, .int v2), (0, .ref (g.2.1 59)), (1, .int x1), (3, .int x3)]) hx hb dX0_advance_31 hl (by decide) rfl (fun ls hl => ?_)
  exact w_X0_advance_33 X   FU x3 st _ _ _ h Y (lv_sub hl [2, 3, 4, 1, 0] rfl)
set_option maxHeartbeats 4000000 in
set_option maxRecDepth 100000 in
theorem w_X0_advance_62 (X : Cx g p s m args meth c cX0_advance 6 RX0 (some .int))  {st : Sg} {r9 : Int32} {st9 : Sg}  (h : X0_advance_62 st = some (r9, st9)) (Y : Hp g nwX (ceX g) A s.heap st H locs)  (hl : lv_has ls 6 []) : W p l e rm_X0_advance s m args below meth c H locs 0 0 (MQ below (QI g nwX (ceX g) A r9 st9) args s 0 0 A) (F0 m 62 ls []) := by
  have hx := X.1
  have hb := X.2.1
  unfold X0_advance_62 at h
  refine lv_bipush (v := (-6)) hx hb dX0_advance_62 (by decide) ?_
  exact k_iretW X Y h dX0_advance_64
set_option maxHeartbeats 4000000 in
set_option maxRecDepth 100000 in
theorem w_X0_advance_4b (X : Cx g p s m args meth c cX0_advance 6 RX0 (some .int)) {x1 : Int32} {x2 : Int32} {x3 : Int32} {st : Sg} {r9 : Int32} {st9 : Sg} (rc4 : Int32 → Sg → Option (Int32 × Sg)) (hrc4 : ∀ (x3 : Int32) (st : Sg) (ls : Array Slot) (H : Heap) (locs : List Loc), rc4 x3 st = some (r9, st9) → Hp g nwX (ceX g) A s.heap st H locs → lv_has ls 6 [(0, .ref (g.2.1 59)), (1, .int x1), (2, .int x2), (3, .int x3)] → W p l e rm_X0_advance s m args below meth c H locs 0 0 (MQ below (QI g nwX (ceX g) A r9 st9) args s 0 0 A) (F0 m 4 ls [])) (h : X0_advance_4b rc4 x1 x2 x3 st = some (r9, st9)) (Y : Hp g nwX (ceX g) A s.heap st H locs)  (hl : lv_has ls 6 [(0, .ref (g.2.1 59)), (1, .int x1), (2, .int x2), (3, .int x3)]) : W p l e rm_X0_advance s m args below meth c H locs 0 0 (MQ below (QI g nwX (ceX g) A r9 st9) args s 0 0 A) (F0 m 4 ls []) := by
  have hx := X.1
  have hb := X.2.1
  unfold X0_advance_4b at h
  refine lv_iload_n hx hb dX0_advance_4 rfl (lv_at hl 3 rfl) ?_
  refine lv_if_lt (tgt := 62) hx hb dX0_advance_5 (by decide) (fun c1 => ?_) (fun c1 => ?_)
  · have h := ite_t h c1
    exact w_X0_advance_62 X  h Y  (lv_sub hl [] rfl)
  · have h := ite_f h c1
    refine lv_aload_n hx hb dX0_advance_8 rfl (lv_at hl 0 rfl) ?_
    refine k_get (v := .ref (g.2.1 60)) X Y fl_0_9 59 (Nat.le_of_ble_eq_true rfl) rfl rfl dX0_advance_9 ?_
    refine lv_iload_n hx hb dX0_advance_12 rfl (lv_at hl 3 rfl) ?_
    obtain ⟨i2, h⟩ := cix_s h
    refine k_iald X Y 60 (Nat.le_of_ble_eq_true rfl) (fun _ _ => rfl) i2 dX0_advance_13 ?_
    refine lv_iload_n hx hb dX0_advance_14 rfl (lv_at hl 2 rfl) ?_
    refine lv_iconst (v := 1) hx hb dX0_advance_15 (by decide) ?_
    refine lv_isub hx hb dX0_advance_16 ?_
    refine lv_icmp_ge (tgt := 56) hx hb dX0_advance_17 (by decide) (fun c3 => ?_) (fun c3 => ?_)
    · have h := ite_t h c3
      obtain ⟨v4, ev4, h⟩ := nm_s h
      refine lv_iinc (v := v4) (lv' := [(3, .int v4), (0, .ref (g.2.1 59)), (1, .int x1), (2, .int x2)]) hx hb dX0_advance_56 hl (k := 3) rfl (by rw [ev4]; rfl) (by decide) rfl (fun ls hl => ?_)
      refine lv_goto (tgt := 4) hx hb dX0_advance_59 (by decide) ?_
      exact hrc4 v4 st _ _ _ h Y (lv_sub hl [1, 2, 3, 0] rfl)
    · have h := ite_f h c3
      exact w_X0_advance_20 X  h Y  (lv_sub hl [0, 1, 3] rfl)
theorem w_X0_advance_4 (X : Cx g p s m args meth c cX0_advance 6 RX0 (some .int)) {x1 : Int32} {x2 : Int32}  {r9 : Int32} {st9 : Sg}   : ∀ (k : Nat) (x3 : Int32) (st : Sg) (ls : Array Slot) (H : Heap) (locs : List Loc), X0_advance_4 x1 x2 k x3 st = some (r9, st9) → Hp g nwX (ceX g) A s.heap st H locs → lv_has ls 6 [(0, .ref (g.2.1 59)), (1, .int x1), (2, .int x2), (3, .int x3)] → W p l e rm_X0_advance s m args below meth c H locs 0 0 (MQ below (QI g nwX (ceX g) A r9 st9) args s 0 0 A) (F0 m 4 ls []) := by
  intro k
  induction k with
  | zero =>
    intro x3 st ls H locs h
    exact none_s h
  | succ k ih =>
    intro x3 st ls H locs h Y hl
    exact w_X0_advance_4b X  (X0_advance_4 x1 x2 k) ih h Y  hl
set_option maxHeartbeats 4000000 in
set_option maxRecDepth 100000 in
theorem w_X0_advance (X : Cx g p s m args meth c cX0_advance 6 RX0 (some .int)) {x1 : Int32} {x2 : Int32} {st : Sg} {r9 : Int32} {st9 : Sg}  (h : X0_advance x1 x2 st = some (r9, st9)) (Y : Hp g nwX (ceX g) A s.heap st H locs)  (hl : lv_has ls 6 [(0, .ref (g.2.1 59)), (1, .int x1), (2, .int x2)]) : W p l e rm_X0_advance s m args below meth c H locs 0 0 (MQ below (QI g nwX (ceX g) A r9 st9) args s 0 0 A) (F0 m 0 ls []) := by
  have hx := X.1
  have hb := X.2.1
  unfold X0_advance at h
  refine lv_iload_n hx hb dX0_advance_0 rfl (lv_at hl 1 rfl) ?_
  refine lv_iconst (v := 1) hx hb dX0_advance_1 (by decide) ?_
  refine lv_isub hx hb dX0_advance_2 ?_
  obtain ⟨v1, ev1, h⟩ := nm_s h
  refine k_nmI ev1 ?_
  refine lv_istore_n (lv' := [(3, .int v1), (0, .ref (g.2.1 59)), (1, .int x1), (2, .int x2)]) hx hb dX0_advance_3 rfl hl (by decide) rfl (fun ls hl => ?_)
  exact w_X0_advance_4 X   FU v1 st _ _ _ h Y (lv_sub hl [1, 2, 3, 0] rfl)
theorem c_X0_advance (l : Launch) {g : Gx} {x1 : Int32} {x2 : Int32} {st : Sg} {r9 : Int32} {st9 : Sg} (h : X0_advance x1 x2 st = some (r9, st9)) : MetI l yX0_advance cX0_advance 6 (some .int) rm_X0_advance g nwX (ceX g) [.ref (g.2.1 59), .int x1, .int x2] st r9 st9 :=
  met_of (Qc := fun A => QI g nwX (ceX g) A r9 st9) (by decide) (Nat.le_of_ble_eq_true rfl) (fun p e s m below meth c A ls X Y hl => w_X0_advance X h Y hl)
def X7_findKept_131  (rc39 : Int32 → Int32 → Sg → Option Sg) (x2 : Int32) (st : Sg) : Option Sg :=
  bnd2 (X0_advance (st.1 1 1) (st.1 1 4) st) fun v3 st2 =>
  nm (x2 + 1) fun v4 =>
  rc39 v3 v4 st2
def X7_findKept_159    (st : Sg) : Option Sg :=
  nm (sI st 0 12 (st.1 1 10)) fun st1 =>
  some st1
def X7_findKept_39b  (rc39 : Int32 → Int32 → Sg → Option Sg) (x1 : Int32) (x2 : Int32) (st : Sg) : Option Sg :=
  if (210 : Int32) ≤ x2 then
    X7_findKept_159 st
  else
    if x1 = ((-6) : Int32) then
      X7_findKept_159 st
    else
      bnd1 (X6_goByPlan 60 x1 st) fun st4 =>
      bnd1 (X6_mean st4) fun v6 =>
      bnd1 (X1_offer 61 v6 st4) fun st8 =>
      bnd1 (X0_marksDown (st8.1 1 1) st8) fun v10 =>
      if (1 : Int32) < v10 then
        X7_findKept_131 rc39 x2 st8
      else
        bnd1 (X1_offer 63 v6 st8) fun st13 =>
        X7_findKept_131 rc39 x2 st13
def X7_findKept_39    : Nat → Int32 → Int32 → Sg → Option Sg
  | 0, _, _, _ => none
  | k + 1, x1, x2, st => X7_findKept_39b   (X7_findKept_39 k) x1 x2 st
def X7_findKept    (st : Sg) : Option Sg :=
  if (st.1 0 12) = (st.1 1 10) then
    some st
  else
    bnd1 (X1_clear 61 st) fun st3 =>
    bnd1 (X1_clear 63 st3) fun st5 =>
    bnd2 (X0_begin st5) fun v8 st7 =>
    X7_findKept_39 FU v8 0 st7
abbrev rm_X7_findKept : Room := { frames := 3, cells := 0, slots := 0, locals := 74 }
set_option maxHeartbeats 4000000 in
set_option maxRecDepth 100000 in
theorem w_X7_findKept_131 (X : Cx g p s m args meth c cX7_findKept 5 RX7 none) {x2 : Int32} {st : Sg} {st9 : Sg} (rc39 : Int32 → Int32 → Sg → Option Sg) (hrc39 : ∀ (x1 : Int32) (x2 : Int32) (st : Sg) (ls : Array Slot) (H : Heap) (locs : List Loc), rc39 x1 x2 st = some st9 → Hp g nwX (ceX g) A s.heap st H locs → lv_has ls 5 [(0, .ref (g.2.1 0)), (1, .int x1), (2, .int x2)] → W p l e rm_X7_findKept s m args below meth c H locs 0 0 (MQ below (QV g nwX (ceX g) A st9) args s 0 0 A) (F0 m 39 ls [])) (h : X7_findKept_131 rc39 x2 st = some st9) (Y : Hp g nwX (ceX g) A s.heap st H locs)  (hl : lv_has ls 5 [(0, .ref (g.2.1 0)), (2, .int x2)]) : W p l e rm_X7_findKept s m args below meth c H locs 0 0 (MQ below (QV g nwX (ceX g) A st9) args s 0 0 A) (F0 m 131 ls []) := by
  have hx := X.1
  have hb := X.2.1
  unfold X7_findKept_131 at h
  refine lv_aload_n hx hb dX7_findKept_131 rfl (lv_at hl 0 rfl) ?_
  refine k_get (v := .ref (g.2.1 59)) X Y fl_7_40 0 (Nat.le_of_ble_eq_true rfl) rfl rfl dX7_findKept_132 ?_
  refine lv_aload_n hx hb dX7_findKept_135 rfl (lv_at hl 0 rfl) ?_
  refine k_get (v := .ref (g.2.1 1)) X Y fl_7_10 0 (Nat.le_of_ble_eq_true rfl) rfl rfl dX7_findKept_136 ?_
  refine k_get (v := .int (st.1 1 1)) X Y fl_7_88 1 (Nat.le_of_ble_eq_true rfl) rfl rfl dX7_findKept_139 ?_
  refine lv_aload_n hx hb dX7_findKept_142 rfl (lv_at hl 0 rfl) ?_
  refine k_get (v := .ref (g.2.1 1)) X Y fl_7_10 0 (Nat.le_of_ble_eq_true rfl) rfl rfl dX7_findKept_143 ?_
  refine k_get (v := .int (st.1 1 4)) X Y fl_7_97 1 (Nat.le_of_ble_eq_true rfl) rfl rfl dX7_findKept_146 ?_
  obtain ⟨v3, st2, hc1, h⟩ := bnd2_s h
  refine k_cI Y (k_runV (As := [.int (st.1 1 1), .int (st.1 1 4)]) (rest := []) (o := 59) X Y cl_7_255 (c_X0_advance l hc1 _) ⟨rfl, rfl, Nat.le_of_ble_eq_true rfl, Nat.le_of_ble_eq_true rfl⟩ (Nat.le_of_ble_eq_true rfl) rfl rfl hl.1 rfl (Nat.le_of_ble_eq_true rfl) dX7_findKept_149 ⟨Nat.zero_le _, Nat.zero_le _⟩) (fun H locs Y => ?_)
  refine lv_istore_n (lv' := [(1, .int v3), (0, .ref (g.2.1 0)), (2, .int x2)]) hx hb dX7_findKept_152 rfl hl (by decide) rfl (fun ls hl => ?_)
  obtain ⟨v4, ev4, h⟩ := nm_s h
  refine lv_iinc (v := v4) (lv' := [(2, .int v4), (1, .int v3), (0, .ref (g.2.1 0))]) hx hb dX7_findKept_153 hl (k := 2) rfl (by rw [ev4]; rfl) (by decide) rfl (fun ls hl => ?_)
  refine lv_goto (tgt := 39) hx hb dX7_findKept_156 (by decide) ?_
  exact hrc39 v3 v4 st2 _ _ _ h Y (lv_sub hl [2, 1, 0] rfl)
set_option maxHeartbeats 4000000 in
set_option maxRecDepth 100000 in
theorem w_X7_findKept_159 (X : Cx g p s m args meth c cX7_findKept 5 RX7 none)  {st : Sg} {st9 : Sg}  (h : X7_findKept_159 st = some st9) (Y : Hp g nwX (ceX g) A s.heap st H locs)  (hl : lv_has ls 5 [(0, .ref (g.2.1 0))]) : W p l e rm_X7_findKept s m args below meth c H locs 0 0 (MQ below (QV g nwX (ceX g) A st9) args s 0 0 A) (F0 m 159 ls []) := by
  have hx := X.1
  have hb := X.2.1
  unfold X7_findKept_159 at h
  refine lv_aload_n hx hb dX7_findKept_159 rfl (lv_at hl 0 rfl) ?_
  refine lv_aload_n hx hb dX7_findKept_160 rfl (lv_at hl 0 rfl) ?_
  refine k_get (v := .ref (g.2.1 1)) X Y fl_7_10 0 (Nat.le_of_ble_eq_true rfl) rfl rfl dX7_findKept_161 ?_
  refine k_get (v := .int (st.1 1 10)) X Y fl_7_94 1 (Nat.le_of_ble_eq_true rfl) rfl rfl dX7_findKept_164 ?_
  refine k_putI X Y fl_7_75 0 (Nat.le_of_ble_eq_true rfl) rfl rfl rfl (Nat.le_of_ble_eq_true rfl) rfl dX7_findKept_167 (fun H locs Y => ?_)
  obtain ⟨st1, est1, h⟩ := nm_s h
  have Y : Hp g nwX (ceX g) A s.heap st1 H locs := by rw [est1]; exact Y
  exact k_vretW X Y h dX7_findKept_170
set_option maxHeartbeats 4000000 in
set_option maxRecDepth 100000 in
theorem w_X7_findKept_39b (X : Cx g p s m args meth c cX7_findKept 5 RX7 none) {x1 : Int32} {x2 : Int32} {st : Sg} {st9 : Sg} (rc39 : Int32 → Int32 → Sg → Option Sg) (hrc39 : ∀ (x1 : Int32) (x2 : Int32) (st : Sg) (ls : Array Slot) (H : Heap) (locs : List Loc), rc39 x1 x2 st = some st9 → Hp g nwX (ceX g) A s.heap st H locs → lv_has ls 5 [(0, .ref (g.2.1 0)), (1, .int x1), (2, .int x2)] → W p l e rm_X7_findKept s m args below meth c H locs 0 0 (MQ below (QV g nwX (ceX g) A st9) args s 0 0 A) (F0 m 39 ls [])) (h : X7_findKept_39b rc39 x1 x2 st = some st9) (Y : Hp g nwX (ceX g) A s.heap st H locs)  (hl : lv_has ls 5 [(0, .ref (g.2.1 0)), (1, .int x1), (2, .int x2)]) : W p l e rm_X7_findKept s m args below meth c H locs 0 0 (MQ below (QV g nwX (ceX g) A st9) args s 0 0 A) (F0 m 39 ls []) := by
  have hx := X.1
  have hb := X.2.1
  unfold X7_findKept_39b at h
  refine lv_iload_n hx hb dX7_findKept_39 rfl (lv_at hl 2 rfl) ?_
  refine lv_sipush (v := 210) hx hb dX7_findKept_40 (by decide) ?_
  refine lv_icmp_ge (tgt := 159) hx hb dX7_findKept_43 (by decide) (fun c1 => ?_) (fun c1 => ?_)
  · have h := ite_t h c1
    exact w_X7_findKept_159 X  h Y  (lv_sub hl [0] rfl)
  · have h := ite_f h c1
    refine lv_iload_n hx hb dX7_findKept_46 rfl (lv_at hl 1 rfl) ?_
    refine lv_bipush (v := (-6)) hx hb dX7_findKept_47 (by decide) ?_
    refine lv_icmp_eq (tgt := 159) hx hb dX7_findKept_49 (by decide) (fun c2 => ?_) (fun c2 => ?_)
    · have h := ite_t h c2
      exact w_X7_findKept_159 X  h Y  (lv_sub hl [0] rfl)
    · have h := ite_f h c2
      refine lv_aload_n hx hb dX7_findKept_52 rfl (lv_at hl 0 rfl) ?_
      refine k_get (v := .ref (g.2.1 42)) X Y fl_7_33 0 (Nat.le_of_ble_eq_true rfl) rfl rfl dX7_findKept_53 ?_
      refine lv_aload_n hx hb dX7_findKept_56 rfl (lv_at hl 0 rfl) ?_
      refine k_get (v := .ref (g.2.1 1)) X Y fl_7_10 0 (Nat.le_of_ble_eq_true rfl) rfl rfl dX7_findKept_57 ?_
      refine lv_aload_n hx hb dX7_findKept_60 rfl (lv_at hl 0 rfl) ?_
      refine k_get (v := .ref (g.2.1 59)) X Y fl_7_40 0 (Nat.le_of_ble_eq_true rfl) rfl rfl dX7_findKept_61 ?_
      refine k_get (v := .ref (g.2.1 60)) X Y fl_7_247 59 (Nat.le_of_ble_eq_true rfl) rfl rfl dX7_findKept_64 ?_
      refine lv_iload_n hx hb dX7_findKept_67 rfl (lv_at hl 1 rfl) ?_
      obtain ⟨st4, hc3, h⟩ := bnd1_s h
      refine k_cV Y (k_runV (As := [.ref (g.2.1 1), .ref (g.2.1 60), .int x1]) (rest := []) (o := 42) X Y cl_7_142 (c_X6_goByPlan_60 l hc3 _) ⟨rfl, rfl, Nat.le_of_ble_eq_true rfl, Nat.le_of_ble_eq_true rfl⟩ (Nat.le_of_ble_eq_true rfl) rfl rfl hl.1 rfl (Nat.le_of_ble_eq_true rfl) dX7_findKept_68 ⟨Nat.zero_le _, Nat.zero_le _⟩) (fun H locs Y => ?_)
      refine lv_aload_n hx hb dX7_findKept_71 rfl (lv_at hl 0 rfl) ?_
      refine k_get (v := .ref (g.2.1 42)) X Y fl_7_33 0 (Nat.le_of_ble_eq_true rfl) rfl rfl dX7_findKept_72 ?_
      refine lv_aload_n hx hb dX7_findKept_75 rfl (lv_at hl 0 rfl) ?_
      refine k_get (v := .ref (g.2.1 1)) X Y fl_7_10 0 (Nat.le_of_ble_eq_true rfl) rfl rfl dX7_findKept_76 ?_
      obtain ⟨v6, hc5, h⟩ := bnd1_s h
      refine k_cJ Y (k_runV (As := [.ref (g.2.1 1)]) (rest := []) (o := 42) X Y cl_7_146 (c_X6_mean l hc5 _) ⟨rfl, rfl, Nat.le_of_ble_eq_true rfl, Nat.le_of_ble_eq_true rfl⟩ (Nat.le_of_ble_eq_true rfl) rfl rfl hl.1 rfl (Nat.le_of_ble_eq_true rfl) dX7_findKept_79 ⟨Nat.zero_le _, Nat.zero_le _⟩) (fun H locs Y => ?_)
      refine lv_lstore_n (lv' := [(3, .long v6), (0, .ref (g.2.1 0)), (1, .int x1), (2, .int x2)]) hx hb dX7_findKept_82 rfl hl (by decide) rfl (fun ls hl => ?_)
      refine lv_aload_n hx hb dX7_findKept_83 rfl (lv_at hl 1 rfl) ?_
      refine k_get (v := .ref (g.2.1 61)) X Y fl_7_47 0 (Nat.le_of_ble_eq_true rfl) rfl rfl dX7_findKept_84 ?_
      refine lv_lload_n hx hb dX7_findKept_87 rfl (lv_at hl 0 rfl) ?_
      refine lv_aload_n hx hb dX7_findKept_88 rfl (lv_at hl 1 rfl) ?_
      refine k_get (v := .ref (g.2.1 59)) X Y fl_7_40 0 (Nat.le_of_ble_eq_true rfl) rfl rfl dX7_findKept_89 ?_
      refine k_get (v := .ref (g.2.1 60)) X Y fl_7_247 59 (Nat.le_of_ble_eq_true rfl) rfl rfl dX7_findKept_92 ?_
      obtain ⟨st8, hc7, h⟩ := bnd1_s h
      refine k_cV Y (k_runV (As := [.long v6, .ref (g.2.1 60)]) (rest := []) (o := 61) X Y cl_7_248 (c_X1_offer_61 l hc7 _) ⟨rfl, rfl, Nat.le_of_ble_eq_true rfl, Nat.le_of_ble_eq_true rfl⟩ (Nat.le_of_ble_eq_true rfl) rfl rfl hl.1 rfl (Nat.le_of_ble_eq_true rfl) dX7_findKept_95 ⟨Nat.zero_le _, Nat.zero_le _⟩) (fun H locs Y => ?_)
      refine lv_aload_n hx hb dX7_findKept_98 rfl (lv_at hl 1 rfl) ?_
      refine k_get (v := .ref (g.2.1 59)) X Y fl_7_40 0 (Nat.le_of_ble_eq_true rfl) rfl rfl dX7_findKept_99 ?_
      refine lv_aload_n hx hb dX7_findKept_102 rfl (lv_at hl 1 rfl) ?_
      refine k_get (v := .ref (g.2.1 1)) X Y fl_7_10 0 (Nat.le_of_ble_eq_true rfl) rfl rfl dX7_findKept_103 ?_
      refine k_get (v := .int (st8.1 1 1)) X Y fl_7_88 1 (Nat.le_of_ble_eq_true rfl) rfl rfl dX7_findKept_106 ?_
      obtain ⟨v10, hc9, h⟩ := bnd1_s h
      refine k_cI Y (k_runV (As := [.int (st8.1 1 1)]) (rest := []) (o := 59) X Y cl_7_252 (c_X0_marksDown l hc9 _) ⟨rfl, rfl, Nat.le_of_ble_eq_true rfl, Nat.le_of_ble_eq_true rfl⟩ (Nat.le_of_ble_eq_true rfl) rfl rfl hl.1 rfl (Nat.le_of_ble_eq_true rfl) dX7_findKept_109 ⟨Nat.zero_le _, Nat.zero_le _⟩) (fun H locs Y => ?_)
      refine lv_iconst (v := 1) hx hb dX7_findKept_112 (by decide) ?_
      refine lv_icmp_gt (tgt := 131) hx hb dX7_findKept_113 (by decide) (fun c11 => ?_) (fun c11 => ?_)
      · have h := ite_t h c11
        exact w_X7_findKept_131 X rc39 hrc39 h Y  (lv_sub hl [1, 3] rfl)
      · have h := ite_f h c11
        refine lv_aload_n hx hb dX7_findKept_116 rfl (lv_at hl 1 rfl) ?_
        refine k_get (v := .ref (g.2.1 63)) X Y fl_7_51 0 (Nat.le_of_ble_eq_true rfl) rfl rfl dX7_findKept_117 ?_
        refine lv_lload_n hx hb dX7_findKept_120 rfl (lv_at hl 0 rfl) ?_
        refine lv_aload_n hx hb dX7_findKept_121 rfl (lv_at hl 1 rfl) ?_
        refine k_get (v := .ref (g.2.1 59)) X Y fl_7_40 0 (Nat.le_of_ble_eq_true rfl) rfl rfl dX7_findKept_122 ?_
        refine k_get (v := .ref (g.2.1 60)) X Y fl_7_247 59 (Nat.le_of_ble_eq_true rfl) rfl rfl dX7_findKept_125 ?_
        obtain ⟨st13, hc12, h⟩ := bnd1_s h
        refine k_cV Y (k_runV (As := [.long v6, .ref (g.2.1 60)]) (rest := []) (o := 63) X Y cl_7_248 (c_X1_offer_63 l hc12 _) ⟨rfl, rfl, Nat.le_of_ble_eq_true rfl, Nat.le_of_ble_eq_true rfl⟩ (Nat.le_of_ble_eq_true rfl) rfl rfl hl.1 rfl (Nat.le_of_ble_eq_true rfl) dX7_findKept_128 ⟨Nat.zero_le _, Nat.zero_le _⟩) (fun H locs Y => ?_)
        exact w_X7_findKept_131 X rc39 hrc39 h Y  (lv_sub hl [1, 3] rfl)
theorem w_X7_findKept_39 (X : Cx g p s m args meth c cX7_findKept 5 RX7 none)   {st9 : Sg}   : ∀ (k : Nat) (x1 : Int32) (x2 : Int32) (st : Sg) (ls : Array Slot) (H : Heap) (locs : List Loc), X7_findKept_39 k x1 x2 st = some st9 → Hp g nwX (ceX g) A s.heap st H locs → lv_has ls 5 [(0, .ref (g.2.1 0)), (1, .int x1), (2, .int x2)] → W p l e rm_X7_findKept s m args below meth c H locs 0 0 (MQ below (QV g nwX (ceX g) A st9) args s 0 0 A) (F0 m 39 ls []) := by
  intro k
  induction k with
  | zero =>
    intro x1 x2 st ls H locs h
    exact none_s h
  | succ k ih =>
    intro x1 x2 st ls H locs h Y hl
    exact w_X7_findKept_39b X  (X7_findKept_39 k) ih h Y  hl
set_option maxHeartbeats 4000000 in
set_option maxRecDepth 100000 in
theorem w_X7_findKept (X : Cx g p s m args meth c cX7_findKept 5 RX7 none)  {st : Sg} {st9 : Sg}  (h : X7_findKept st = some st9) (Y : Hp g nwX (ceX g) A s.heap st H locs)  (hl : lv_has ls 5 [(0, .ref (g.2.1 0))]) : W p l e rm_X7_findKept s m args below meth c H locs 0 0 (MQ below (QV g nwX (ceX g) A st9) args s 0 0 A) (F0 m 0 ls []) := by
  have hx := X.1
  have hb := X.2.1
  unfold X7_findKept at h
  refine lv_aload_n hx hb dX7_findKept_0 rfl (lv_at hl 0 rfl) ?_
  refine k_get (v := .int (st.1 0 12)) X Y fl_7_75 0 (Nat.le_of_ble_eq_true rfl) rfl rfl dX7_findKept_1 ?_
  refine lv_aload_n hx hb dX7_findKept_4 rfl (lv_at hl 0 rfl) ?_
  refine k_get (v := .ref (g.2.1 1)) X Y fl_7_10 0 (Nat.le_of_ble_eq_true rfl) rfl rfl dX7_findKept_5 ?_
  refine k_get (v := .int (st.1 1 10)) X Y fl_7_94 1 (Nat.le_of_ble_eq_true rfl) rfl rfl dX7_findKept_8 ?_
  refine lv_icmp_ne (tgt := 15) hx hb dX7_findKept_11 (by decide) (fun c1 => ?_) (fun c1 => ?_)
  · have h := ite_f h c1
    refine lv_aload_n hx hb dX7_findKept_15 rfl (lv_at hl 0 rfl) ?_
    refine k_get (v := .ref (g.2.1 61)) X Y fl_7_47 0 (Nat.le_of_ble_eq_true rfl) rfl rfl dX7_findKept_16 ?_
    obtain ⟨st3, hc2, h⟩ := bnd1_s h
    refine k_cV Y (k_runV (As := []) (rest := []) (o := 61) X Y cl_7_241 (c_X1_clear_61 l hc2 _) ⟨rfl, rfl, Nat.le_of_ble_eq_true rfl, Nat.le_of_ble_eq_true rfl⟩ (Nat.le_of_ble_eq_true rfl) rfl rfl hl.1 rfl (Nat.le_of_ble_eq_true rfl) dX7_findKept_19 ⟨Nat.zero_le _, Nat.zero_le _⟩) (fun H locs Y => ?_)
    refine lv_aload_n hx hb dX7_findKept_22 rfl (lv_at hl 0 rfl) ?_
    refine k_get (v := .ref (g.2.1 63)) X Y fl_7_51 0 (Nat.le_of_ble_eq_true rfl) rfl rfl dX7_findKept_23 ?_
    obtain ⟨st5, hc4, h⟩ := bnd1_s h
    refine k_cV Y (k_runV (As := []) (rest := []) (o := 63) X Y cl_7_241 (c_X1_clear_63 l hc4 _) ⟨rfl, rfl, Nat.le_of_ble_eq_true rfl, Nat.le_of_ble_eq_true rfl⟩ (Nat.le_of_ble_eq_true rfl) rfl rfl hl.1 rfl (Nat.le_of_ble_eq_true rfl) dX7_findKept_26 ⟨Nat.zero_le _, Nat.zero_le _⟩) (fun H locs Y => ?_)
    refine lv_aload_n hx hb dX7_findKept_29 rfl (lv_at hl 0 rfl) ?_
    refine k_get (v := .ref (g.2.1 59)) X Y fl_7_40 0 (Nat.le_of_ble_eq_true rfl) rfl rfl dX7_findKept_30 ?_
    obtain ⟨v8, st7, hc6, h⟩ := bnd2_s h
    refine k_cI Y (k_runV (As := []) (rest := []) (o := 59) X Y cl_7_244 (c_X0_begin l hc6 _) ⟨rfl, rfl, Nat.le_of_ble_eq_true rfl, Nat.le_of_ble_eq_true rfl⟩ (Nat.le_of_ble_eq_true rfl) rfl rfl hl.1 rfl (Nat.le_of_ble_eq_true rfl) dX7_findKept_33 ⟨Nat.zero_le _, Nat.zero_le _⟩) (fun H locs Y => ?_)
    refine lv_istore_n (lv' := [(1, .int v8), (0, .ref (g.2.1 0))]) hx hb dX7_findKept_36 rfl hl (by decide) rfl (fun ls hl => ?_)
    refine lv_iconst (v := 0) hx hb dX7_findKept_37 (by decide) ?_
    refine lv_istore_n (lv' := [(2, .int 0), (1, .int v8), (0, .ref (g.2.1 0))]) hx hb dX7_findKept_38 rfl hl (by decide) rfl (fun ls hl => ?_)
    exact w_X7_findKept_39 X   FU v8 0 st7 _ _ _ h Y (lv_sub hl [2, 1, 0] rfl)
  · have h := ite_t h c1
    exact k_vretW X Y h dX7_findKept_14
theorem c_X7_findKept (l : Launch) {g : Gx}  {st : Sg} {st9 : Sg} (h : X7_findKept st = some st9) : MetV l yX7_findKept cX7_findKept 5 none rm_X7_findKept g nwX (ceX g) [.ref (g.2.1 0)] st st9 :=
  met_of (Qc := fun A => QV g nwX (ceX g) A st9) (by decide) (Nat.le_of_ble_eq_true rfl) (fun p e s m below meth c A ls X Y hl => w_X7_findKept X h Y hl)
def X3_dayPicked_65 (q : Nat) (rc10 : Int32 → Int32 → Int32 → Option Int32) (x1 : Int32) (x2 : Int32) (x4 : Int32) (x5 : Int32) (x6 : Int32) (st : Sg) : Option Int32 :=
  nm (x6 + 1) fun v1 =>
  rc10 x4 x5 v1
def X3_dayPicked_71 (q : Nat)  (x4 : Int32) (st : Sg) : Option Int32 :=
  some x4
def X3_dayPicked_10b (q : Nat) (rc10 : Int32 → Int32 → Int32 → Option Int32) (x1 : Int32) (x2 : Int32) (x4 : Int32) (x5 : Int32) (x6 : Int32) (st : Sg) : Option Int32 :=
  if (st.1 1 1) ≤ x6 then
    X3_dayPicked_71 q x4 st
  else
    bnd1 (X3_worthOn x1 x6 st) fun v3 =>
    cix x6 6 <|
    cix (st.1 q x6.toNatClampNeg) 5 <|
    cix x1 3 <|
    nm ((v3 - (st.1 2 (st.1 q x6.toNatClampNeg).toNatClampNeg)) - ((st.1 6 x1.toNatClampNeg) * (x6 - x2))) fun v7 =>
    if v7 ≤ x5 then
      X3_dayPicked_65 q rc10 x1 x2 x4 x5 x6 st
    else
      X3_dayPicked_65 q rc10 x1 x2 x6 v7 x6 st
def X3_dayPicked_10 (q : Nat)  (x1 : Int32) (x2 : Int32) (st : Sg) : Nat → Int32 → Int32 → Int32 → Option Int32
  | 0, _, _, _ => none
  | k + 1, x4, x5, x6 => X3_dayPicked_10b q  (X3_dayPicked_10 q x1 x2 st k) x1 x2 x4 x5 x6 st
def X3_dayPicked (q : Nat)  (x1 : Int32) (x2 : Int32) (st : Sg) : Option Int32 :=
  X3_dayPicked_10 q x1 x2 st FU (-6) (-1) x2
abbrev rm_X3_dayPicked : Room := { frames := 1, cells := 0, slots := 0, locals := 23 }
set_option maxHeartbeats 4000000 in
set_option maxRecDepth 100000 in
theorem w_X3_dayPicked_65_7 (X : Cx g p s m args meth c cX3_dayPicked 8 RX3 (some .int)) {x1 : Int32} {x2 : Int32} {x4 : Int32} {x5 : Int32} {x6 : Int32} {st : Sg} {r9 : Int32} (rc10 : Int32 → Int32 → Int32 → Option Int32) (hrc10 : ∀ (x4 : Int32) (x5 : Int32) (x6 : Int32) (ls : Array Slot) (H : Heap) (locs : List Loc), rc10 x4 x5 x6 = some r9 → Hp g nwX (ceX g) A s.heap st H locs → lv_has ls 8 [(0, .ref (g.2.1 1)), (1, .int x1), (2, .int x2), (3, .ref (g.2.1 7)), (4, .int x4), (5, .int x5), (6, .int x6)] → W p l e rm_X3_dayPicked s m args below meth c H locs 0 0 (MQ below (QI g nwX (ceX g) A r9 st) args s 0 0 A) (F0 m 10 ls [])) (h : X3_dayPicked_65 7 rc10 x1 x2 x4 x5 x6 st = some r9) (Y : Hp g nwX (ceX g) A s.heap st H locs)  (hl : lv_has ls 8 [(0, .ref (g.2.1 1)), (1, .int x1), (2, .int x2), (3, .ref (g.2.1 7)), (4, .int x4), (5, .int x5), (6, .int x6)]) : W p l e rm_X3_dayPicked s m args below meth c H locs 0 0 (MQ below (QI g nwX (ceX g) A r9 st) args s 0 0 A) (F0 m 65 ls []) := by
  have hx := X.1
  have hb := X.2.1
  unfold X3_dayPicked_65 at h
  obtain ⟨v1, ev1, h⟩ := nm_s h
  refine lv_iinc (v := v1) (lv' := [(6, .int v1), (0, .ref (g.2.1 1)), (1, .int x1), (2, .int x2), (3, .ref (g.2.1 7)), (4, .int x4), (5, .int x5)]) hx hb dX3_dayPicked_65 hl (k := 6) rfl (by rw [ev1]; rfl) (by decide) rfl (fun ls hl => ?_)
  refine lv_goto (tgt := 10) hx hb dX3_dayPicked_68 (by decide) ?_
  exact hrc10 x4 x5 v1 _ _ _ h Y (lv_sub hl [1, 2, 3, 4, 5, 6, 0] rfl)
set_option maxHeartbeats 4000000 in
set_option maxRecDepth 100000 in
theorem w_X3_dayPicked_71_7 (X : Cx g p s m args meth c cX3_dayPicked 8 RX3 (some .int)) {x4 : Int32} {st : Sg} {r9 : Int32}  (h : X3_dayPicked_71 7 x4 st = some r9) (Y : Hp g nwX (ceX g) A s.heap st H locs)  (hl : lv_has ls 8 [(4, .int x4)]) : W p l e rm_X3_dayPicked s m args below meth c H locs 0 0 (MQ below (QI g nwX (ceX g) A r9 st) args s 0 0 A) (F0 m 71 ls []) := by
  have hx := X.1
  have hb := X.2.1
  unfold X3_dayPicked_71 at h
  refine lv_iload hx hb dX3_dayPicked_71 (lv_at hl 0 rfl) ?_
  exact k_iretR X Y h dX3_dayPicked_73
set_option maxHeartbeats 4000000 in
set_option maxRecDepth 100000 in
theorem w_X3_dayPicked_10b_7 (X : Cx g p s m args meth c cX3_dayPicked 8 RX3 (some .int)) {x1 : Int32} {x2 : Int32} {x4 : Int32} {x5 : Int32} {x6 : Int32} {st : Sg} {r9 : Int32} (rc10 : Int32 → Int32 → Int32 → Option Int32) (hrc10 : ∀ (x4 : Int32) (x5 : Int32) (x6 : Int32) (ls : Array Slot) (H : Heap) (locs : List Loc), rc10 x4 x5 x6 = some r9 → Hp g nwX (ceX g) A s.heap st H locs → lv_has ls 8 [(0, .ref (g.2.1 1)), (1, .int x1), (2, .int x2), (3, .ref (g.2.1 7)), (4, .int x4), (5, .int x5), (6, .int x6)] → W p l e rm_X3_dayPicked s m args below meth c H locs 0 0 (MQ below (QI g nwX (ceX g) A r9 st) args s 0 0 A) (F0 m 10 ls [])) (h : X3_dayPicked_10b 7 rc10 x1 x2 x4 x5 x6 st = some r9) (Y : Hp g nwX (ceX g) A s.heap st H locs)  (hl : lv_has ls 8 [(0, .ref (g.2.1 1)), (1, .int x1), (2, .int x2), (3, .ref (g.2.1 7)), (4, .int x4), (5, .int x5), (6, .int x6)]) : W p l e rm_X3_dayPicked s m args below meth c H locs 0 0 (MQ below (QI g nwX (ceX g) A r9 st) args s 0 0 A) (F0 m 10 ls []) := by
  have hx := X.1
  have hb := X.2.1
  unfold X3_dayPicked_10b at h
  refine lv_iload hx hb dX3_dayPicked_10 (lv_at hl 6 rfl) ?_
  refine lv_aload_n hx hb dX3_dayPicked_12 rfl (lv_at hl 0 rfl) ?_
  refine k_get (v := .int (st.1 1 1)) X Y fl_3_15 1 (Nat.le_of_ble_eq_true rfl) rfl rfl dX3_dayPicked_13 ?_
  refine lv_icmp_ge (tgt := 71) hx hb dX3_dayPicked_16 (by decide) (fun c1 => ?_) (fun c1 => ?_)
  · have h := ite_t h c1
    exact w_X3_dayPicked_71_7 X  h Y  (lv_sub hl [4] rfl)
  · have h := ite_f h c1
    refine lv_aload_n hx hb dX3_dayPicked_19 rfl (lv_at hl 0 rfl) ?_
    refine lv_iload_n hx hb dX3_dayPicked_20 rfl (lv_at hl 1 rfl) ?_
    refine lv_iload hx hb dX3_dayPicked_21 (lv_at hl 6 rfl) ?_
    obtain ⟨v3, hc2, h⟩ := bnd1_s h
    refine k_cI Y (k_runV (As := [.int x1, .int x6]) (rest := []) (o := 1) X Y cl_3_50 (c_X3_worthOn l hc2 _) ⟨rfl, rfl, Nat.le_of_ble_eq_true rfl, Nat.le_of_ble_eq_true rfl⟩ (Nat.le_of_ble_eq_true rfl) rfl rfl hl.1 rfl (Nat.le_of_ble_eq_true rfl) dX3_dayPicked_23 ⟨Nat.zero_le _, Nat.zero_le _⟩) (fun H locs Y => ?_)
    refine lv_aload_n hx hb dX3_dayPicked_26 rfl (lv_at hl 0 rfl) ?_
    refine k_get (v := .ref (g.2.1 2)) X Y fl_3_21 1 (Nat.le_of_ble_eq_true rfl) rfl rfl dX3_dayPicked_27 ?_
    refine lv_aload_n hx hb dX3_dayPicked_30 rfl (lv_at hl 3 rfl) ?_
    refine lv_iload hx hb dX3_dayPicked_31 (lv_at hl 6 rfl) ?_
    obtain ⟨i4, h⟩ := cix_s h
    refine k_iald X Y 7 (Nat.le_of_ble_eq_true rfl) (fun _ _ => rfl) i4 dX3_dayPicked_33 ?_
    obtain ⟨i5, h⟩ := cix_s h
    refine k_iald X Y 2 (Nat.le_of_ble_eq_true rfl) (fun _ _ => rfl) i5 dX3_dayPicked_34 ?_
    refine lv_isub hx hb dX3_dayPicked_35 ?_
    refine lv_aload_n hx hb dX3_dayPicked_36 rfl (lv_at hl 0 rfl) ?_
    refine k_get (v := .ref (g.2.1 6)) X Y fl_3_37 1 (Nat.le_of_ble_eq_true rfl) rfl rfl dX3_dayPicked_37 ?_
    refine lv_iload_n hx hb dX3_dayPicked_40 rfl (lv_at hl 1 rfl) ?_
    obtain ⟨i6, h⟩ := cix_s h
    refine k_iald X Y 6 (Nat.le_of_ble_eq_true rfl) (fun _ _ => rfl) i6 dX3_dayPicked_41 ?_
    refine lv_iload hx hb dX3_dayPicked_42 (lv_at hl 6 rfl) ?_
    refine lv_iload_n hx hb dX3_dayPicked_44 rfl (lv_at hl 2 rfl) ?_
    refine lv_isub hx hb dX3_dayPicked_45 ?_
    refine lv_imul hx hb dX3_dayPicked_46 ?_
    refine lv_isub hx hb dX3_dayPicked_47 ?_
    obtain ⟨v7, ev7, h⟩ := nm_s h
    refine k_nmI ev7 ?_
    refine lv_istore (lv' := [(7, .int v7), (0, .ref (g.2.1 1)), (1, .int x1), (2, .int x2), (3, .ref (g.2.1 7)), (4, .int x4), (5, .int x5), (6, .int x6)]) hx hb dX3_dayPicked_48 hl (by decide) rfl (fun ls hl => ?_)
    refine lv_iload hx hb dX3_dayPicked_50 (lv_at hl 0 rfl) ?_
    refine lv_iload hx hb dX3_dayPicked_52 (lv_at hl 6 rfl) ?_
    refine lv_icmp_le (tgt := 65) hx hb dX3_dayPicked_54 (by decide) (fun c8 => ?_) (fun c8 => ?_)
    · have h := ite_t h c8
      exact w_X3_dayPicked_65_7 X rc10 hrc10 h Y  (lv_sub hl [1, 2, 3, 4, 5, 6, 7] rfl)
    · have h := ite_f h c8
      refine lv_iload hx hb dX3_dayPicked_57 (lv_at hl 0 rfl) ?_
      refine lv_istore (lv' := [(5, .int v7), (7, .int v7), (0, .ref (g.2.1 1)), (1, .int x1), (2, .int x2), (3, .ref (g.2.1 7)), (4, .int x4), (6, .int x6)]) hx hb dX3_dayPicked_59 hl (by decide) rfl (fun ls hl => ?_)
      refine lv_iload hx hb dX3_dayPicked_61 (lv_at hl 7 rfl) ?_
      refine lv_istore (lv' := [(4, .int x6), (5, .int v7), (7, .int v7), (0, .ref (g.2.1 1)), (1, .int x1), (2, .int x2), (3, .ref (g.2.1 7)), (6, .int x6)]) hx hb dX3_dayPicked_63 hl (by decide) rfl (fun ls hl => ?_)
      exact w_X3_dayPicked_65_7 X rc10 hrc10 h Y  (lv_sub hl [3, 4, 5, 6, 0, 1, 7] rfl)
theorem w_X3_dayPicked_10_7 (X : Cx g p s m args meth c cX3_dayPicked 8 RX3 (some .int)) {x1 : Int32} {x2 : Int32} {st : Sg} {r9 : Int32}   : ∀ (k : Nat) (x4 : Int32) (x5 : Int32) (x6 : Int32) (ls : Array Slot) (H : Heap) (locs : List Loc), X3_dayPicked_10 7 x1 x2 st k x4 x5 x6 = some r9 → Hp g nwX (ceX g) A s.heap st H locs → lv_has ls 8 [(0, .ref (g.2.1 1)), (1, .int x1), (2, .int x2), (3, .ref (g.2.1 7)), (4, .int x4), (5, .int x5), (6, .int x6)] → W p l e rm_X3_dayPicked s m args below meth c H locs 0 0 (MQ below (QI g nwX (ceX g) A r9 st) args s 0 0 A) (F0 m 10 ls []) := by
  intro k
  induction k with
  | zero =>
    intro x4 x5 x6 ls H locs h
    exact none_s h
  | succ k ih =>
    intro x4 x5 x6 ls H locs h Y hl
    exact w_X3_dayPicked_10b_7 X  (X3_dayPicked_10 7 x1 x2 st k) ih h Y  hl
set_option maxHeartbeats 4000000 in
set_option maxRecDepth 100000 in
theorem w_X3_dayPicked_7 (X : Cx g p s m args meth c cX3_dayPicked 8 RX3 (some .int)) {x1 : Int32} {x2 : Int32} {st : Sg} {r9 : Int32}  (h : X3_dayPicked 7 x1 x2 st = some r9) (Y : Hp g nwX (ceX g) A s.heap st H locs)  (hl : lv_has ls 8 [(0, .ref (g.2.1 1)), (1, .int x1), (2, .int x2), (3, .ref (g.2.1 7))]) : W p l e rm_X3_dayPicked s m args below meth c H locs 0 0 (MQ below (QI g nwX (ceX g) A r9 st) args s 0 0 A) (F0 m 0 ls []) := by
  have hx := X.1
  have hb := X.2.1
  unfold X3_dayPicked at h
  refine lv_bipush (v := (-6)) hx hb dX3_dayPicked_0 (by decide) ?_
  refine lv_istore (lv' := [(4, .int (-6)), (0, .ref (g.2.1 1)), (1, .int x1), (2, .int x2), (3, .ref (g.2.1 7))]) hx hb dX3_dayPicked_2 hl (by decide) rfl (fun ls hl => ?_)
  refine lv_iconst (v := (-1)) hx hb dX3_dayPicked_4 (by decide) ?_
  refine lv_istore (lv' := [(5, .int (-1)), (4, .int (-6)), (0, .ref (g.2.1 1)), (1, .int x1), (2, .int x2), (3, .ref (g.2.1 7))]) hx hb dX3_dayPicked_5 hl (by decide) rfl (fun ls hl => ?_)
  refine lv_iload_n hx hb dX3_dayPicked_7 rfl (lv_at hl 4 rfl) ?_
  refine lv_istore (lv' := [(6, .int x2), (5, .int (-1)), (4, .int (-6)), (0, .ref (g.2.1 1)), (1, .int x1), (2, .int x2), (3, .ref (g.2.1 7))]) hx hb dX3_dayPicked_8 hl (by decide) rfl (fun ls hl => ?_)
  exact w_X3_dayPicked_10_7 X   FU (-6) (-1) x2 _ _ _ h Y (lv_sub hl [3, 4, 5, 6, 2, 1, 0] rfl)
theorem c_X3_dayPicked_7 (l : Launch) {g : Gx} {x1 : Int32} {x2 : Int32} {st : Sg} {r9 : Int32} (h : X3_dayPicked 7 x1 x2 st = some r9) : MetI l yX3_dayPicked cX3_dayPicked 8 (some .int) rm_X3_dayPicked g nwX (ceX g) [.ref (g.2.1 1), .int x1, .int x2, .ref (g.2.1 7)] st r9 st :=
  met_of (Qc := fun A => QI g nwX (ceX g) A r9 st) (by decide) (Nat.le_of_ble_eq_true rfl) (fun p e s m below meth c A ls X Y hl => w_X3_dayPicked_7 X h Y hl)
set_option maxHeartbeats 4000000 in
set_option maxRecDepth 100000 in
theorem w_X3_dayPicked_65_60 (X : Cx g p s m args meth c cX3_dayPicked 8 RX3 (some .int)) {x1 : Int32} {x2 : Int32} {x4 : Int32} {x5 : Int32} {x6 : Int32} {st : Sg} {r9 : Int32} (rc10 : Int32 → Int32 → Int32 → Option Int32) (hrc10 : ∀ (x4 : Int32) (x5 : Int32) (x6 : Int32) (ls : Array Slot) (H : Heap) (locs : List Loc), rc10 x4 x5 x6 = some r9 → Hp g nwX (ceX g) A s.heap st H locs → lv_has ls 8 [(0, .ref (g.2.1 1)), (1, .int x1), (2, .int x2), (3, .ref (g.2.1 60)), (4, .int x4), (5, .int x5), (6, .int x6)] → W p l e rm_X3_dayPicked s m args below meth c H locs 0 0 (MQ below (QI g nwX (ceX g) A r9 st) args s 0 0 A) (F0 m 10 ls [])) (h : X3_dayPicked_65 60 rc10 x1 x2 x4 x5 x6 st = some r9) (Y : Hp g nwX (ceX g) A s.heap st H locs)  (hl : lv_has ls 8 [(0, .ref (g.2.1 1)), (1, .int x1), (2, .int x2), (3, .ref (g.2.1 60)), (4, .int x4), (5, .int x5), (6, .int x6)]) : W p l e rm_X3_dayPicked s m args below meth c H locs 0 0 (MQ below (QI g nwX (ceX g) A r9 st) args s 0 0 A) (F0 m 65 ls []) := by
  have hx := X.1
  have hb := X.2.1
  unfold X3_dayPicked_65 at h
  obtain ⟨v1, ev1, h⟩ := nm_s h
  refine lv_iinc (v := v1) (lv' := [(6, .int v1), (0, .ref (g.2.1 1)), (1, .int x1), (2, .int x2), (3, .ref (g.2.1 60)), (4, .int x4), (5, .int x5)]) hx hb dX3_dayPicked_65 hl (k := 6) rfl (by rw [ev1]; rfl) (by decide) rfl (fun ls hl => ?_)
  refine lv_goto (tgt := 10) hx hb dX3_dayPicked_68 (by decide) ?_
  exact hrc10 x4 x5 v1 _ _ _ h Y (lv_sub hl [1, 2, 3, 4, 5, 6, 0] rfl)
set_option maxHeartbeats 4000000 in
set_option maxRecDepth 100000 in
theorem w_X3_dayPicked_71_60 (X : Cx g p s m args meth c cX3_dayPicked 8 RX3 (some .int)) {x4 : Int32} {st : Sg} {r9 : Int32}  (h : X3_dayPicked_71 60 x4 st = some r9) (Y : Hp g nwX (ceX g) A s.heap st H locs)  (hl : lv_has ls 8 [(4, .int x4)]) : W p l e rm_X3_dayPicked s m args below meth c H locs 0 0 (MQ below (QI g nwX (ceX g) A r9 st) args s 0 0 A) (F0 m 71 ls []) := by
  have hx := X.1
  have hb := X.2.1
  unfold X3_dayPicked_71 at h
  refine lv_iload hx hb dX3_dayPicked_71 (lv_at hl 0 rfl) ?_
  exact k_iretR X Y h dX3_dayPicked_73
set_option maxHeartbeats 4000000 in
set_option maxRecDepth 100000 in
theorem w_X3_dayPicked_10b_60 (X : Cx g p s m args meth c cX3_dayPicked 8 RX3 (some .int)) {x1 : Int32} {x2 : Int32} {x4 : Int32} {x5 : Int32} {x6 : Int32} {st : Sg} {r9 : Int32} (rc10 : Int32 → Int32 → Int32 → Option Int32) (hrc10 : ∀ (x4 : Int32) (x5 : Int32) (x6 : Int32) (ls : Array Slot) (H : Heap) (locs : List Loc), rc10 x4 x5 x6 = some r9 → Hp g nwX (ceX g) A s.heap st H locs → lv_has ls 8 [(0, .ref (g.2.1 1)), (1, .int x1), (2, .int x2), (3, .ref (g.2.1 60)), (4, .int x4), (5, .int x5), (6, .int x6)] → W p l e rm_X3_dayPicked s m args below meth c H locs 0 0 (MQ below (QI g nwX (ceX g) A r9 st) args s 0 0 A) (F0 m 10 ls [])) (h : X3_dayPicked_10b 60 rc10 x1 x2 x4 x5 x6 st = some r9) (Y : Hp g nwX (ceX g) A s.heap st H locs)  (hl : lv_has ls 8 [(0, .ref (g.2.1 1)), (1, .int x1), (2, .int x2), (3, .ref (g.2.1 60)), (4, .int x4), (5, .int x5), (6, .int x6)]) : W p l e rm_X3_dayPicked s m args below meth c H locs 0 0 (MQ below (QI g nwX (ceX g) A r9 st) args s 0 0 A) (F0 m 10 ls []) := by
  have hx := X.1
  have hb := X.2.1
  unfold X3_dayPicked_10b at h
  refine lv_iload hx hb dX3_dayPicked_10 (lv_at hl 6 rfl) ?_
  refine lv_aload_n hx hb dX3_dayPicked_12 rfl (lv_at hl 0 rfl) ?_
  refine k_get (v := .int (st.1 1 1)) X Y fl_3_15 1 (Nat.le_of_ble_eq_true rfl) rfl rfl dX3_dayPicked_13 ?_
  refine lv_icmp_ge (tgt := 71) hx hb dX3_dayPicked_16 (by decide) (fun c1 => ?_) (fun c1 => ?_)
  · have h := ite_t h c1
    exact w_X3_dayPicked_71_60 X  h Y  (lv_sub hl [4] rfl)
  · have h := ite_f h c1
    refine lv_aload_n hx hb dX3_dayPicked_19 rfl (lv_at hl 0 rfl) ?_
    refine lv_iload_n hx hb dX3_dayPicked_20 rfl (lv_at hl 1 rfl) ?_
    refine lv_iload hx hb dX3_dayPicked_21 (lv_at hl 6 rfl) ?_
    obtain ⟨v3, hc2, h⟩ := bnd1_s h
    refine k_cI Y (k_runV (As := [.int x1, .int x6]) (rest := []) (o := 1) X Y cl_3_50 (c_X3_worthOn l hc2 _) ⟨rfl, rfl, Nat.le_of_ble_eq_true rfl, Nat.le_of_ble_eq_true rfl⟩ (Nat.le_of_ble_eq_true rfl) rfl rfl hl.1 rfl (Nat.le_of_ble_eq_true rfl) dX3_dayPicked_23 ⟨Nat.zero_le _, Nat.zero_le _⟩) (fun H locs Y => ?_)
    refine lv_aload_n hx hb dX3_dayPicked_26 rfl (lv_at hl 0 rfl) ?_
    refine k_get (v := .ref (g.2.1 2)) X Y fl_3_21 1 (Nat.le_of_ble_eq_true rfl) rfl rfl dX3_dayPicked_27 ?_
    refine lv_aload_n hx hb dX3_dayPicked_30 rfl (lv_at hl 3 rfl) ?_
    refine lv_iload hx hb dX3_dayPicked_31 (lv_at hl 6 rfl) ?_
    obtain ⟨i4, h⟩ := cix_s h
    refine k_iald X Y 60 (Nat.le_of_ble_eq_true rfl) (fun _ _ => rfl) i4 dX3_dayPicked_33 ?_
    obtain ⟨i5, h⟩ := cix_s h
    refine k_iald X Y 2 (Nat.le_of_ble_eq_true rfl) (fun _ _ => rfl) i5 dX3_dayPicked_34 ?_
    refine lv_isub hx hb dX3_dayPicked_35 ?_
    refine lv_aload_n hx hb dX3_dayPicked_36 rfl (lv_at hl 0 rfl) ?_
    refine k_get (v := .ref (g.2.1 6)) X Y fl_3_37 1 (Nat.le_of_ble_eq_true rfl) rfl rfl dX3_dayPicked_37 ?_
    refine lv_iload_n hx hb dX3_dayPicked_40 rfl (lv_at hl 1 rfl) ?_
    obtain ⟨i6, h⟩ := cix_s h
    refine k_iald X Y 6 (Nat.le_of_ble_eq_true rfl) (fun _ _ => rfl) i6 dX3_dayPicked_41 ?_
    refine lv_iload hx hb dX3_dayPicked_42 (lv_at hl 6 rfl) ?_
    refine lv_iload_n hx hb dX3_dayPicked_44 rfl (lv_at hl 2 rfl) ?_
    refine lv_isub hx hb dX3_dayPicked_45 ?_
    refine lv_imul hx hb dX3_dayPicked_46 ?_
    refine lv_isub hx hb dX3_dayPicked_47 ?_
    obtain ⟨v7, ev7, h⟩ := nm_s h
    refine k_nmI ev7 ?_
    refine lv_istore (lv' := [(7, .int v7), (0, .ref (g.2.1 1)), (1, .int x1), (2, .int x2), (3, .ref (g.2.1 60)), (4, .int x4), (5, .int x5), (6, .int x6)]) hx hb dX3_dayPicked_48 hl (by decide) rfl (fun ls hl => ?_)
    refine lv_iload hx hb dX3_dayPicked_50 (lv_at hl 0 rfl) ?_
    refine lv_iload hx hb dX3_dayPicked_52 (lv_at hl 6 rfl) ?_
    refine lv_icmp_le (tgt := 65) hx hb dX3_dayPicked_54 (by decide) (fun c8 => ?_) (fun c8 => ?_)
    · have h := ite_t h c8
      exact w_X3_dayPicked_65_60 X rc10 hrc10 h Y  (lv_sub hl [1, 2, 3, 4, 5, 6, 7] rfl)
    · have h := ite_f h c8
      refine lv_iload hx hb dX3_dayPicked_57 (lv_at hl 0 rfl) ?_
      refine lv_istore (lv' := [(5, .int v7), (7, .int v7), (0, .ref (g.2.1 1)), (1, .int x1), (2, .int x2), (3, .ref (g.2.1 60)), (4, .int x4), (6, .int x6)]) hx hb dX3_dayPicked_59 hl (by decide) rfl (fun ls hl => ?_)
      refine lv_iload hx hb dX3_dayPicked_61 (lv_at hl 7 rfl) ?_
      refine lv_istore (lv' := [(4, .int x6), (5, .int v7), (7, .int v7), (0, .ref (g.2.1 1)), (1, .int x1), (2, .int x2), (3, .ref (g.2.1 60)), (6, .int x6)]) hx hb dX3_dayPicked_63 hl (by decide) rfl (fun ls hl => ?_)
      exact w_X3_dayPicked_65_60 X rc10 hrc10 h Y  (lv_sub hl [3, 4, 5, 6, 0, 1, 7] rfl)
theorem w_X3_dayPicked_10_60 (X : Cx g p s m args meth c cX3_dayPicked 8 RX3 (some .int)) {x1 : Int32} {x2 : Int32} {st : Sg} {r9 : Int32}   : ∀ (k : Nat) (x4 : Int32) (x5 : Int32) (x6 : Int32) (ls : Array Slot) (H : Heap) (locs : List Loc), X3_dayPicked_10 60 x1 x2 st k x4 x5 x6 = some r9 → Hp g nwX (ceX g) A s.heap st H locs → lv_has ls 8 [(0, .ref (g.2.1 1)), (1, .int x1), (2, .int x2), (3, .ref (g.2.1 60)), (4, .int x4), (5, .int x5), (6, .int x6)] → W p l e rm_X3_dayPicked s m args below meth c H locs 0 0 (MQ below (QI g nwX (ceX g) A r9 st) args s 0 0 A) (F0 m 10 ls []) := by
  intro k
  induction k with
  | zero =>
    intro x4 x5 x6 ls H locs h
    exact none_s h
  | succ k ih =>
    intro x4 x5 x6 ls H locs h Y hl
    exact w_X3_dayPicked_10b_60 X  (X3_dayPicked_10 60 x1 x2 st k) ih h Y  hl
set_option maxHeartbeats 4000000 in
set_option maxRecDepth 100000 in
theorem w_X3_dayPicked_60 (X : Cx g p s m args meth c cX3_dayPicked 8 RX3 (some .int)) {x1 : Int32} {x2 : Int32} {st : Sg} {r9 : Int32}  (h : X3_dayPicked 60 x1 x2 st = some r9) (Y : Hp g nwX (ceX g) A s.heap st H locs)  (hl : lv_has ls 8 [(0, .ref (g.2.1 1)), (1, .int x1), (2, .int x2), (3, .ref (g.2.1 60))]) : W p l e rm_X3_dayPicked s m args below meth c H locs 0 0 (MQ below (QI g nwX (ceX g) A r9 st) args s 0 0 A) (F0 m 0 ls []) := by
  have hx := X.1
  have hb := X.2.1
  unfold X3_dayPicked at h
  refine lv_bipush (v := (-6)) hx hb dX3_dayPicked_0 (by decide) ?_
  refine lv_istore (lv' := [(4, .int (-6)), (0, .ref (g.2.1 1)), (1, .int x1), (2, .int x2), (3, .ref (g.2.1 60))]) hx hb dX3_dayPicked_2 hl (by decide) rfl (fun ls hl => ?_)
  refine lv_iconst (v := (-1)) hx hb dX3_dayPicked_4 (by decide) ?_
  refine lv_istore (lv' := [(5, .int (-1)), (4, .int (-6)), (0, .ref (g.2.1 1)), (1, .int x1), (2, .int x2), (3, .ref (g.2.1 60))]) hx hb dX3_dayPicked_5 hl (by decide) rfl (fun ls hl => ?_)
  refine lv_iload_n hx hb dX3_dayPicked_7 rfl (lv_at hl 4 rfl) ?_
  refine lv_istore (lv' := [(6, .int x2), (5, .int (-1)), (4, .int (-6)), (0, .ref (g.2.1 1)), (1, .int x1), (2, .int x2), (3, .ref (g.2.1 60))]) hx hb dX3_dayPicked_8 hl (by decide) rfl (fun ls hl => ?_)
  exact w_X3_dayPicked_10_60 X   FU (-6) (-1) x2 _ _ _ h Y (lv_sub hl [3, 4, 5, 6, 2, 1, 0] rfl)
theorem c_X3_dayPicked_60 (l : Launch) {g : Gx} {x1 : Int32} {x2 : Int32} {st : Sg} {r9 : Int32} (h : X3_dayPicked 60 x1 x2 st = some r9) : MetI l yX3_dayPicked cX3_dayPicked 8 (some .int) rm_X3_dayPicked g nwX (ceX g) [.ref (g.2.1 1), .int x1, .int x2, .ref (g.2.1 60)] st r9 st :=
  met_of (Qc := fun A => QI g nwX (ceX g) A r9 st) (by decide) (Nat.le_of_ble_eq_true rfl) (fun p e s m below meth c A ls X Y hl => w_X3_dayPicked_60 X h Y hl)
def X6_pickAll_51 (q : Nat) (rc2 : Int32 → Sg → Option Sg) (rc13 : Int32 → Sg → Option Sg) (kd0 : Int32) (k1 : Int32) (k2 : Int32) (x3 : Int32) (x4 : Int32) (st : Sg) : Option Sg :=
  cix k1 3 <|
  nm (sI st (53 + (kd0).toNatClampNeg) k1.toNatClampNeg k2) fun st2 =>
  nm (x4 + 1) fun v3 =>
  rc13 v3 st2
def X6_pickAll_58 (q : Nat) (rc2 : Int32 → Sg → Option Sg) (x3 : Int32) (st : Sg) : Option Sg :=
  nm (x3 + 1) fun v1 =>
  rc2 v1 st
def X6_pickAll_13b (q : Nat) (rc2 : Int32 → Sg → Option Sg) (rc13 : Int32 → Sg → Option Sg) (x3 : Int32) (x4 : Int32) (st : Sg) : Option Sg :=
  if (st.1 1 9) ≤ x4 then
    X6_pickAll_58 q rc2 x3 st
  else
    cix x3 6 <|
    bnd1 (X3_isWaiting x4 st) fun v4 =>
    if v4 = (0 : Int32) then
      X6_pickAll_51 q rc2 rc13 x3 x4 x3 x3 x4 st
    else
      bnd1 (X3_dayPicked q x4 x3 st) fun v7 =>
      X6_pickAll_51 q rc2 rc13 x3 x4 v7 x3 x4 st
def X6_pickAll_13 (q : Nat) (rc2 : Int32 → Sg → Option Sg) (x3 : Int32) : Nat → Int32 → Sg → Option Sg
  | 0, _, _ => none
  | k + 1, x4, st => X6_pickAll_13b q rc2 (X6_pickAll_13 q rc2 x3 k) x3 x4 st
def X6_pickAll_64 (q : Nat)   (st : Sg) : Option Sg :=
  some st
def X6_pickAll_2b (q : Nat) (rc2 : Int32 → Sg → Option Sg) (x3 : Int32) (st : Sg) : Option Sg :=
  if (st.1 1 1) ≤ x3 then
    X6_pickAll_64 q st
  else
    X6_pickAll_13 q rc2 x3 FU 0 st
def X6_pickAll_2 (q : Nat)   : Nat → Int32 → Sg → Option Sg
  | 0, _, _ => none
  | k + 1, x3, st => X6_pickAll_2b q  (X6_pickAll_2 q k) x3 st
def X6_pickAll (q : Nat)   (st : Sg) : Option Sg :=
  X6_pickAll_2 q FU 0 st
abbrev rm_X6_pickAll : Room := { frames := 2, cells := 0, slots := 0, locals := 50 }
set_option maxHeartbeats 4000000 in
set_option maxRecDepth 100000 in
theorem w_X6_pickAll_51_7 (X : Cx g p s m args meth c cX6_pickAll 5 RX6 none) {kd0 : Int32} {k1 : Int32} {k2 : Int32} {x3 : Int32} {x4 : Int32} {st : Sg} {st9 : Sg} (rc2 : Int32 → Sg → Option Sg) (hrc2 : ∀ (x3 : Int32) (st : Sg) (ls : Array Slot) (H : Heap) (locs : List Loc), rc2 x3 st = some st9 → Hp g nwX (ceX g) A s.heap st H locs → lv_has ls 5 [(0, .ref (g.2.1 42)), (1, .ref (g.2.1 1)), (2, .ref (g.2.1 7)), (3, .int x3)] → W p l e rm_X6_pickAll s m args below meth c H locs 0 0 (MQ below (QV g nwX (ceX g) A st9) args s 0 0 A) (F0 m 2 ls [])) (rc13 : Int32 → Sg → Option Sg) (hrc13 : ∀ (x4 : Int32) (st : Sg) (ls : Array Slot) (H : Heap) (locs : List Loc), rc13 x4 st = some st9 → Hp g nwX (ceX g) A s.heap st H locs → lv_has ls 5 [(0, .ref (g.2.1 42)), (1, .ref (g.2.1 1)), (2, .ref (g.2.1 7)), (3, .int x3), (4, .int x4)] → W p l e rm_X6_pickAll s m args below meth c H locs 0 0 (MQ below (QV g nwX (ceX g) A st9) args s 0 0 A) (F0 m 13 ls [])) (h : X6_pickAll_51 7 rc2 rc13 kd0 k1 k2 x3 x4 st = some st9) (Y : Hp g nwX (ceX g) A s.heap st H locs) (kh0 : vp_in kd0 6) (hl : lv_has ls 5 [(0, .ref (g.2.1 42)), (1, .ref (g.2.1 1)), (2, .ref (g.2.1 7)), (3, .int x3), (4, .int x4)]) : W p l e rm_X6_pickAll s m args below meth c H locs 0 0 (MQ below (QV g nwX (ceX g) A st9) args s 0 0 A) (F0 m 51 ls [.int k2, .int k1, .ref (g.2.1 (53 + (kd0).toNatClampNeg))]) := by
  have hx := X.1
  have hb := X.2.1
  unfold X6_pickAll_51 at h
  obtain ⟨i1, h⟩ := cix_s h
  refine k_iast X Y (53 + (kd0).toNatClampNeg) (row_lt kh0 (Nat.le_of_ble_eq_true rfl)) (rowX_53 _ (vp_lt kh0)) i1 dX6_pickAll_51 (fun H locs Y => ?_)
  obtain ⟨st2, est2, h⟩ := nm_s h
  have Y : Hp g nwX (ceX g) A s.heap st2 H locs := by rw [est2]; exact Y
  obtain ⟨v3, ev3, h⟩ := nm_s h
  refine lv_iinc (v := v3) (lv' := [(4, .int v3), (0, .ref (g.2.1 42)), (1, .ref (g.2.1 1)), (2, .ref (g.2.1 7)), (3, .int x3)]) hx hb dX6_pickAll_52 hl (k := 4) rfl (by rw [ev3]; rfl) (by decide) rfl (fun ls hl => ?_)
  refine lv_goto (tgt := 13) hx hb dX6_pickAll_55 (by decide) ?_
  exact hrc13 v3 st2 _ _ _ h Y (lv_sub hl [1, 2, 3, 4, 0] rfl)
set_option maxHeartbeats 4000000 in
set_option maxRecDepth 100000 in
theorem w_X6_pickAll_58_7 (X : Cx g p s m args meth c cX6_pickAll 5 RX6 none) {x3 : Int32} {st : Sg} {st9 : Sg} (rc2 : Int32 → Sg → Option Sg) (hrc2 : ∀ (x3 : Int32) (st : Sg) (ls : Array Slot) (H : Heap) (locs : List Loc), rc2 x3 st = some st9 → Hp g nwX (ceX g) A s.heap st H locs → lv_has ls 5 [(0, .ref (g.2.1 42)), (1, .ref (g.2.1 1)), (2, .ref (g.2.1 7)), (3, .int x3)] → W p l e rm_X6_pickAll s m args below meth c H locs 0 0 (MQ below (QV g nwX (ceX g) A st9) args s 0 0 A) (F0 m 2 ls [])) (h : X6_pickAll_58 7 rc2 x3 st = some st9) (Y : Hp g nwX (ceX g) A s.heap st H locs)  (hl : lv_has ls 5 [(0, .ref (g.2.1 42)), (1, .ref (g.2.1 1)), (2, .ref (g.2.1 7)), (3, .int x3)]) : W p l e rm_X6_pickAll s m args below meth c H locs 0 0 (MQ below (QV g nwX (ceX g) A st9) args s 0 0 A) (F0 m 58 ls []) := by
  have hx := X.1
  have hb := X.2.1
  unfold X6_pickAll_58 at h
  obtain ⟨v1, ev1, h⟩ := nm_s h
  refine lv_iinc (v := v1) (lv' := [(3, .int v1), (0, .ref (g.2.1 42)), (1, .ref (g.2.1 1)), (2, .ref (g.2.1 7))]) hx hb dX6_pickAll_58 hl (k := 3) rfl (by rw [ev1]; rfl) (by decide) rfl (fun ls hl => ?_)
  refine lv_goto (tgt := 2) hx hb dX6_pickAll_61 (by decide) ?_
  exact hrc2 v1 st _ _ _ h Y (lv_sub hl [1, 2, 3, 0] rfl)
set_option maxHeartbeats 4000000 in
set_option maxRecDepth 100000 in
theorem w_X6_pickAll_13b_7 (X : Cx g p s m args meth c cX6_pickAll 5 RX6 none) {x3 : Int32} {x4 : Int32} {st : Sg} {st9 : Sg} (rc2 : Int32 → Sg → Option Sg) (hrc2 : ∀ (x3 : Int32) (st : Sg) (ls : Array Slot) (H : Heap) (locs : List Loc), rc2 x3 st = some st9 → Hp g nwX (ceX g) A s.heap st H locs → lv_has ls 5 [(0, .ref (g.2.1 42)), (1, .ref (g.2.1 1)), (2, .ref (g.2.1 7)), (3, .int x3)] → W p l e rm_X6_pickAll s m args below meth c H locs 0 0 (MQ below (QV g nwX (ceX g) A st9) args s 0 0 A) (F0 m 2 ls [])) (rc13 : Int32 → Sg → Option Sg) (hrc13 : ∀ (x4 : Int32) (st : Sg) (ls : Array Slot) (H : Heap) (locs : List Loc), rc13 x4 st = some st9 → Hp g nwX (ceX g) A s.heap st H locs → lv_has ls 5 [(0, .ref (g.2.1 42)), (1, .ref (g.2.1 1)), (2, .ref (g.2.1 7)), (3, .int x3), (4, .int x4)] → W p l e rm_X6_pickAll s m args below meth c H locs 0 0 (MQ below (QV g nwX (ceX g) A st9) args s 0 0 A) (F0 m 13 ls [])) (h : X6_pickAll_13b 7 rc2 rc13 x3 x4 st = some st9) (Y : Hp g nwX (ceX g) A s.heap st H locs)  (hl : lv_has ls 5 [(0, .ref (g.2.1 42)), (1, .ref (g.2.1 1)), (2, .ref (g.2.1 7)), (3, .int x3), (4, .int x4)]) : W p l e rm_X6_pickAll s m args below meth c H locs 0 0 (MQ below (QV g nwX (ceX g) A st9) args s 0 0 A) (F0 m 13 ls []) := by
  have hx := X.1
  have hb := X.2.1
  unfold X6_pickAll_13b at h
  refine lv_iload hx hb dX6_pickAll_13 (lv_at hl 4 rfl) ?_
  refine lv_aload_n hx hb dX6_pickAll_15 rfl (lv_at hl 1 rfl) ?_
  refine k_get (v := .int (st.1 1 9)) X Y fl_6_39 1 (Nat.le_of_ble_eq_true rfl) rfl rfl dX6_pickAll_16 ?_
  refine lv_icmp_ge (tgt := 58) hx hb dX6_pickAll_19 (by decide) (fun c1 => ?_) (fun c1 => ?_)
  · have h := ite_t h c1
    exact w_X6_pickAll_58_7 X rc2 hrc2 h Y  (lv_sub hl [0, 1, 2, 3] rfl)
  · have h := ite_f h c1
    refine lv_aload_n hx hb dX6_pickAll_22 rfl (lv_at hl 0 rfl) ?_
    refine k_get (v := .ref (g.2.1 52)) X Y fl_6_22 42 (Nat.le_of_ble_eq_true rfl) rfl rfl dX6_pickAll_23 ?_
    refine lv_iload_n hx hb dX6_pickAll_26 rfl (lv_at hl 3 rfl) ?_
    obtain ⟨i2, h⟩ := cix_s h
    refine k_aaldI (b := 53) X Y 52 (Nat.le_of_ble_eq_true rfl) (fun _ _ => rfl) i2 dX6_pickAll_27 ?_
    refine lv_iload hx hb dX6_pickAll_28 (lv_at hl 4 rfl) ?_
    refine lv_aload_n hx hb dX6_pickAll_30 rfl (lv_at hl 1 rfl) ?_
    refine lv_iload hx hb dX6_pickAll_31 (lv_at hl 4 rfl) ?_
    obtain ⟨v4, hc3, h⟩ := bnd1_s h
    refine k_cI Y (k_runV (As := [.int x4]) (rest := [.int x4, .ref (g.2.1 (53 + (x3).toNatClampNeg))]) (o := 1) X Y cl_6_74 (c_X3_isWaiting l hc3 _) ⟨rfl, rfl, Nat.le_of_ble_eq_true rfl, Nat.le_of_ble_eq_true rfl⟩ (Nat.le_of_ble_eq_true rfl) rfl rfl hl.1 rfl (Nat.le_of_ble_eq_true rfl) dX6_pickAll_33 ⟨Nat.zero_le _, Nat.zero_le _⟩) (fun H locs Y => ?_)
    refine lv_if_eq (tgt := 50) hx hb dX6_pickAll_36 (by decide) (fun c5 => ?_) (fun c5 => ?_)
    · have h := ite_t h c5
      refine lv_iload_n hx hb dX6_pickAll_50 rfl (lv_at hl 3 rfl) ?_
      exact w_X6_pickAll_51_7 X rc2 hrc2 rc13 hrc13 h Y i2 (lv_sub hl [0, 1, 2, 3, 4] rfl)
    · have h := ite_f h c5
      refine lv_aload_n hx hb dX6_pickAll_39 rfl (lv_at hl 1 rfl) ?_
      refine lv_iload hx hb dX6_pickAll_40 (lv_at hl 4 rfl) ?_
      refine lv_iload_n hx hb dX6_pickAll_42 rfl (lv_at hl 3 rfl) ?_
      refine lv_aload_n hx hb dX6_pickAll_43 rfl (lv_at hl 2 rfl) ?_
      obtain ⟨v7, hc6, h⟩ := bnd1_s h
      refine k_cI Y (k_runV (As := [.int x4, .int x3, .ref (g.2.1 7)]) (rest := [.int x4, .ref (g.2.1 (53 + (x3).toNatClampNeg))]) (o := 1) X Y cl_6_78 (c_X3_dayPicked_7 l hc6 _) ⟨rfl, rfl, Nat.le_of_ble_eq_true rfl, Nat.le_of_ble_eq_true rfl⟩ (Nat.le_of_ble_eq_true rfl) rfl rfl hl.1 rfl (Nat.le_of_ble_eq_true rfl) dX6_pickAll_44 ⟨Nat.zero_le _, Nat.zero_le _⟩) (fun H locs Y => ?_)
      refine lv_goto (tgt := 51) hx hb dX6_pickAll_47 (by decide) ?_
      exact w_X6_pickAll_51_7 X rc2 hrc2 rc13 hrc13 h Y i2 (lv_sub hl [0, 1, 2, 3, 4] rfl)
theorem w_X6_pickAll_13_7 (X : Cx g p s m args meth c cX6_pickAll 5 RX6 none) {x3 : Int32}  {st9 : Sg} (rc2 : Int32 → Sg → Option Sg) (hrc2 : ∀ (x3 : Int32) (st : Sg) (ls : Array Slot) (H : Heap) (locs : List Loc), rc2 x3 st = some st9 → Hp g nwX (ceX g) A s.heap st H locs → lv_has ls 5 [(0, .ref (g.2.1 42)), (1, .ref (g.2.1 1)), (2, .ref (g.2.1 7)), (3, .int x3)] → W p l e rm_X6_pickAll s m args below meth c H locs 0 0 (MQ below (QV g nwX (ceX g) A st9) args s 0 0 A) (F0 m 2 ls []))  : ∀ (k : Nat) (x4 : Int32) (st : Sg) (ls : Array Slot) (H : Heap) (locs : List Loc), X6_pickAll_13 7 rc2 x3 k x4 st = some st9 → Hp g nwX (ceX g) A s.heap st H locs → lv_has ls 5 [(0, .ref (g.2.1 42)), (1, .ref (g.2.1 1)), (2, .ref (g.2.1 7)), (3, .int x3), (4, .int x4)] → W p l e rm_X6_pickAll s m args below meth c H locs 0 0 (MQ below (QV g nwX (ceX g) A st9) args s 0 0 A) (F0 m 13 ls []) := by
  intro k
  induction k with
  | zero =>
    intro x4 st ls H locs h
    exact none_s h
  | succ k ih =>
    intro x4 st ls H locs h Y hl
    exact w_X6_pickAll_13b_7 X rc2 hrc2 (X6_pickAll_13 7 rc2 x3 k) ih h Y  hl
set_option maxHeartbeats 4000000 in
set_option maxRecDepth 100000 in
theorem w_X6_pickAll_64_7 (X : Cx g p s m args meth c cX6_pickAll 5 RX6 none)  {st : Sg} {st9 : Sg}  (h : X6_pickAll_64 7 st = some st9) (Y : Hp g nwX (ceX g) A s.heap st H locs)  (hl : lv_has ls 5 []) : W p l e rm_X6_pickAll s m args below meth c H locs 0 0 (MQ below (QV g nwX (ceX g) A st9) args s 0 0 A) (F0 m 64 ls []) := by
  have hx := X.1
  have hb := X.2.1
  unfold X6_pickAll_64 at h
  exact k_vretW X Y h dX6_pickAll_64
set_option maxHeartbeats 4000000 in
set_option maxRecDepth 100000 in
theorem w_X6_pickAll_2b_7 (X : Cx g p s m args meth c cX6_pickAll 5 RX6 none) {x3 : Int32} {st : Sg} {st9 : Sg} (rc2 : Int32 → Sg → Option Sg) (hrc2 : ∀ (x3 : Int32) (st : Sg) (ls : Array Slot) (H : Heap) (locs : List Loc), rc2 x3 st = some st9 → Hp g nwX (ceX g) A s.heap st H locs → lv_has ls 5 [(0, .ref (g.2.1 42)), (1, .ref (g.2.1 1)), (2, .ref (g.2.1 7)), (3, .int x3)] → W p l e rm_X6_pickAll s m args below meth c H locs 0 0 (MQ below (QV g nwX (ceX g) A st9) args s 0 0 A) (F0 m 2 ls [])) (h : X6_pickAll_2b 7 rc2 x3 st = some st9) (Y : Hp g nwX (ceX g) A s.heap st H locs)  (hl : lv_has ls 5 [(0, .ref (g.2.1 42)), (1, .ref (g.2.1 1)), (2, .ref (g.2.1 7)), (3, .int x3)]) : W p l e rm_X6_pickAll s m args below meth c H locs 0 0 (MQ below (QV g nwX (ceX g) A st9) args s 0 0 A) (F0 m 2 ls []) := by
  have hx := X.1
  have hb := X.2.1
  unfold X6_pickAll_2b at h
  refine lv_iload_n hx hb dX6_pickAll_2 rfl (lv_at hl 3 rfl) ?_
  refine lv_aload_n hx hb dX6_pickAll_3 rfl (lv_at hl 1 rfl) ?_
  refine k_get (v := .int (st.1 1 1)) X Y fl_6_29 1 (Nat.le_of_ble_eq_true rfl) rfl rfl dX6_pickAll_4 ?_
  refine lv_icmp_ge (tgt := 64) hx hb dX6_pickAll_7 (by decide) (fun c1 => ?_) (fun c1 => ?_)
  · have h := ite_t h c1
    exact w_X6_pickAll_64_7 X  h Y  (lv_sub hl [] rfl)
  · have h := ite_f h c1
    refine lv_iconst (v := 0) hx hb dX6_pickAll_10 (by decide) ?_
    refine lv_istore (lv' := [(4, .int 0), (0, .ref (g.2.1 42)), (1, .ref (g.2.1 1)), (2, .ref (g.2.1 7)), (3, .int x3)]) hx hb dX6_pickAll_11 hl (by decide) rfl (fun ls hl => ?_)
    exact w_X6_pickAll_13_7 X rc2 hrc2  FU 0 st _ _ _ h Y (lv_sub hl [1, 2, 3, 4, 0] rfl)
theorem w_X6_pickAll_2_7 (X : Cx g p s m args meth c cX6_pickAll 5 RX6 none)   {st9 : Sg}   : ∀ (k : Nat) (x3 : Int32) (st : Sg) (ls : Array Slot) (H : Heap) (locs : List Loc), X6_pickAll_2 7 k x3 st = some st9 → Hp g nwX (ceX g) A s.heap st H locs → lv_has ls 5 [(0, .ref (g.2.1 42)), (1, .ref (g.2.1 1)), (2, .ref (g.2.1 7)), (3, .int x3)] → W p l e rm_X6_pickAll s m args below meth c H locs 0 0 (MQ below (QV g nwX (ceX g) A st9) args s 0 0 A) (F0 m 2 ls []) := by
  intro k
  induction k with
  | zero =>
    intro x3 st ls H locs h
    exact none_s h
  | succ k ih =>
    intro x3 st ls H locs h Y hl
    exact w_X6_pickAll_2b_7 X  (X6_pickAll_2 7 k) ih h Y  hl
set_option maxHeartbeats 4000000 in
set_option maxRecDepth 100000 in
theorem w_X6_pickAll_7 (X : Cx g p s m args meth c cX6_pickAll 5 RX6 none)  {st : Sg} {st9 : Sg}  (h : X6_pickAll 7 st = some st9) (Y : Hp g nwX (ceX g) A s.heap st H locs)  (hl : lv_has ls 5 [(0, .ref (g.2.1 42)), (1, .ref (g.2.1 1)), (2, .ref (g.2.1 7))]) : W p l e rm_X6_pickAll s m args below meth c H locs 0 0 (MQ below (QV g nwX (ceX g) A st9) args s 0 0 A) (F0 m 0 ls []) := by
  have hx := X.1
  have hb := X.2.1
  unfold X6_pickAll at h
  refine lv_iconst (v := 0) hx hb dX6_pickAll_0 (by decide) ?_
  refine lv_istore_n (lv' := [(3, .int 0), (0, .ref (g.2.1 42)), (1, .ref (g.2.1 1)), (2, .ref (g.2.1 7))]) hx hb dX6_pickAll_1 rfl hl (by decide) rfl (fun ls hl => ?_)
  exact w_X6_pickAll_2_7 X   FU 0 st _ _ _ h Y (lv_sub hl [1, 2, 3, 0] rfl)
theorem c_X6_pickAll_7 (l : Launch) {g : Gx}  {st : Sg} {st9 : Sg} (h : X6_pickAll 7 st = some st9) : MetV l yX6_pickAll cX6_pickAll 5 none rm_X6_pickAll g nwX (ceX g) [.ref (g.2.1 42), .ref (g.2.1 1), .ref (g.2.1 7)] st st9 :=
  met_of (Qc := fun A => QV g nwX (ceX g) A st9) (by decide) (Nat.le_of_ble_eq_true rfl) (fun p e s m below meth c A ls X Y hl => w_X6_pickAll_7 X h Y hl)
set_option maxHeartbeats 4000000 in
set_option maxRecDepth 100000 in
theorem w_X6_pickAll_51_60 (X : Cx g p s m args meth c cX6_pickAll 5 RX6 none) {kd0 : Int32} {k1 : Int32} {k2 : Int32} {x3 : Int32} {x4 : Int32} {st : Sg} {st9 : Sg} (rc2 : Int32 → Sg → Option Sg) (hrc2 : ∀ (x3 : Int32) (st : Sg) (ls : Array Slot) (H : Heap) (locs : List Loc), rc2 x3 st = some st9 → Hp g nwX (ceX g) A s.heap st H locs → lv_has ls 5 [(0, .ref (g.2.1 42)), (1, .ref (g.2.1 1)), (2, .ref (g.2.1 60)), (3, .int x3)] → W p l e rm_X6_pickAll s m args below meth c H locs 0 0 (MQ below (QV g nwX (ceX g) A st9) args s 0 0 A) (F0 m 2 ls [])) (rc13 : Int32 → Sg → Option Sg) (hrc13 : ∀ (x4 : Int32) (st : Sg) (ls : Array Slot) (H : Heap) (locs : List Loc), rc13 x4 st = some st9 → Hp g nwX (ceX g) A s.heap st H locs → lv_has ls 5 [(0, .ref (g.2.1 42)), (1, .ref (g.2.1 1)), (2, .ref (g.2.1 60)), (3, .int x3), (4, .int x4)] → W p l e rm_X6_pickAll s m args below meth c H locs 0 0 (MQ below (QV g nwX (ceX g) A st9) args s 0 0 A) (F0 m 13 ls [])) (h : X6_pickAll_51 60 rc2 rc13 kd0 k1 k2 x3 x4 st = some st9) (Y : Hp g nwX (ceX g) A s.heap st H locs) (kh0 : vp_in kd0 6) (hl : lv_has ls 5 [(0, .ref (g.2.1 42)), (1, .ref (g.2.1 1)), (2, .ref (g.2.1 60)), (3, .int x3), (4, .int x4)]) : W p l e rm_X6_pickAll s m args below meth c H locs 0 0 (MQ below (QV g nwX (ceX g) A st9) args s 0 0 A) (F0 m 51 ls [.int k2, .int k1, .ref (g.2.1 (53 + (kd0).toNatClampNeg))]) := by
  have hx := X.1
  have hb := X.2.1
  unfold X6_pickAll_51 at h
  obtain ⟨i1, h⟩ := cix_s h
  refine k_iast X Y (53 + (kd0).toNatClampNeg) (row_lt kh0 (Nat.le_of_ble_eq_true rfl)) (rowX_53 _ (vp_lt kh0)) i1 dX6_pickAll_51 (fun H locs Y => ?_)
  obtain ⟨st2, est2, h⟩ := nm_s h
  have Y : Hp g nwX (ceX g) A s.heap st2 H locs := by rw [est2]; exact Y
  obtain ⟨v3, ev3, h⟩ := nm_s h
  refine lv_iinc (v := v3) (lv' := [(4, .int v3), (0, .ref (g.2.1 42)), (1, .ref (g.2.1 1)), (2, .ref (g.2.1 60)), (3, .int x3)]) hx hb dX6_pickAll_52 hl (k := 4) rfl (by rw [ev3]; rfl) (by decide) rfl (fun ls hl => ?_)
  refine lv_goto (tgt := 13) hx hb dX6_pickAll_55 (by decide) ?_
  exact hrc13 v3 st2 _ _ _ h Y (lv_sub hl [1, 2, 3, 4, 0] rfl)
set_option maxHeartbeats 4000000 in
set_option maxRecDepth 100000 in
theorem w_X6_pickAll_58_60 (X : Cx g p s m args meth c cX6_pickAll 5 RX6 none) {x3 : Int32} {st : Sg} {st9 : Sg} (rc2 : Int32 → Sg → Option Sg) (hrc2 : ∀ (x3 : Int32) (st : Sg) (ls : Array Slot) (H : Heap) (locs : List Loc), rc2 x3 st = some st9 → Hp g nwX (ceX g) A s.heap st H locs → lv_has ls 5 [(0, .ref (g.2.1 42)), (1, .ref (g.2.1 1)), (2, .ref (g.2.1 60)), (3, .int x3)] → W p l e rm_X6_pickAll s m args below meth c H locs 0 0 (MQ below (QV g nwX (ceX g) A st9) args s 0 0 A) (F0 m 2 ls [])) (h : X6_pickAll_58 60 rc2 x3 st = some st9) (Y : Hp g nwX (ceX g) A s.heap st H locs)  (hl : lv_has ls 5 [(0, .ref (g.2.1 42)), (1, .ref (g.2.1 1)), (2, .ref (g.2.1 60)), (3, .int x3)]) : W p l e rm_X6_pickAll s m args below meth c H locs 0 0 (MQ below (QV g nwX (ceX g) A st9) args s 0 0 A) (F0 m 58 ls []) := by
  have hx := X.1
  have hb := X.2.1
  unfold X6_pickAll_58 at h
  obtain ⟨v1, ev1, h⟩ := nm_s h
  refine lv_iinc (v := v1) (lv' := [(3, .int v1), (0, .ref (g.2.1 42)), (1, .ref (g.2.1 1)), (2, .ref (g.2.1 60))]) hx hb dX6_pickAll_58 hl (k := 3) rfl (by rw [ev1]; rfl) (by decide) rfl (fun ls hl => ?_)
  refine lv_goto (tgt := 2) hx hb dX6_pickAll_61 (by decide) ?_
  exact hrc2 v1 st _ _ _ h Y (lv_sub hl [1, 2, 3, 0] rfl)
set_option maxHeartbeats 4000000 in
set_option maxRecDepth 100000 in
theorem w_X6_pickAll_13b_60 (X : Cx g p s m args meth c cX6_pickAll 5 RX6 none) {x3 : Int32} {x4 : Int32} {st : Sg} {st9 : Sg} (rc2 : Int32 → Sg → Option Sg) (hrc2 : ∀ (x3 : Int32) (st : Sg) (ls : Array Slot) (H : Heap) (locs : List Loc), rc2 x3 st = some st9 → Hp g nwX (ceX g) A s.heap st H locs → lv_has ls 5 [(0, .ref (g.2.1 42)), (1, .ref (g.2.1 1)), (2, .ref (g.2.1 60)), (3, .int x3)] → W p l e rm_X6_pickAll s m args below meth c H locs 0 0 (MQ below (QV g nwX (ceX g) A st9) args s 0 0 A) (F0 m 2 ls [])) (rc13 : Int32 → Sg → Option Sg) (hrc13 : ∀ (x4 : Int32) (st : Sg) (ls : Array Slot) (H : Heap) (locs : List Loc), rc13 x4 st = some st9 → Hp g nwX (ceX g) A s.heap st H locs → lv_has ls 5 [(0, .ref (g.2.1 42)), (1, .ref (g.2.1 1)), (2, .ref (g.2.1 60)), (3, .int x3), (4, .int x4)] → W p l e rm_X6_pickAll s m args below meth c H locs 0 0 (MQ below (QV g nwX (ceX g) A st9) args s 0 0 A) (F0 m 13 ls [])) (h : X6_pickAll_13b 60 rc2 rc13 x3 x4 st = some st9) (Y : Hp g nwX (ceX g) A s.heap st H locs)  (hl : lv_has ls 5 [(0, .ref (g.2.1 42)), (1, .ref (g.2.1 1)), (2, .ref (g.2.1 60)), (3, .int x3), (4, .int x4)]) : W p l e rm_X6_pickAll s m args below meth c H locs 0 0 (MQ below (QV g nwX (ceX g) A st9) args s 0 0 A) (F0 m 13 ls []) := by
  have hx := X.1
  have hb := X.2.1
  unfold X6_pickAll_13b at h
  refine lv_iload hx hb dX6_pickAll_13 (lv_at hl 4 rfl) ?_
  refine lv_aload_n hx hb dX6_pickAll_15 rfl (lv_at hl 1 rfl) ?_
  refine k_get (v := .int (st.1 1 9)) X Y fl_6_39 1 (Nat.le_of_ble_eq_true rfl) rfl rfl dX6_pickAll_16 ?_
  refine lv_icmp_ge (tgt := 58) hx hb dX6_pickAll_19 (by decide) (fun c1 => ?_) (fun c1 => ?_)
  · have h := ite_t h c1
    exact w_X6_pickAll_58_60 X rc2 hrc2 h Y  (lv_sub hl [0, 1, 2, 3] rfl)
  · have h := ite_f h c1
    refine lv_aload_n hx hb dX6_pickAll_22 rfl (lv_at hl 0 rfl) ?_
    refine k_get (v := .ref (g.2.1 52)) X Y fl_6_22 42 (Nat.le_of_ble_eq_true rfl) rfl rfl dX6_pickAll_23 ?_
    refine lv_iload_n hx hb dX6_pickAll_26 rfl (lv_at hl 3 rfl) ?_
    obtain ⟨i2, h⟩ := cix_s h
    refine k_aaldI (b := 53) X Y 52 (Nat.le_of_ble_eq_true rfl) (fun _ _ => rfl) i2 dX6_pickAll_27 ?_
    refine lv_iload hx hb dX6_pickAll_28 (lv_at hl 4 rfl) ?_
    refine lv_aload_n hx hb dX6_pickAll_30 rfl (lv_at hl 1 rfl) ?_
    refine lv_iload hx hb dX6_pickAll_31 (lv_at hl 4 rfl) ?_
    obtain ⟨v4, hc3, h⟩ := bnd1_s h
    refine k_cI Y (k_runV (As := [.int x4]) (rest := [.int x4, .ref (g.2.1 (53 + (x3).toNatClampNeg))]) (o := 1) X Y cl_6_74 (c_X3_isWaiting l hc3 _) ⟨rfl, rfl, Nat.le_of_ble_eq_true rfl, Nat.le_of_ble_eq_true rfl⟩ (Nat.le_of_ble_eq_true rfl) rfl rfl hl.1 rfl (Nat.le_of_ble_eq_true rfl) dX6_pickAll_33 ⟨Nat.zero_le _, Nat.zero_le _⟩) (fun H locs Y => ?_)
    refine lv_if_eq (tgt := 50) hx hb dX6_pickAll_36 (by decide) (fun c5 => ?_) (fun c5 => ?_)
    · have h := ite_t h c5
      refine lv_iload_n hx hb dX6_pickAll_50 rfl (lv_at hl 3 rfl) ?_
      exact w_X6_pickAll_51_60 X rc2 hrc2 rc13 hrc13 h Y i2 (lv_sub hl [0, 1, 2, 3, 4] rfl)
    · have h := ite_f h c5
      refine lv_aload_n hx hb dX6_pickAll_39 rfl (lv_at hl 1 rfl) ?_
      refine lv_iload hx hb dX6_pickAll_40 (lv_at hl 4 rfl) ?_
      refine lv_iload_n hx hb dX6_pickAll_42 rfl (lv_at hl 3 rfl) ?_
      refine lv_aload_n hx hb dX6_pickAll_43 rfl (lv_at hl 2 rfl) ?_
      obtain ⟨v7, hc6, h⟩ := bnd1_s h
      refine k_cI Y (k_runV (As := [.int x4, .int x3, .ref (g.2.1 60)]) (rest := [.int x4, .ref (g.2.1 (53 + (x3).toNatClampNeg))]) (o := 1) X Y cl_6_78 (c_X3_dayPicked_60 l hc6 _) ⟨rfl, rfl, Nat.le_of_ble_eq_true rfl, Nat.le_of_ble_eq_true rfl⟩ (Nat.le_of_ble_eq_true rfl) rfl rfl hl.1 rfl (Nat.le_of_ble_eq_true rfl) dX6_pickAll_44 ⟨Nat.zero_le _, Nat.zero_le _⟩) (fun H locs Y => ?_)
      refine lv_goto (tgt := 51) hx hb dX6_pickAll_47 (by decide) ?_
      exact w_X6_pickAll_51_60 X rc2 hrc2 rc13 hrc13 h Y i2 (lv_sub hl [0, 1, 2, 3, 4] rfl)
theorem w_X6_pickAll_13_60 (X : Cx g p s m args meth c cX6_pickAll 5 RX6 none) {x3 : Int32}  {st9 : Sg} (rc2 : Int32 → Sg → Option Sg) (hrc2 : ∀ (x3 : Int32) (st : Sg) (ls : Array Slot) (H : Heap) (locs : List Loc), rc2 x3 st = some st9 → Hp g nwX (ceX g) A s.heap st H locs → lv_has ls 5 [(0, .ref (g.2.1 42)), (1, .ref (g.2.1 1)), (2, .ref (g.2.1 60)), (3, .int x3)] → W p l e rm_X6_pickAll s m args below meth c H locs 0 0 (MQ below (QV g nwX (ceX g) A st9) args s 0 0 A) (F0 m 2 ls []))  : ∀ (k : Nat) (x4 : Int32) (st : Sg) (ls : Array Slot) (H : Heap) (locs : List Loc), X6_pickAll_13 60 rc2 x3 k x4 st = some st9 → Hp g nwX (ceX g) A s.heap st H locs → lv_has ls 5 [(0, .ref (g.2.1 42)), (1, .ref (g.2.1 1)), (2, .ref (g.2.1 60)), (3, .int x3), (4, .int x4)] → W p l e rm_X6_pickAll s m args below meth c H locs 0 0 (MQ below (QV g nwX (ceX g) A st9) args s 0 0 A) (F0 m 13 ls []) := by
  intro k
  induction k with
  | zero =>
    intro x4 st ls H locs h
    exact none_s h
  | succ k ih =>
    intro x4 st ls H locs h Y hl
    exact w_X6_pickAll_13b_60 X rc2 hrc2 (X6_pickAll_13 60 rc2 x3 k) ih h Y  hl
set_option maxHeartbeats 4000000 in
set_option maxRecDepth 100000 in
theorem w_X6_pickAll_64_60 (X : Cx g p s m args meth c cX6_pickAll 5 RX6 none)  {st : Sg} {st9 : Sg}  (h : X6_pickAll_64 60 st = some st9) (Y : Hp g nwX (ceX g) A s.heap st H locs)  (hl : lv_has ls 5 []) : W p l e rm_X6_pickAll s m args below meth c H locs 0 0 (MQ below (QV g nwX (ceX g) A st9) args s 0 0 A) (F0 m 64 ls []) := by
  have hx := X.1
  have hb := X.2.1
  unfold X6_pickAll_64 at h
  exact k_vretW X Y h dX6_pickAll_64
set_option maxHeartbeats 4000000 in
set_option maxRecDepth 100000 in
theorem w_X6_pickAll_2b_60 (X : Cx g p s m args meth c cX6_pickAll 5 RX6 none) {x3 : Int32} {st : Sg} {st9 : Sg} (rc2 : Int32 → Sg → Option Sg) (hrc2 : ∀ (x3 : Int32) (st : Sg) (ls : Array Slot) (H : Heap) (locs : List Loc), rc2 x3 st = some st9 → Hp g nwX (ceX g) A s.heap st H locs → lv_has ls 5 [(0, .ref (g.2.1 42)), (1, .ref (g.2.1 1)), (2, .ref (g.2.1 60)), (3, .int x3)] → W p l e rm_X6_pickAll s m args below meth c H locs 0 0 (MQ below (QV g nwX (ceX g) A st9) args s 0 0 A) (F0 m 2 ls [])) (h : X6_pickAll_2b 60 rc2 x3 st = some st9) (Y : Hp g nwX (ceX g) A s.heap st H locs)  (hl : lv_has ls 5 [(0, .ref (g.2.1 42)), (1, .ref (g.2.1 1)), (2, .ref (g.2.1 60)), (3, .int x3)]) : W p l e rm_X6_pickAll s m args below meth c H locs 0 0 (MQ below (QV g nwX (ceX g) A st9) args s 0 0 A) (F0 m 2 ls []) := by
  have hx := X.1
  have hb := X.2.1
  unfold X6_pickAll_2b at h
  refine lv_iload_n hx hb dX6_pickAll_2 rfl (lv_at hl 3 rfl) ?_
  refine lv_aload_n hx hb dX6_pickAll_3 rfl (lv_at hl 1 rfl) ?_
  refine k_get (v := .int (st.1 1 1)) X Y fl_6_29 1 (Nat.le_of_ble_eq_true rfl) rfl rfl dX6_pickAll_4 ?_
  refine lv_icmp_ge (tgt := 64) hx hb dX6_pickAll_7 (by decide) (fun c1 => ?_) (fun c1 => ?_)
  · have h := ite_t h c1
    exact w_X6_pickAll_64_60 X  h Y  (lv_sub hl [] rfl)
  · have h := ite_f h c1
    refine lv_iconst (v := 0) hx hb dX6_pickAll_10 (by decide) ?_
    refine lv_istore (lv' := [(4, .int 0), (0, .ref (g.2.1 42)), (1, .ref (g.2.1 1)), (2, .ref (g.2.1 60)), (3, .int x3)]) hx hb dX6_pickAll_11 hl (by decide) rfl (fun ls hl => ?_)
    exact w_X6_pickAll_13_60 X rc2 hrc2  FU 0 st _ _ _ h Y (lv_sub hl [1, 2, 3, 4, 0] rfl)
theorem w_X6_pickAll_2_60 (X : Cx g p s m args meth c cX6_pickAll 5 RX6 none)   {st9 : Sg}   : ∀ (k : Nat) (x3 : Int32) (st : Sg) (ls : Array Slot) (H : Heap) (locs : List Loc), X6_pickAll_2 60 k x3 st = some st9 → Hp g nwX (ceX g) A s.heap st H locs → lv_has ls 5 [(0, .ref (g.2.1 42)), (1, .ref (g.2.1 1)), (2, .ref (g.2.1 60)), (3, .int x3)] → W p l e rm_X6_pickAll s m args below meth c H locs 0 0 (MQ below (QV g nwX (ceX g) A st9) args s 0 0 A) (F0 m 2 ls []) := by
  intro k
  induction k with
  | zero =>
    intro x3 st ls H locs h
    exact none_s h
  | succ k ih =>
    intro x3 st ls H locs h Y hl
    exact w_X6_pickAll_2b_60 X  (X6_pickAll_2 60 k) ih h Y  hl
set_option maxHeartbeats 4000000 in
set_option maxRecDepth 100000 in
theorem w_X6_pickAll_60 (X : Cx g p s m args meth c cX6_pickAll 5 RX6 none)  {st : Sg} {st9 : Sg}  (h : X6_pickAll 60 st = some st9) (Y : Hp g nwX (ceX g) A s.heap st H locs)  (hl : lv_has ls 5 [(0, .ref (g.2.1 42)), (1, .ref (g.2.1 1)), (2, .ref (g.2.1 60))]) : W p l e rm_X6_pickAll s m args below meth c H locs 0 0 (MQ below (QV g nwX (ceX g) A st9) args s 0 0 A) (F0 m 0 ls []) := by
  have hx := X.1
  have hb := X.2.1
  unfold X6_pickAll at h
  refine lv_iconst (v := 0) hx hb dX6_pickAll_0 (by decide) ?_
  refine lv_istore_n (lv' := [(3, .int 0), (0, .ref (g.2.1 42)), (1, .ref (g.2.1 1)), (2, .ref (g.2.1 60))]) hx hb dX6_pickAll_1 rfl hl (by decide) rfl (fun ls hl => ?_)
  exact w_X6_pickAll_2_60 X   FU 0 st _ _ _ h Y (lv_sub hl [1, 2, 3, 0] rfl)
theorem c_X6_pickAll_60 (l : Launch) {g : Gx}  {st : Sg} {st9 : Sg} (h : X6_pickAll 60 st = some st9) : MetV l yX6_pickAll cX6_pickAll 5 none rm_X6_pickAll g nwX (ceX g) [.ref (g.2.1 42), .ref (g.2.1 1), .ref (g.2.1 60)] st st9 :=
  met_of (Qc := fun A => QV g nwX (ceX g) A st9) (by decide) (Nat.le_of_ble_eq_true rfl) (fun p e s m below meth c A ls X Y hl => w_X6_pickAll_60 X h Y hl)
def X6_passThoseOf_81  (rc3 : Int32 → Sg → Option Sg) (x1 : Int32) (x3 : Int32) (x4 : Int32) (x5 : Int32) (st : Sg) : Option Sg :=
  nm (x5 + 1) fun v1 =>
  rc3 v1 st
def X6_passThoseOf_87    (st : Sg) : Option Sg :=
  some st
def X6_passThoseOf_3b  (rc3 : Int32 → Sg → Option Sg) (x1 : Int32) (x3 : Int32) (x4 : Int32) (x5 : Int32) (st : Sg) : Option Sg :=
  if (st.1 1 9) ≤ x5 then
    X6_passThoseOf_87 st
  else
    cix x1 6 <|
    cix x5 3 <|
    if (st.1 (53 + (x1).toNatClampNeg) x5.toNatClampNeg) = x3 then
      bnd1 (X3_chanceToBuy x5 x3 x4 st) fun v13 =>
      cix x4 5 <|
      bnd1 (X6_passBuyer x3 v13 (st.1 2 x4.toNatClampNeg) st) fun st16 =>
      X6_passThoseOf_81 rc3 x1 x3 x4 x5 st16
    else
      cix x1 6 <|
      cix x5 3 <|
      if (st.1 (53 + (x1).toNatClampNeg) x5.toNatClampNeg) = ((-6) : Int32) then
        if x1 = x3 then
          cix x4 5 <|
          bnd1 (X6_passBuyer x3 0 (st.1 2 x4.toNatClampNeg) st) fun st11 =>
          X6_passThoseOf_81 rc3 x1 x3 x4 x5 st11
        else
          X6_passThoseOf_81 rc3 x1 x3 x4 x5 st
      else
        X6_passThoseOf_81 rc3 x1 x3 x4 x5 st
def X6_passThoseOf_3   (x1 : Int32) (x3 : Int32) (x4 : Int32) : Nat → Int32 → Sg → Option Sg
  | 0, _, _ => none
  | k + 1, x5, st => X6_passThoseOf_3b   (X6_passThoseOf_3 x1 x3 x4 k) x1 x3 x4 x5 st
def X6_passThoseOf   (x1 : Int32) (x3 : Int32) (x4 : Int32) (st : Sg) : Option Sg :=
  X6_passThoseOf_3 x1 x3 x4 FU 0 st
abbrev rm_X6_passThoseOf : Room := { frames := 2, cells := 0, slots := 0, locals := 46 }
set_option maxHeartbeats 4000000 in
set_option maxRecDepth 100000 in
theorem w_X6_passThoseOf_81 (X : Cx g p s m args meth c cX6_passThoseOf 6 RX6 none) {x1 : Int32} {x3 : Int32} {x4 : Int32} {x5 : Int32} {st : Sg} {st9 : Sg} (rc3 : Int32 → Sg → Option Sg) (hrc3 : ∀ (x5 : Int32) (st : Sg) (ls : Array Slot) (H : Heap) (locs : List Loc), rc3 x5 st = some st9 → Hp g nwX (ceX g) A s.heap st H locs → lv_has ls 6 [(0, .ref (g.2.1 42)), (1, .int x1), (2, .ref (g.2.1 1)), (3, .int x3), (4, .int x4), (5, .int x5)] → W p l e rm_X6_passThoseOf s m args below meth c H locs 0 0 (MQ below (QV g nwX (ceX g) A st9) args s 0 0 A) (F0 m 3 ls [])) (h : X6_passThoseOf_81 rc3 x1 x3 x4 x5 st = some st9) (Y : Hp g nwX (ceX g) A s.heap st H locs)  (hl : lv_has ls 6 [(0, .ref (g.2.1 42)), (1, .int x1), (2, .ref (g.2.1 1)), (3, .int x3), (4, .int x4), (5, .int x5)]) : W p l e rm_X6_passThoseOf s m args below meth c H locs 0 0 (MQ below (QV g nwX (ceX g) A st9) args s 0 0 A) (F0 m 81 ls []) := by
  have hx := X.1
  have hb := X.2.1
  unfold X6_passThoseOf_81 at h
  obtain ⟨v1, ev1, h⟩ := nm_s h
  refine lv_iinc (v := v1) (lv' := [(5, .int v1), (0, .ref (g.2.1 42)), (1, .int x1), (2, .ref (g.2.1 1)), (3, .int x3), (4, .int x4)]) hx hb dX6_passThoseOf_81 hl (k := 5) rfl (by rw [ev1]; rfl) (by decide) rfl (fun ls hl => ?_)
  refine lv_goto (tgt := 3) hx hb dX6_passThoseOf_84 (by decide) ?_
  exact hrc3 v1 st _ _ _ h Y (lv_sub hl [1, 2, 3, 4, 5, 0] rfl)
set_option maxHeartbeats 4000000 in
set_option maxRecDepth 100000 in
theorem w_X6_passThoseOf_87 (X : Cx g p s m args meth c cX6_passThoseOf 6 RX6 none)  {st : Sg} {st9 : Sg}  (h : X6_passThoseOf_87 st = some st9) (Y : Hp g nwX (ceX g) A s.heap st H locs)  (hl : lv_has ls 6 []) : W p l e rm_X6_passThoseOf s m args below meth c H locs 0 0 (MQ below (QV g nwX (ceX g) A st9) args s 0 0 A) (F0 m 87 ls []) := by
  have hx := X.1
  have hb := X.2.1
  unfold X6_passThoseOf_87 at h
  exact k_vretW X Y h dX6_passThoseOf_87
set_option maxHeartbeats 4000000 in
set_option maxRecDepth 100000 in
theorem w_X6_passThoseOf_3b (X : Cx g p s m args meth c cX6_passThoseOf 6 RX6 none) {x1 : Int32} {x3 : Int32} {x4 : Int32} {x5 : Int32} {st : Sg} {st9 : Sg} (rc3 : Int32 → Sg → Option Sg) (hrc3 : ∀ (x5 : Int32) (st : Sg) (ls : Array Slot) (H : Heap) (locs : List Loc), rc3 x5 st = some st9 → Hp g nwX (ceX g) A s.heap st H locs → lv_has ls 6 [(0, .ref (g.2.1 42)), (1, .int x1), (2, .ref (g.2.1 1)), (3, .int x3), (4, .int x4), (5, .int x5)] → W p l e rm_X6_passThoseOf s m args below meth c H locs 0 0 (MQ below (QV g nwX (ceX g) A st9) args s 0 0 A) (F0 m 3 ls [])) (h : X6_passThoseOf_3b rc3 x1 x3 x4 x5 st = some st9) (Y : Hp g nwX (ceX g) A s.heap st H locs)  (hl : lv_has ls 6 [(0, .ref (g.2.1 42)), (1, .int x1), (2, .ref (g.2.1 1)), (3, .int x3), (4, .int x4), (5, .int x5)]) : W p l e rm_X6_passThoseOf s m args below meth c H locs 0 0 (MQ below (QV g nwX (ceX g) A st9) args s 0 0 A) (F0 m 3 ls []) := by
  have hx := X.1
  have hb := X.2.1
  unfold X6_passThoseOf_3b at h
  refine lv_iload hx hb dX6_passThoseOf_3 (lv_at hl 5 rfl) ?_
  refine lv_aload_n hx hb dX6_passThoseOf_5 rfl (lv_at hl 2 rfl) ?_
  refine k_get (v := .int (st.1 1 9)) X Y fl_6_39 1 (Nat.le_of_ble_eq_true rfl) rfl rfl dX6_passThoseOf_6 ?_
  refine lv_icmp_ge (tgt := 87) hx hb dX6_passThoseOf_9 (by decide) (fun c1 => ?_) (fun c1 => ?_)
  · have h := ite_t h c1
    exact w_X6_passThoseOf_87 X  h Y  (lv_sub hl [] rfl)
  · have h := ite_f h c1
    refine lv_aload_n hx hb dX6_passThoseOf_12 rfl (lv_at hl 0 rfl) ?_
    refine k_get (v := .ref (g.2.1 52)) X Y fl_6_22 42 (Nat.le_of_ble_eq_true rfl) rfl rfl dX6_passThoseOf_13 ?_
    refine lv_iload_n hx hb dX6_passThoseOf_16 rfl (lv_at hl 1 rfl) ?_
    obtain ⟨i2, h⟩ := cix_s h
    refine k_aaldI (b := 53) X Y 52 (Nat.le_of_ble_eq_true rfl) (fun _ _ => rfl) i2 dX6_passThoseOf_17 ?_
    refine lv_iload hx hb dX6_passThoseOf_18 (lv_at hl 5 rfl) ?_
    obtain ⟨i3, h⟩ := cix_s h
    refine k_iald X Y (53 + (x1).toNatClampNeg) (row_lt i2 (Nat.le_of_ble_eq_true rfl)) (rowX_53 _ (vp_lt i2)) i3 dX6_passThoseOf_20 ?_
    refine lv_iload_n hx hb dX6_passThoseOf_21 rfl (lv_at hl 3 rfl) ?_
    refine lv_icmp_ne (tgt := 49) hx hb dX6_passThoseOf_22 (by decide) (fun c4 => ?_) (fun c4 => ?_)
    · have h := ite_f h c4
      refine lv_aload_n hx hb dX6_passThoseOf_49 rfl (lv_at hl 0 rfl) ?_
      refine k_get (v := .ref (g.2.1 52)) X Y fl_6_22 42 (Nat.le_of_ble_eq_true rfl) rfl rfl dX6_passThoseOf_50 ?_
      refine lv_iload_n hx hb dX6_passThoseOf_53 rfl (lv_at hl 1 rfl) ?_
      obtain ⟨i5, h⟩ := cix_s h
      refine k_aaldI (b := 53) X Y 52 (Nat.le_of_ble_eq_true rfl) (fun _ _ => rfl) i5 dX6_passThoseOf_54 ?_
      refine lv_iload hx hb dX6_passThoseOf_55 (lv_at hl 5 rfl) ?_
      obtain ⟨i6, h⟩ := cix_s h
      refine k_iald X Y (53 + (x1).toNatClampNeg) (row_lt i5 (Nat.le_of_ble_eq_true rfl)) (rowX_53 _ (vp_lt i5)) i6 dX6_passThoseOf_57 ?_
      refine lv_bipush (v := (-6)) hx hb dX6_passThoseOf_58 (by decide) ?_
      refine lv_icmp_ne (tgt := 81) hx hb dX6_passThoseOf_60 (by decide) (fun c7 => ?_) (fun c7 => ?_)
      · have h := ite_f h c7
        exact w_X6_passThoseOf_81 X rc3 hrc3 h Y  (lv_sub hl [0, 1, 2, 3, 4, 5] rfl)
      · have h := ite_t h c7
        refine lv_iload_n hx hb dX6_passThoseOf_63 rfl (lv_at hl 1 rfl) ?_
        refine lv_iload_n hx hb dX6_passThoseOf_64 rfl (lv_at hl 3 rfl) ?_
        refine lv_icmp_ne (tgt := 81) hx hb dX6_passThoseOf_65 (by decide) (fun c8 => ?_) (fun c8 => ?_)
        · have h := ite_f h c8
          exact w_X6_passThoseOf_81 X rc3 hrc3 h Y  (lv_sub hl [0, 1, 2, 3, 4, 5] rfl)
        · have h := ite_t h c8
          refine lv_aload_n hx hb dX6_passThoseOf_68 rfl (lv_at hl 0 rfl) ?_
          refine lv_iload_n hx hb dX6_passThoseOf_69 rfl (lv_at hl 3 rfl) ?_
          refine lv_iconst (v := 0) hx hb dX6_passThoseOf_70 (by decide) ?_
          refine lv_aload_n hx hb dX6_passThoseOf_71 rfl (lv_at hl 2 rfl) ?_
          refine k_get (v := .ref (g.2.1 2)) X Y fl_6_46 1 (Nat.le_of_ble_eq_true rfl) rfl rfl dX6_passThoseOf_72 ?_
          refine lv_iload hx hb dX6_passThoseOf_75 (lv_at hl 4 rfl) ?_
          obtain ⟨i9, h⟩ := cix_s h
          refine k_iald X Y 2 (Nat.le_of_ble_eq_true rfl) (fun _ _ => rfl) i9 dX6_passThoseOf_77 ?_
          obtain ⟨st11, hc10, h⟩ := bnd1_s h
          refine k_cV Y (k_runV (As := [.int x3, .int 0, .int (st.1 2 x4.toNatClampNeg)]) (rest := []) (o := 42) X Y cl_6_50 (c_X6_passBuyer l hc10 _) ⟨rfl, rfl, Nat.le_of_ble_eq_true rfl, Nat.le_of_ble_eq_true rfl⟩ (Nat.le_of_ble_eq_true rfl) rfl rfl hl.1 rfl (Nat.le_of_ble_eq_true rfl) dX6_passThoseOf_78 ⟨Nat.zero_le _, Nat.zero_le _⟩) (fun H locs Y => ?_)
          exact w_X6_passThoseOf_81 X rc3 hrc3 h Y  (lv_sub hl [0, 1, 2, 3, 4, 5] rfl)
    · have h := ite_t h c4
      refine lv_aload_n hx hb dX6_passThoseOf_25 rfl (lv_at hl 0 rfl) ?_
      refine lv_iload_n hx hb dX6_passThoseOf_26 rfl (lv_at hl 3 rfl) ?_
      refine lv_aload_n hx hb dX6_passThoseOf_27 rfl (lv_at hl 2 rfl) ?_
      refine lv_iload hx hb dX6_passThoseOf_28 (lv_at hl 5 rfl) ?_
      refine lv_iload_n hx hb dX6_passThoseOf_30 rfl (lv_at hl 3 rfl) ?_
      refine lv_iload hx hb dX6_passThoseOf_31 (lv_at hl 4 rfl) ?_
      obtain ⟨v13, hc12, h⟩ := bnd1_s h
      refine k_cI Y (k_runV (As := [.int x5, .int x3, .int x4]) (rest := [.int x3, .ref (g.2.1 42)]) (o := 1) X Y cl_6_42 (c_X3_chanceToBuy l hc12 _) ⟨rfl, rfl, Nat.le_of_ble_eq_true rfl, Nat.le_of_ble_eq_true rfl⟩ (Nat.le_of_ble_eq_true rfl) rfl rfl hl.1 rfl (Nat.le_of_ble_eq_true rfl) dX6_passThoseOf_33 ⟨Nat.zero_le _, Nat.zero_le _⟩) (fun H locs Y => ?_)
      refine lv_aload_n hx hb dX6_passThoseOf_36 rfl (lv_at hl 2 rfl) ?_
      refine k_get (v := .ref (g.2.1 2)) X Y fl_6_46 1 (Nat.le_of_ble_eq_true rfl) rfl rfl dX6_passThoseOf_37 ?_
      refine lv_iload hx hb dX6_passThoseOf_40 (lv_at hl 4 rfl) ?_
      obtain ⟨i14, h⟩ := cix_s h
      refine k_iald X Y 2 (Nat.le_of_ble_eq_true rfl) (fun _ _ => rfl) i14 dX6_passThoseOf_42 ?_
      obtain ⟨st16, hc15, h⟩ := bnd1_s h
      refine k_cV Y (k_runV (As := [.int x3, .int v13, .int (st.1 2 x4.toNatClampNeg)]) (rest := []) (o := 42) X Y cl_6_50 (c_X6_passBuyer l hc15 _) ⟨rfl, rfl, Nat.le_of_ble_eq_true rfl, Nat.le_of_ble_eq_true rfl⟩ (Nat.le_of_ble_eq_true rfl) rfl rfl hl.1 rfl (Nat.le_of_ble_eq_true rfl) dX6_passThoseOf_43 ⟨Nat.zero_le _, Nat.zero_le _⟩) (fun H locs Y => ?_)
      refine lv_goto (tgt := 81) hx hb dX6_passThoseOf_46 (by decide) ?_
      exact w_X6_passThoseOf_81 X rc3 hrc3 h Y  (lv_sub hl [0, 1, 2, 3, 4, 5] rfl)
theorem w_X6_passThoseOf_3 (X : Cx g p s m args meth c cX6_passThoseOf 6 RX6 none) {x1 : Int32} {x3 : Int32} {x4 : Int32}  {st9 : Sg}   : ∀ (k : Nat) (x5 : Int32) (st : Sg) (ls : Array Slot) (H : Heap) (locs : List Loc), X6_passThoseOf_3 x1 x3 x4 k x5 st = some st9 → Hp g nwX (ceX g) A s.heap st H locs → lv_has ls 6 [(0, .ref (g.2.1 42)), (1, .int x1), (2, .ref (g.2.1 1)), (3, .int x3), (4, .int x4), (5, .int x5)] → W p l e rm_X6_passThoseOf s m args below meth c H locs 0 0 (MQ below (QV g nwX (ceX g) A st9) args s 0 0 A) (F0 m 3 ls []) := by
  intro k
  induction k with
  | zero =>
    intro x5 st ls H locs h
    exact none_s h
  | succ k ih =>
    intro x5 st ls H locs h Y hl
    exact w_X6_passThoseOf_3b X  (X6_passThoseOf_3 x1 x3 x4 k) ih h Y  hl
set_option maxHeartbeats 4000000 in
set_option maxRecDepth 100000 in
theorem w_X6_passThoseOf (X : Cx g p s m args meth c cX6_passThoseOf 6 RX6 none) {x1 : Int32} {x3 : Int32} {x4 : Int32} {st : Sg} {st9 : Sg}  (h : X6_passThoseOf x1 x3 x4 st = some st9) (Y : Hp g nwX (ceX g) A s.heap st H locs)  (hl : lv_has ls 6 [(0, .ref (g.2.1 42)), (1, .int x1), (2, .ref (g.2.1 1)), (3, .int x3), (4, .int x4)]) : W p l e rm_X6_passThoseOf s m args below meth c H locs 0 0 (MQ below (QV g nwX (ceX g) A st9) args s 0 0 A) (F0 m 0 ls []) := by
  have hx := X.1
  have hb := X.2.1
  unfold X6_passThoseOf at h
  refine lv_iconst (v := 0) hx hb dX6_passThoseOf_0 (by decide) ?_
  refine lv_istore (lv' := [(5, .int 0), (0, .ref (g.2.1 42)), (1, .int x1), (2, .ref (g.2.1 1)), (3, .int x3), (4, .int x4)]) hx hb dX6_passThoseOf_1 hl (by decide) rfl (fun ls hl => ?_)
  exact w_X6_passThoseOf_3 X   FU 0 st _ _ _ h Y (lv_sub hl [1, 2, 3, 4, 5, 0] rfl)
theorem c_X6_passThoseOf (l : Launch) {g : Gx} {x1 : Int32} {x3 : Int32} {x4 : Int32} {st : Sg} {st9 : Sg} (h : X6_passThoseOf x1 x3 x4 st = some st9) : MetV l yX6_passThoseOf cX6_passThoseOf 6 none rm_X6_passThoseOf g nwX (ceX g) [.ref (g.2.1 42), .int x1, .ref (g.2.1 1), .int x3, .int x4] st st9 :=
  met_of (Qc := fun A => QV g nwX (ceX g) A st9) (by decide) (Nat.le_of_ble_eq_true rfl) (fun p e s m below meth c A ls X Y hl => w_X6_passThoseOf X h Y hl)
end LIFT
