/-! lifted by program: SaturdaySale$Table.fillBest, SaturdaySale.findBest, SaturdaySale.best, SaturdaySale.isPart, SaturdaySale$Table.askByRule, SaturdaySale$Table.takeAsked, SaturdaySale$Table.fillAsked, SaturdaySale.findBoy, SaturdaySale.partOf, SaturdaySale.boy, SaturdaySale$Walk.begin, SaturdaySale$Walk.openDay, SaturdaySale$Walk.passBuyer, SaturdaySale$Walk.goByPlan -/
section LIFT
variable {p : Program} {l : Launch} {e : Env} {s : State} {m : MethodId} {args : Array Value} {below : List Frame} {meth : Method} {c : Code} {g : Gx} {A : Nat → Prop} {H : Heap} {locs : List Loc} {ls : Array Slot}
def X4_fillBest_45 (b : Nat) (rc12 : Int32 → Sg → Option Sg) (x2 : Int32) (st : Sg) : Option Sg :=
  nm (x2 + (-1)) fun v1 =>
  rc12 v1 st
def X4_fillBest_18b (b : Nat) (rc12 : Int32 → Sg → Option Sg) (rc18 : Int32 → Sg → Option Sg) (x2 : Int32) (x3 : Int32) (st : Sg) : Option Sg :=
  if (st.1 1 4) ≤ x3 then
    X4_fillBest_45 b rc12 x2 st
  else
    bnd1 (X4_rowFor b x2 x3 st) fun st3 =>
    bnd1 (X4_takeGreater b x2 x3 st3) fun st5 =>
    nm (x3 + 1) fun v6 =>
    rc18 v6 st5
def X4_fillBest_18 (b : Nat) (rc12 : Int32 → Sg → Option Sg) (x2 : Int32) : Nat → Int32 → Sg → Option Sg
  | 0, _, _ => none
  | k + 1, x3, st => X4_fillBest_18b b rc12 (X4_fillBest_18 b rc12 x2 k) x2 x3 st
def X4_fillBest_51 (b : Nat)   (st : Sg) : Option Sg :=
  some st
def X4_fillBest_12b (b : Nat) (rc12 : Int32 → Sg → Option Sg) (x2 : Int32) (st : Sg) : Option Sg :=
  if x2 < (0 : Int32) then
    X4_fillBest_51 b st
  else
    X4_fillBest_18 b rc12 x2 FU 0 st
def X4_fillBest_12 (b : Nat)   : Nat → Int32 → Sg → Option Sg
  | 0, _, _ => none
  | k + 1, x2, st => X4_fillBest_12b b  (X4_fillBest_12 b k) x2 st
def X4_fillBest (b : Nat)   (st : Sg) : Option Sg :=
  bnd1 (X4_fillEnd b st) fun st2 =>
  nm ((st2.1 1 1) - 1) fun v3 =>
  X4_fillBest_12 b FU v3 st2
abbrev rm_X4_fillBest : Room := { frames := 3, cells := 0, slots := 0, locals := 72 }
set_option maxHeartbeats 4000000 in
set_option maxRecDepth 100000 in
theorem w_X4_fillBest_45_8 (X : Cx g p s m args meth c cX4_fillBest 4 RX4 none) {x2 : Int32} {st : Sg} {st9 : Sg} (rc12 : Int32 → Sg → Option Sg) (hrc12 : ∀ (x2 : Int32) (st : Sg) (ls : Array Slot) (H : Heap) (locs : List Loc), rc12 x2 st = some st9 → Hp g nwX (ceX g) A s.heap st H locs → lv_has ls 4 [(0, .ref (g.2.1 8)), (1, .ref (g.2.1 1)), (2, .int x2)] → W p l e rm_X4_fillBest s m args below meth c H locs 0 0 (MQ below (QV g nwX (ceX g) A st9) args s 0 0 A) (F0 m 12 ls [])) (h : X4_fillBest_45 8 rc12 x2 st = some st9) (Y : Hp g nwX (ceX g) A s.heap st H locs)  (hl : lv_has ls 4 [(0, .ref (g.2.1 8)), (1, .ref (g.2.1 1)), (2, .int x2)]) : W p l e rm_X4_fillBest s m args below meth c H locs 0 0 (MQ below (QV g nwX (ceX g) A st9) args s 0 0 A) (F0 m 45 ls []) := by
  have hx := X.1
  have hb := X.2.1
  unfold X4_fillBest_45 at h
  obtain ⟨v1, ev1, h⟩ := nm_s h
  refine lv_iinc (v := v1) (lv' := [(2, .int v1), (0, .ref (g.2.1 8)), (1, .ref (g.2.1 1))]) hx hb dX4_fillBest_45 hl (k := 2) rfl (by rw [ev1]; rfl) (by decide) rfl (fun ls hl => ?_)
  refine lv_goto (tgt := 12) hx hb dX4_fillBest_48 (by decide) ?_
  exact hrc12 v1 st _ _ _ h Y (lv_sub hl [1, 2, 0] rfl)
set_option maxHeartbeats 4000000 in
set_option maxRecDepth 100000 in
theorem w_X4_fillBest_18b_8 (X : Cx g p s m args meth c cX4_fillBest 4 RX4 none) {x2 : Int32} {x3 : Int32} {st : Sg} {st9 : Sg} (rc12 : Int32 → Sg → Option Sg) (hrc12 : ∀ (x2 : Int32) (st : Sg) (ls : Array Slot) (H : Heap) (locs : List Loc), rc12 x2 st = some st9 → Hp g nwX (ceX g) A s.heap st H locs → lv_has ls 4 [(0, .ref (g.2.1 8)), (1, .ref (g.2.1 1)), (2, .int x2)] → W p l e rm_X4_fillBest s m args below meth c H locs 0 0 (MQ below (QV g nwX (ceX g) A st9) args s 0 0 A) (F0 m 12 ls [])) (rc18 : Int32 → Sg → Option Sg) (hrc18 : ∀ (x3 : Int32) (st : Sg) (ls : Array Slot) (H : Heap) (locs : List Loc), rc18 x3 st = some st9 → Hp g nwX (ceX g) A s.heap st H locs → lv_has ls 4 [(0, .ref (g.2.1 8)), (1, .ref (g.2.1 1)), (2, .int x2), (3, .int x3)] → W p l e rm_X4_fillBest s m args below meth c H locs 0 0 (MQ below (QV g nwX (ceX g) A st9) args s 0 0 A) (F0 m 18 ls [])) (h : X4_fillBest_18b 8 rc12 rc18 x2 x3 st = some st9) (Y : Hp g nwX (ceX g) A s.heap st H locs)  (hl : lv_has ls 4 [(0, .ref (g.2.1 8)), (1, .ref (g.2.1 1)), (2, .int x2), (3, .int x3)]) : W p l e rm_X4_fillBest s m args below meth c H locs 0 0 (MQ below (QV g nwX (ceX g) A st9) args s 0 0 A) (F0 m 18 ls []) := by
  have hx := X.1
  have hb := X.2.1
  unfold X4_fillBest_18b at h
  refine lv_iload_n hx hb dX4_fillBest_18 rfl (lv_at hl 3 rfl) ?_
  refine lv_aload_n hx hb dX4_fillBest_19 rfl (lv_at hl 1 rfl) ?_
  refine k_get (v := .int (st.1 1 4)) X Y fl_4_41 1 (Nat.le_of_ble_eq_true rfl) rfl rfl dX4_fillBest_20 ?_
  refine lv_icmp_ge (tgt := 45) hx hb dX4_fillBest_23 (by decide) (fun c1 => ?_) (fun c1 => ?_)
  · have h := ite_t h c1
    exact w_X4_fillBest_45_8 X rc12 hrc12 h Y  (lv_sub hl [0, 1, 2] rfl)
  · have h := ite_f h c1
    refine lv_aload_n hx hb dX4_fillBest_26 rfl (lv_at hl 0 rfl) ?_
    refine lv_aload_n hx hb dX4_fillBest_27 rfl (lv_at hl 1 rfl) ?_
    refine lv_iload_n hx hb dX4_fillBest_28 rfl (lv_at hl 2 rfl) ?_
    refine lv_iload_n hx hb dX4_fillBest_29 rfl (lv_at hl 3 rfl) ?_
    obtain ⟨st3, hc2, h⟩ := bnd1_s h
    refine k_cV Y (k_runV (As := [.ref (g.2.1 1), .int x2, .int x3]) (rest := []) (o := 8) X Y cl_4_44 (c_X4_rowFor_8 l hc2 _) ⟨rfl, rfl, Nat.le_of_ble_eq_true rfl, Nat.le_of_ble_eq_true rfl⟩ (Nat.le_of_ble_eq_true rfl) rfl rfl hl.1 rfl (Nat.le_of_ble_eq_true rfl) dX4_fillBest_30 ⟨Nat.zero_le _, Nat.zero_le _⟩) (fun H locs Y => ?_)
    refine lv_aload_n hx hb dX4_fillBest_33 rfl (lv_at hl 0 rfl) ?_
    refine lv_iload_n hx hb dX4_fillBest_34 rfl (lv_at hl 2 rfl) ?_
    refine lv_iload_n hx hb dX4_fillBest_35 rfl (lv_at hl 3 rfl) ?_
    obtain ⟨st5, hc4, h⟩ := bnd1_s h
    refine k_cV Y (k_runV (As := [.int x2, .int x3]) (rest := []) (o := 8) X Y cl_4_52 (c_X4_takeGreater_8 l hc4 _) ⟨rfl, rfl, Nat.le_of_ble_eq_true rfl, Nat.le_of_ble_eq_true rfl⟩ (Nat.le_of_ble_eq_true rfl) rfl rfl hl.1 rfl (Nat.le_of_ble_eq_true rfl) dX4_fillBest_36 ⟨Nat.zero_le _, Nat.zero_le _⟩) (fun H locs Y => ?_)
    obtain ⟨v6, ev6, h⟩ := nm_s h
    refine lv_iinc (v := v6) (lv' := [(3, .int v6), (0, .ref (g.2.1 8)), (1, .ref (g.2.1 1)), (2, .int x2)]) hx hb dX4_fillBest_39 hl (k := 3) rfl (by rw [ev6]; rfl) (by decide) rfl (fun ls hl => ?_)
    refine lv_goto (tgt := 18) hx hb dX4_fillBest_42 (by decide) ?_
    exact hrc18 v6 st5 _ _ _ h Y (lv_sub hl [1, 2, 3, 0] rfl)
theorem w_X4_fillBest_18_8 (X : Cx g p s m args meth c cX4_fillBest 4 RX4 none) {x2 : Int32}  {st9 : Sg} (rc12 : Int32 → Sg → Option Sg) (hrc12 : ∀ (x2 : Int32) (st : Sg) (ls : Array Slot) (H : Heap) (locs : List Loc), rc12 x2 st = some st9 → Hp g nwX (ceX g) A s.heap st H locs → lv_has ls 4 [(0, .ref (g.2.1 8)), (1, .ref (g.2.1 1)), (2, .int x2)] → W p l e rm_X4_fillBest s m args below meth c H locs 0 0 (MQ below (QV g nwX (ceX g) A st9) args s 0 0 A) (F0 m 12 ls []))  : ∀ (k : Nat) (x3 : Int32) (st : Sg) (ls : Array Slot) (H : Heap) (locs : List Loc), X4_fillBest_18 8 rc12 x2 k x3 st = some st9 → Hp g nwX (ceX g) A s.heap st H locs → lv_has ls 4 [(0, .ref (g.2.1 8)), (1, .ref (g.2.1 1)), (2, .int x2), (3, .int x3)] → W p l e rm_X4_fillBest s m args below meth c H locs 0 0 (MQ below (QV g nwX (ceX g) A st9) args s 0 0 A) (F0 m 18 ls []) := by
  intro k
  induction k with
  | zero =>
    intro x3 st ls H locs h
    exact none_s h
  | succ k ih =>
    intro x3 st ls H locs h Y hl
    exact w_X4_fillBest_18b_8 X rc12 hrc12 (X4_fillBest_18 8 rc12 x2 k) ih h Y  hl
set_option maxHeartbeats 4000000 in
set_option maxRecDepth 100000 in
theorem w_X4_fillBest_51_8 (X : Cx g p s m args meth c cX4_fillBest 4 RX4 none)  {st : Sg} {st9 : Sg}  (h : X4_fillBest_51 8 st = some st9) (Y : Hp g nwX (ceX g) A s.heap st H locs)  (hl : lv_has ls 4 []) : W p l e rm_X4_fillBest s m args below meth c H locs 0 0 (MQ below (QV g nwX (ceX g) A st9) args s 0 0 A) (F0 m 51 ls []) := by
  have hx := X.1
  have hb := X.2.1
  unfold X4_fillBest_51 at h
  exact k_vretW X Y h dX4_fillBest_51
set_option maxHeartbeats 4000000 in
set_option maxRecDepth 100000 in
theorem w_X4_fillBest_12b_8 (X : Cx g p s m args meth c cX4_fillBest 4 RX4 none) {x2 : Int32} {st : Sg} {st9 : Sg} (rc12 : Int32 → Sg → Option Sg) (hrc12 : ∀ (x2 : Int32) (st : Sg) (ls : Array Slot) (H : Heap) (locs : List Loc), rc12 x2 st = some st9 → Hp g nwX (ceX g) A s.heap st H locs → lv_has ls 4 [(0, .ref (g.2.1 8)), (1, .ref (g.2.1 1)), (2, .int x2)] → W p l e rm_X4_fillBest s m args below meth c H locs 0 0 (MQ below (QV g nwX (ceX g) A st9) args s 0 0 A) (F0 m 12 ls [])) (h : X4_fillBest_12b 8 rc12 x2 st = some st9) (Y : Hp g nwX (ceX g) A s.heap st H locs)  (hl : lv_has ls 4 [(0, .ref (g.2.1 8)), (1, .ref (g.2.1 1)), (2, .int x2)]) : W p l e rm_X4_fillBest s m args below meth c H locs 0 0 (MQ below (QV g nwX (ceX g) A st9) args s 0 0 A) (F0 m 12 ls []) := by
  have hx := X.1
  have hb := X.2.1
  unfold X4_fillBest_12b at h
  refine lv_iload_n hx hb dX4_fillBest_12 rfl (lv_at hl 2 rfl) ?_
  refine lv_if_lt (tgt := 51) hx hb dX4_fillBest_13 (by decide) (fun c1 => ?_) (fun c1 => ?_)
  · have h := ite_t h c1
    exact w_X4_fillBest_51_8 X  h Y  (lv_sub hl [] rfl)
  · have h := ite_f h c1
    refine lv_iconst (v := 0) hx hb dX4_fillBest_16 (by decide) ?_
    refine lv_istore_n (lv' := [(3, .int 0), (0, .ref (g.2.1 8)), (1, .ref (g.2.1 1)), (2, .int x2)]) hx hb dX4_fillBest_17 rfl hl (by decide) rfl (fun ls hl => ?_)
    exact w_X4_fillBest_18_8 X rc12 hrc12  FU 0 st _ _ _ h Y (lv_sub hl [1, 2, 3, 0] rfl)
theorem w_X4_fillBest_12_8 (X : Cx g p s m args meth c cX4_fillBest 4 RX4 none)   {st9 : Sg}   : ∀ (k : Nat) (x2 : Int32) (st : Sg) (ls : Array Slot) (H : Heap) (locs : List Loc), X4_fillBest_12 8 k x2 st = some st9 → Hp g nwX (ceX g) A s.heap st H locs → lv_has ls 4 [(0, .ref (g.2.1 8)), (1, .ref (g.2.1 1)), (2, .int x2)] → W p l e rm_X4_fillBest s m args below meth c H locs 0 0 (MQ below (QV g nwX (ceX g) A st9) args s 0 0 A) (F0 m 12 ls []) := by
  intro k
  induction k with
  | zero =>
    intro x2 st ls H locs h
    exact none_s h
  | succ k ih =>
    intro x2 st ls H locs h Y hl
    exact w_X4_fillBest_12b_8 X  (X4_fillBest_12 8 k) ih h Y  hl
set_option maxHeartbeats 4000000 in
set_option maxRecDepth 100000 in
theorem w_X4_fillBest_8 (X : Cx g p s m args meth c cX4_fillBest 4 RX4 none)  {st : Sg} {st9 : Sg}  (h : X4_fillBest 8 st = some st9) (Y : Hp g nwX (ceX g) A s.heap st H locs)  (hl : lv_has ls 4 [(0, .ref (g.2.1 8)), (1, .ref (g.2.1 1))]) : W p l e rm_X4_fillBest s m args below meth c H locs 0 0 (MQ below (QV g nwX (ceX g) A st9) args s 0 0 A) (F0 m 0 ls []) := by
  have hx := X.1
  have hb := X.2.1
  unfold X4_fillBest at h
  refine lv_aload_n hx hb dX4_fillBest_0 rfl (lv_at hl 0 rfl) ?_
  refine lv_aload_n hx hb dX4_fillBest_1 rfl (lv_at hl 1 rfl) ?_
  obtain ⟨st2, hc1, h⟩ := bnd1_s h
  refine k_cV Y (k_runV (As := [.ref (g.2.1 1)]) (rest := []) (o := 8) X Y cl_4_31 (c_X4_fillEnd_8 l hc1 _) ⟨rfl, rfl, Nat.le_of_ble_eq_true rfl, Nat.le_of_ble_eq_true rfl⟩ (Nat.le_of_ble_eq_true rfl) rfl rfl hl.1 rfl (Nat.le_of_ble_eq_true rfl) dX4_fillBest_2 ⟨Nat.zero_le _, Nat.zero_le _⟩) (fun H locs Y => ?_)
  refine lv_aload_n hx hb dX4_fillBest_5 rfl (lv_at hl 1 rfl) ?_
  refine k_get (v := .int (st2.1 1 1)) X Y fl_4_35 1 (Nat.le_of_ble_eq_true rfl) rfl rfl dX4_fillBest_6 ?_
  refine lv_iconst (v := 1) hx hb dX4_fillBest_9 (by decide) ?_
  refine lv_isub hx hb dX4_fillBest_10 ?_
  obtain ⟨v3, ev3, h⟩ := nm_s h
  refine k_nmI ev3 ?_
  refine lv_istore_n (lv' := [(2, .int v3), (0, .ref (g.2.1 8)), (1, .ref (g.2.1 1))]) hx hb dX4_fillBest_11 rfl hl (by decide) rfl (fun ls hl => ?_)
  exact w_X4_fillBest_12_8 X   FU v3 st2 _ _ _ h Y (lv_sub hl [1, 2, 0] rfl)
theorem c_X4_fillBest_8 (l : Launch) {g : Gx}  {st : Sg} {st9 : Sg} (h : X4_fillBest 8 st = some st9) : MetV l yX4_fillBest cX4_fillBest 4 none rm_X4_fillBest g nwX (ceX g) [.ref (g.2.1 8), .ref (g.2.1 1)] st st9 :=
  met_of (Qc := fun A => QV g nwX (ceX g) A st9) (by decide) (Nat.le_of_ble_eq_true rfl) (fun p e s m below meth c A ls X Y hl => w_X4_fillBest_8 X h Y hl)
set_option maxHeartbeats 4000000 in
set_option maxRecDepth 100000 in
theorem w_X4_fillBest_45_25 (X : Cx g p s m args meth c cX4_fillBest 4 RX4 none) {x2 : Int32} {st : Sg} {st9 : Sg} (rc12 : Int32 → Sg → Option Sg) (hrc12 : ∀ (x2 : Int32) (st : Sg) (ls : Array Slot) (H : Heap) (locs : List Loc), rc12 x2 st = some st9 → Hp g nwX (ceX g) A s.heap st H locs → lv_has ls 4 [(0, .ref (g.2.1 25)), (1, .ref (g.2.1 1)), (2, .int x2)] → W p l e rm_X4_fillBest s m args below meth c H locs 0 0 (MQ below (QV g nwX (ceX g) A st9) args s 0 0 A) (F0 m 12 ls [])) (h : X4_fillBest_45 25 rc12 x2 st = some st9) (Y : Hp g nwX (ceX g) A s.heap st H locs)  (hl : lv_has ls 4 [(0, .ref (g.2.1 25)), (1, .ref (g.2.1 1)), (2, .int x2)]) : W p l e rm_X4_fillBest s m args below meth c H locs 0 0 (MQ below (QV g nwX (ceX g) A st9) args s 0 0 A) (F0 m 45 ls []) := by
  have hx := X.1
  have hb := X.2.1
  unfold X4_fillBest_45 at h
  obtain ⟨v1, ev1, h⟩ := nm_s h
  refine lv_iinc (v := v1) (lv' := [(2, .int v1), (0, .ref (g.2.1 25)), (1, .ref (g.2.1 1))]) hx hb dX4_fillBest_45 hl (k := 2) rfl (by rw [ev1]; rfl) (by decide) rfl (fun ls hl => ?_)
  refine lv_goto (tgt := 12) hx hb dX4_fillBest_48 (by decide) ?_
  exact hrc12 v1 st _ _ _ h Y (lv_sub hl [1, 2, 0] rfl)
set_option maxHeartbeats 4000000 in
set_option maxRecDepth 100000 in
theorem w_X4_fillBest_18b_25 (X : Cx g p s m args meth c cX4_fillBest 4 RX4 none) {x2 : Int32} {x3 : Int32} {st : Sg} {st9 : Sg} (rc12 : Int32 → Sg → Option Sg) (hrc12 : ∀ (x2 : Int32) (st : Sg) (ls : Array Slot) (H : Heap) (locs : List Loc), rc12 x2 st = some st9 → Hp g nwX (ceX g) A s.heap st H locs → lv_has ls 4 [(0, .ref (g.2.1 25)), (1, .ref (g.2.1 1)), (2, .int x2)] → W p l e rm_X4_fillBest s m args below meth c H locs 0 0 (MQ below (QV g nwX (ceX g) A st9) args s 0 0 A) (F0 m 12 ls [])) (rc18 : Int32 → Sg → Option Sg) (hrc18 : ∀ (x3 : Int32) (st : Sg) (ls : Array Slot) (H : Heap) (locs : List Loc), rc18 x3 st = some st9 → Hp g nwX (ceX g) A s.heap st H locs → lv_has ls 4 [(0, .ref (g.2.1 25)), (1, .ref (g.2.1 1)), (2, .int x2), (3, .int x3)] → W p l e rm_X4_fillBest s m args below meth c H locs 0 0 (MQ below (QV g nwX (ceX g) A st9) args s 0 0 A) (F0 m 18 ls [])) (h : X4_fillBest_18b 25 rc12 rc18 x2 x3 st = some st9) (Y : Hp g nwX (ceX g) A s.heap st H locs)  (hl : lv_has ls 4 [(0, .ref (g.2.1 25)), (1, .ref (g.2.1 1)), (2, .int x2), (3, .int x3)]) : W p l e rm_X4_fillBest s m args below meth c H locs 0 0 (MQ below (QV g nwX (ceX g) A st9) args s 0 0 A) (F0 m 18 ls []) := by
  have hx := X.1
  have hb := X.2.1
  unfold X4_fillBest_18b at h
  refine lv_iload_n hx hb dX4_fillBest_18 rfl (lv_at hl 3 rfl) ?_
  refine lv_aload_n hx hb dX4_fillBest_19 rfl (lv_at hl 1 rfl) ?_
  refine k_get (v := .int (st.1 1 4)) X Y fl_4_41 1 (Nat.le_of_ble_eq_true rfl) rfl rfl dX4_fillBest_20 ?_
  refine lv_icmp_ge (tgt := 45) hx hb dX4_fillBest_23 (by decide) (fun c1 => ?_) (fun c1 => ?_)
  · have h := ite_t h c1
    exact w_X4_fillBest_45_25 X rc12 hrc12 h Y  (lv_sub hl [0, 1, 2] rfl)
  · have h := ite_f h c1
    refine lv_aload_n hx hb dX4_fillBest_26 rfl (lv_at hl 0 rfl) ?_
    refine lv_aload_n hx hb dX4_fillBest_27 rfl (lv_at hl 1 rfl) ?_
    refine lv_iload_n hx hb dX4_fillBest_28 rfl (lv_at hl 2 rfl) ?_
    refine lv_iload_n hx hb dX4_fillBest_29 rfl (lv_at hl 3 rfl) ?_
    obtain ⟨st3, hc2, h⟩ := bnd1_s h
    refine k_cV Y (k_runV (As := [.ref (g.2.1 1), .int x2, .int x3]) (rest := []) (o := 25) X Y cl_4_44 (c_X4_rowFor_25 l hc2 _) ⟨rfl, rfl, Nat.le_of_ble_eq_true rfl, Nat.le_of_ble_eq_true rfl⟩ (Nat.le_of_ble_eq_true rfl) rfl rfl hl.1 rfl (Nat.le_of_ble_eq_true rfl) dX4_fillBest_30 ⟨Nat.zero_le _, Nat.zero_le _⟩) (fun H locs Y => ?_)
    refine lv_aload_n hx hb dX4_fillBest_33 rfl (lv_at hl 0 rfl) ?_
    refine lv_iload_n hx hb dX4_fillBest_34 rfl (lv_at hl 2 rfl) ?_
    refine lv_iload_n hx hb dX4_fillBest_35 rfl (lv_at hl 3 rfl) ?_
    obtain ⟨st5, hc4, h⟩ := bnd1_s h
    refine k_cV Y (k_runV (As := [.int x2, .int x3]) (rest := []) (o := 25) X Y cl_4_52 (c_X4_takeGreater_25 l hc4 _) ⟨rfl, rfl, Nat.le_of_ble_eq_true rfl, Nat.le_of_ble_eq_true rfl⟩ (Nat.le_of_ble_eq_true rfl) rfl rfl hl.1 rfl (Nat.le_of_ble_eq_true rfl) dX4_fillBest_36 ⟨Nat.zero_le _, Nat.zero_le _⟩) (fun H locs Y => ?_)
    obtain ⟨v6, ev6, h⟩ := nm_s h
    refine lv_iinc (v := v6) (lv' := [(3, .int v6), (0, .ref (g.2.1 25)), (1, .ref (g.2.1 1)), (2, .int x2)]) hx hb dX4_fillBest_39 hl (k := 3) rfl (by rw [ev6]; rfl) (by decide) rfl (fun ls hl => ?_)
    refine lv_goto (tgt := 18) hx hb dX4_fillBest_42 (by decide) ?_
    exact hrc18 v6 st5 _ _ _ h Y (lv_sub hl [1, 2, 3, 0] rfl)
theorem w_X4_fillBest_18_25 (X : Cx g p s m args meth c cX4_fillBest 4 RX4 none) {x2 : Int32}  {st9 : Sg} (rc12 : Int32 → Sg → Option Sg) (hrc12 : ∀ (x2 : Int32) (st : Sg) (ls : Array Slot) (H : Heap) (locs : List Loc), rc12 x2 st = some st9 → Hp g nwX (ceX g) A s.heap st H locs → lv_has ls 4 [(0, .ref (g.2.1 25)), (1, .ref (g.2.1 1)), (2, .int x2)] → W p l e rm_X4_fillBest s m args below meth c H locs 0 0 (MQ below (QV g nwX (ceX g) A st9) args s 0 0 A) (F0 m 12 ls []))  : ∀ (k : Nat) (x3 : Int32) (st : Sg) (ls : Array Slot) (H : Heap) (locs : List Loc), X4_fillBest_18 25 rc12 x2 k x3 st = some st9 → Hp g nwX (ceX g) A s.heap st H locs → lv_has ls 4 [(0, .ref (g.2.1 25)), (1, .ref (g.2.1 1)), (2, .int x2), (3, .int x3)] → W p l e rm_X4_fillBest s m args below meth c H locs 0 0 (MQ below (QV g nwX (ceX g) A st9) args s 0 0 A) (F0 m 18 ls []) := by
  intro k
  induction k with
  | zero =>
    intro x3 st ls H locs h
    exact none_s h
  | succ k ih =>
    intro x3 st ls H locs h Y hl
    exact w_X4_fillBest_18b_25 X rc12 hrc12 (X4_fillBest_18 25 rc12 x2 k) ih h Y  hl
set_option maxHeartbeats 4000000 in
set_option maxRecDepth 100000 in
theorem w_X4_fillBest_51_25 (X : Cx g p s m args meth c cX4_fillBest 4 RX4 none)  {st : Sg} {st9 : Sg}  (h : X4_fillBest_51 25 st = some st9) (Y : Hp g nwX (ceX g) A s.heap st H locs)  (hl : lv_has ls 4 []) : W p l e rm_X4_fillBest s m args below meth c H locs 0 0 (MQ below (QV g nwX (ceX g) A st9) args s 0 0 A) (F0 m 51 ls []) := by
  have hx := X.1
  have hb := X.2.1
  unfold X4_fillBest_51 at h
  exact k_vretW X Y h dX4_fillBest_51
set_option maxHeartbeats 4000000 in
set_option maxRecDepth 100000 in
theorem w_X4_fillBest_12b_25 (X : Cx g p s m args meth c cX4_fillBest 4 RX4 none) {x2 : Int32} {st : Sg} {st9 : Sg} (rc12 : Int32 → Sg → Option Sg) (hrc12 : ∀ (x2 : Int32) (st : Sg) (ls : Array Slot) (H : Heap) (locs : List Loc), rc12 x2 st = some st9 → Hp g nwX (ceX g) A s.heap st H locs → lv_has ls 4 [(0, .ref (g.2.1 25)), (1, .ref (g.2.1 1)), (2, .int x2)] → W p l e rm_X4_fillBest s m args below meth c H locs 0 0 (MQ below (QV g nwX (ceX g) A st9) args s 0 0 A) (F0 m 12 ls [])) (h : X4_fillBest_12b 25 rc12 x2 st = some st9) (Y : Hp g nwX (ceX g) A s.heap st H locs)  (hl : lv_has ls 4 [(0, .ref (g.2.1 25)), (1, .ref (g.2.1 1)), (2, .int x2)]) : W p l e rm_X4_fillBest s m args below meth c H locs 0 0 (MQ below (QV g nwX (ceX g) A st9) args s 0 0 A) (F0 m 12 ls []) := by
  have hx := X.1
  have hb := X.2.1
  unfold X4_fillBest_12b at h
  refine lv_iload_n hx hb dX4_fillBest_12 rfl (lv_at hl 2 rfl) ?_
  refine lv_if_lt (tgt := 51) hx hb dX4_fillBest_13 (by decide) (fun c1 => ?_) (fun c1 => ?_)
  · have h := ite_t h c1
    exact w_X4_fillBest_51_25 X  h Y  (lv_sub hl [] rfl)
  · have h := ite_f h c1
    refine lv_iconst (v := 0) hx hb dX4_fillBest_16 (by decide) ?_
    refine lv_istore_n (lv' := [(3, .int 0), (0, .ref (g.2.1 25)), (1, .ref (g.2.1 1)), (2, .int x2)]) hx hb dX4_fillBest_17 rfl hl (by decide) rfl (fun ls hl => ?_)
    exact w_X4_fillBest_18_25 X rc12 hrc12  FU 0 st _ _ _ h Y (lv_sub hl [1, 2, 3, 0] rfl)
theorem w_X4_fillBest_12_25 (X : Cx g p s m args meth c cX4_fillBest 4 RX4 none)   {st9 : Sg}   : ∀ (k : Nat) (x2 : Int32) (st : Sg) (ls : Array Slot) (H : Heap) (locs : List Loc), X4_fillBest_12 25 k x2 st = some st9 → Hp g nwX (ceX g) A s.heap st H locs → lv_has ls 4 [(0, .ref (g.2.1 25)), (1, .ref (g.2.1 1)), (2, .int x2)] → W p l e rm_X4_fillBest s m args below meth c H locs 0 0 (MQ below (QV g nwX (ceX g) A st9) args s 0 0 A) (F0 m 12 ls []) := by
  intro k
  induction k with
  | zero =>
    intro x2 st ls H locs h
    exact none_s h
  | succ k ih =>
    intro x2 st ls H locs h Y hl
    exact w_X4_fillBest_12b_25 X  (X4_fillBest_12 25 k) ih h Y  hl
set_option maxHeartbeats 4000000 in
set_option maxRecDepth 100000 in
theorem w_X4_fillBest_25 (X : Cx g p s m args meth c cX4_fillBest 4 RX4 none)  {st : Sg} {st9 : Sg}  (h : X4_fillBest 25 st = some st9) (Y : Hp g nwX (ceX g) A s.heap st H locs)  (hl : lv_has ls 4 [(0, .ref (g.2.1 25)), (1, .ref (g.2.1 1))]) : W p l e rm_X4_fillBest s m args below meth c H locs 0 0 (MQ below (QV g nwX (ceX g) A st9) args s 0 0 A) (F0 m 0 ls []) := by
  have hx := X.1
  have hb := X.2.1
  unfold X4_fillBest at h
  refine lv_aload_n hx hb dX4_fillBest_0 rfl (lv_at hl 0 rfl) ?_
  refine lv_aload_n hx hb dX4_fillBest_1 rfl (lv_at hl 1 rfl) ?_
  obtain ⟨st2, hc1, h⟩ := bnd1_s h
  refine k_cV Y (k_runV (As := [.ref (g.2.1 1)]) (rest := []) (o := 25) X Y cl_4_31 (c_X4_fillEnd_25 l hc1 _) ⟨rfl, rfl, Nat.le_of_ble_eq_true rfl, Nat.le_of_ble_eq_true rfl⟩ (Nat.le_of_ble_eq_true rfl) rfl rfl hl.1 rfl (Nat.le_of_ble_eq_true rfl) dX4_fillBest_2 ⟨Nat.zero_le _, Nat.zero_le _⟩) (fun H locs Y => ?_)
  refine lv_aload_n hx hb dX4_fillBest_5 rfl (lv_at hl 1 rfl) ?_
  refine k_get (v := .int (st2.1 1 1)) X Y fl_4_35 1 (Nat.le_of_ble_eq_true rfl) rfl rfl dX4_fillBest_6 ?_
  refine lv_iconst (v := 1) hx hb dX4_fillBest_9 (by decide) ?_
  refine lv_isub hx hb dX4_fillBest_10 ?_
  obtain ⟨v3, ev3, h⟩ := nm_s h
  refine k_nmI ev3 ?_
  refine lv_istore_n (lv' := [(2, .int v3), (0, .ref (g.2.1 25)), (1, .ref (g.2.1 1))]) hx hb dX4_fillBest_11 rfl hl (by decide) rfl (fun ls hl => ?_)
  exact w_X4_fillBest_12_25 X   FU v3 st2 _ _ _ h Y (lv_sub hl [1, 2, 0] rfl)
theorem c_X4_fillBest_25 (l : Launch) {g : Gx}  {st : Sg} {st9 : Sg} (h : X4_fillBest 25 st = some st9) : MetV l yX4_fillBest cX4_fillBest 4 none rm_X4_fillBest g nwX (ceX g) [.ref (g.2.1 25), .ref (g.2.1 1)] st st9 :=
  met_of (Qc := fun A => QV g nwX (ceX g) A st9) (by decide) (Nat.le_of_ble_eq_true rfl) (fun p e s m below meth c A ls X Y hl => w_X4_fillBest_25 X h Y hl)
def X7_findBest_36    (st : Sg) : Option Sg :=
  some st
def X7_findBest    (st : Sg) : Option Sg :=
  if (st.1 0 11) = (st.1 1 10) then
    X7_findBest_36 st
  else
    bnd1 (X4_fillBest 8 st) fun st3 =>
    nm (sI st3 0 11 (st3.1 1 10)) fun st4 =>
    X7_findBest_36 st4
abbrev rm_X7_findBest : Room := { frames := 4, cells := 0, slots := 0, locals := 95 }
set_option maxHeartbeats 4000000 in
set_option maxRecDepth 100000 in
theorem w_X7_findBest_36 (X : Cx g p s m args meth c cX7_findBest 1 RX7 none)  {st : Sg} {st9 : Sg}  (h : X7_findBest_36 st = some st9) (Y : Hp g nwX (ceX g) A s.heap st H locs)  (hl : lv_has ls 1 []) : W p l e rm_X7_findBest s m args below meth c H locs 0 0 (MQ below (QV g nwX (ceX g) A st9) args s 0 0 A) (F0 m 36 ls []) := by
  have hx := X.1
  have hb := X.2.1
  unfold X7_findBest_36 at h
  exact k_vretW X Y h dX7_findBest_36
set_option maxHeartbeats 4000000 in
set_option maxRecDepth 100000 in
theorem w_X7_findBest (X : Cx g p s m args meth c cX7_findBest 1 RX7 none)  {st : Sg} {st9 : Sg}  (h : X7_findBest st = some st9) (Y : Hp g nwX (ceX g) A s.heap st H locs)  (hl : lv_has ls 1 [(0, .ref (g.2.1 0))]) : W p l e rm_X7_findBest s m args below meth c H locs 0 0 (MQ below (QV g nwX (ceX g) A st9) args s 0 0 A) (F0 m 0 ls []) := by
  have hx := X.1
  have hb := X.2.1
  unfold X7_findBest at h
  refine lv_aload_n hx hb dX7_findBest_0 rfl (lv_at hl 0 rfl) ?_
  refine k_get (v := .int (st.1 0 11)) X Y fl_7_71 0 (Nat.le_of_ble_eq_true rfl) rfl rfl dX7_findBest_1 ?_
  refine lv_aload_n hx hb dX7_findBest_4 rfl (lv_at hl 0 rfl) ?_
  refine k_get (v := .ref (g.2.1 1)) X Y fl_7_10 0 (Nat.le_of_ble_eq_true rfl) rfl rfl dX7_findBest_5 ?_
  refine k_get (v := .int (st.1 1 10)) X Y fl_7_94 1 (Nat.le_of_ble_eq_true rfl) rfl rfl dX7_findBest_8 ?_
  refine lv_icmp_eq (tgt := 36) hx hb dX7_findBest_11 (by decide) (fun c1 => ?_) (fun c1 => ?_)
  · have h := ite_t h c1
    exact w_X7_findBest_36 X  h Y  (lv_sub hl [] rfl)
  · have h := ite_f h c1
    refine lv_aload_n hx hb dX7_findBest_14 rfl (lv_at hl 0 rfl) ?_
    refine k_get (v := .ref (g.2.1 8)) X Y fl_7_23 0 (Nat.le_of_ble_eq_true rfl) rfl rfl dX7_findBest_15 ?_
    refine lv_aload_n hx hb dX7_findBest_18 rfl (lv_at hl 0 rfl) ?_
    refine k_get (v := .ref (g.2.1 1)) X Y fl_7_10 0 (Nat.le_of_ble_eq_true rfl) rfl rfl dX7_findBest_19 ?_
    obtain ⟨st3, hc2, h⟩ := bnd1_s h
    refine k_cV Y (k_runV (As := [.ref (g.2.1 1)]) (rest := []) (o := 8) X Y cl_7_238 (c_X4_fillBest_8 l hc2 _) ⟨rfl, rfl, Nat.le_of_ble_eq_true rfl, Nat.le_of_ble_eq_true rfl⟩ (Nat.le_of_ble_eq_true rfl) rfl rfl hl.1 rfl (Nat.le_of_ble_eq_true rfl) dX7_findBest_22 ⟨Nat.zero_le _, Nat.zero_le _⟩) (fun H locs Y => ?_)
    refine lv_aload_n hx hb dX7_findBest_25 rfl (lv_at hl 0 rfl) ?_
    refine lv_aload_n hx hb dX7_findBest_26 rfl (lv_at hl 0 rfl) ?_
    refine k_get (v := .ref (g.2.1 1)) X Y fl_7_10 0 (Nat.le_of_ble_eq_true rfl) rfl rfl dX7_findBest_27 ?_
    refine k_get (v := .int (st3.1 1 10)) X Y fl_7_94 1 (Nat.le_of_ble_eq_true rfl) rfl rfl dX7_findBest_30 ?_
    refine k_putI X Y fl_7_71 0 (Nat.le_of_ble_eq_true rfl) rfl rfl rfl (Nat.le_of_ble_eq_true rfl) rfl dX7_findBest_33 (fun H locs Y => ?_)
    obtain ⟨st4, est4, h⟩ := nm_s h
    have Y : Hp g nwX (ceX g) A s.heap st4 H locs := by rw [est4]; exact Y
    exact w_X7_findBest_36 X  h Y  (lv_sub hl [] rfl)
theorem c_X7_findBest (l : Launch) {g : Gx}  {st : Sg} {st9 : Sg} (h : X7_findBest st = some st9) : MetV l yX7_findBest cX7_findBest 1 none rm_X7_findBest g nwX (ceX g) [.ref (g.2.1 0)] st st9 :=
  met_of (Qc := fun A => QV g nwX (ceX g) A st9) (by decide) (Nat.le_of_ble_eq_true rfl) (fun p e s m below meth c A ls X Y hl => w_X7_findBest X h Y hl)
def X7_best_29   (k1 : Int32) (x1 : Int32) (x2 : Int32) (st : Sg) : Option (Int32 × Sg) :=
  bnd1 (X7_refusalOf k1 st) fun v2 =>
  if v2 = (0 : Int32) then
    bnd1 (X7_findBest st) fun st5 =>
    cix x1 6 <|
    cix x2 13 <|
    some (st5.1 (18 + (x1).toNatClampNeg) x2.toNatClampNeg, st5)
  else
    some (v2, st)
def X7_best_28   (x1 : Int32) (x2 : Int32) (st : Sg) : Option (Int32 × Sg) :=
  X7_best_29 0 x1 x2 st
def X7_best   (x1 : Int32) (x2 : Int32) (st : Sg) : Option (Int32 × Sg) :=
  bnd1 (X7_isDay x1 st) fun v2 =>
  if v2 = (0 : Int32) then
    X7_best_28 x1 x2 st
  else
    bnd1 (X7_isWithin x2 1 (st.1 1 0)) fun v5 =>
    if v5 = (0 : Int32) then
      X7_best_28 x1 x2 st
    else
      X7_best_29 1 x1 x2 st
abbrev rm_X7_best : Room := { frames := 5, cells := 0, slots := 0, locals := 115 }
set_option maxHeartbeats 4000000 in
set_option maxRecDepth 100000 in
theorem w_X7_best_29 (X : Cx g p s m args meth c cX7_best 4 RX7 (some .int)) {k1 : Int32} {x1 : Int32} {x2 : Int32} {st : Sg} {r9 : Int32} {st9 : Sg}  (h : X7_best_29 k1 x1 x2 st = some (r9, st9)) (Y : Hp g nwX (ceX g) A s.heap st H locs)  (hl : lv_has ls 4 [(0, .ref (g.2.1 0)), (1, .int x1), (2, .int x2)]) : W p l e rm_X7_best s m args below meth c H locs 0 0 (MQ below (QI g nwX (ceX g) A r9 st9) args s 0 0 A) (F0 m 29 ls [.int k1, .ref (g.2.1 0)]) := by
  have hx := X.1
  have hb := X.2.1
  unfold X7_best_29 at h
  obtain ⟨v2, hc1, h⟩ := bnd1_s h
  refine k_cI Y (k_runV (As := [.int k1]) (rest := []) (o := 0) X Y cl_7_136 (c_X7_refusalOf l hc1 _) ⟨rfl, rfl, Nat.le_of_ble_eq_true rfl, Nat.le_of_ble_eq_true rfl⟩ (Nat.le_of_ble_eq_true rfl) rfl rfl hl.1 rfl (Nat.le_of_ble_eq_true rfl) dX7_best_29 ⟨Nat.zero_le _, Nat.zero_le _⟩) (fun H locs Y => ?_)
  refine lv_istore_n (lv' := [(3, .int v2), (0, .ref (g.2.1 0)), (1, .int x1), (2, .int x2)]) hx hb dX7_best_32 rfl hl (by decide) rfl (fun ls hl => ?_)
  refine lv_iload_n hx hb dX7_best_33 rfl (lv_at hl 0 rfl) ?_
  refine lv_if_eq (tgt := 39) hx hb dX7_best_34 (by decide) (fun c3 => ?_) (fun c3 => ?_)
  · have h := ite_t h c3
    refine lv_aload_n hx hb dX7_best_39 rfl (lv_at hl 1 rfl) ?_
    obtain ⟨st5, hc4, h⟩ := bnd1_s h
    refine k_cV Y (k_runV (As := []) (rest := []) (o := 0) X Y cl_7_165 (c_X7_findBest l hc4 _) ⟨rfl, rfl, Nat.le_of_ble_eq_true rfl, Nat.le_of_ble_eq_true rfl⟩ (Nat.le_of_ble_eq_true rfl) rfl rfl hl.1 rfl (Nat.le_of_ble_eq_true rfl) dX7_best_40 ⟨Nat.zero_le _, Nat.zero_le _⟩) (fun H locs Y => ?_)
    refine lv_aload_n hx hb dX7_best_43 rfl (lv_at hl 1 rfl) ?_
    refine k_get (v := .ref (g.2.1 8)) X Y fl_7_23 0 (Nat.le_of_ble_eq_true rfl) rfl rfl dX7_best_44 ?_
    refine k_get (v := .ref (g.2.1 17)) X Y fl_7_168 8 (Nat.le_of_ble_eq_true rfl) rfl rfl dX7_best_47 ?_
    refine lv_iload_n hx hb dX7_best_50 rfl (lv_at hl 2 rfl) ?_
    obtain ⟨i6, h⟩ := cix_s h
    refine k_aaldI (b := 18) X Y 17 (Nat.le_of_ble_eq_true rfl) (fun _ _ => rfl) i6 dX7_best_51 ?_
    refine lv_iload_n hx hb dX7_best_52 rfl (lv_at hl 3 rfl) ?_
    obtain ⟨i7, h⟩ := cix_s h
    refine k_iald X Y (18 + (x1).toNatClampNeg) (row_lt i6 (Nat.le_of_ble_eq_true rfl)) (rowX_18 _ (vp_lt i6)) i7 dX7_best_53 ?_
    exact k_iretW X Y h dX7_best_54
  · have h := ite_f h c3
    refine lv_iload_n hx hb dX7_best_37 rfl (lv_at hl 0 rfl) ?_
    exact k_iretW X Y h dX7_best_38
set_option maxHeartbeats 4000000 in
set_option maxRecDepth 100000 in
theorem w_X7_best_28 (X : Cx g p s m args meth c cX7_best 4 RX7 (some .int)) {x1 : Int32} {x2 : Int32} {st : Sg} {r9 : Int32} {st9 : Sg}  (h : X7_best_28 x1 x2 st = some (r9, st9)) (Y : Hp g nwX (ceX g) A s.heap st H locs)  (hl : lv_has ls 4 [(0, .ref (g.2.1 0)), (1, .int x1), (2, .int x2)]) : W p l e rm_X7_best s m args below meth c H locs 0 0 (MQ below (QI g nwX (ceX g) A r9 st9) args s 0 0 A) (F0 m 28 ls [.ref (g.2.1 0)]) := by
  have hx := X.1
  have hb := X.2.1
  unfold X7_best_28 at h
  refine lv_iconst (v := 0) hx hb dX7_best_28 (by decide) ?_
  exact w_X7_best_29 X  h Y  (lv_sub hl [0, 1, 2] rfl)
set_option maxHeartbeats 4000000 in
set_option maxRecDepth 100000 in
theorem w_X7_best (X : Cx g p s m args meth c cX7_best 4 RX7 (some .int)) {x1 : Int32} {x2 : Int32} {st : Sg} {r9 : Int32} {st9 : Sg}  (h : X7_best x1 x2 st = some (r9, st9)) (Y : Hp g nwX (ceX g) A s.heap st H locs)  (hl : lv_has ls 4 [(0, .ref (g.2.1 0)), (1, .int x1), (2, .int x2)]) : W p l e rm_X7_best s m args below meth c H locs 0 0 (MQ below (QI g nwX (ceX g) A r9 st9) args s 0 0 A) (F0 m 0 ls []) := by
  have hx := X.1
  have hb := X.2.1
  unfold X7_best at h
  refine lv_aload_n hx hb dX7_best_0 rfl (lv_at hl 0 rfl) ?_
  refine lv_aload_n hx hb dX7_best_1 rfl (lv_at hl 0 rfl) ?_
  refine lv_iload_n hx hb dX7_best_2 rfl (lv_at hl 1 rfl) ?_
  obtain ⟨v2, hc1, h⟩ := bnd1_s h
  refine k_cI Y (k_runV (As := [.int x1]) (rest := [.ref (g.2.1 0)]) (o := 0) X Y cl_7_162 (c_X7_isDay l hc1 _) ⟨rfl, rfl, Nat.le_of_ble_eq_true rfl, Nat.le_of_ble_eq_true rfl⟩ (Nat.le_of_ble_eq_true rfl) rfl rfl hl.1 rfl (Nat.le_of_ble_eq_true rfl) dX7_best_3 ⟨Nat.zero_le _, Nat.zero_le _⟩) (fun H locs Y => ?_)
  refine lv_if_eq (tgt := 28) hx hb dX7_best_6 (by decide) (fun c3 => ?_) (fun c3 => ?_)
  · have h := ite_t h c3
    exact w_X7_best_28 X  h Y  (lv_sub hl [0, 1, 2] rfl)
  · have h := ite_f h c3
    refine lv_iload_n hx hb dX7_best_9 rfl (lv_at hl 2 rfl) ?_
    refine lv_iconst (v := 1) hx hb dX7_best_10 (by decide) ?_
    refine lv_aload_n hx hb dX7_best_11 rfl (lv_at hl 0 rfl) ?_
    refine k_get (v := .ref (g.2.1 1)) X Y fl_7_10 0 (Nat.le_of_ble_eq_true rfl) rfl rfl dX7_best_12 ?_
    refine k_get (v := .int (st.1 1 0)) X Y fl_7_85 1 (Nat.le_of_ble_eq_true rfl) rfl rfl dX7_best_15 ?_
    obtain ⟨v5, hc4, h⟩ := bnd1_s h
    refine k_cI Y (k_runS (As := [.int x2, .int 1, .int (st.1 1 0)]) (rest := [.ref (g.2.1 0)]) X Y cl_7_81 (c_X7_isWithin l hc4 _) ⟨rfl, rfl, Nat.le_of_ble_eq_true rfl, Nat.le_of_ble_eq_true rfl⟩ rfl hl.1 rfl (Nat.le_of_ble_eq_true rfl) dX7_best_18 ⟨Nat.zero_le _, Nat.zero_le _⟩) (fun H locs Y => ?_)
    refine lv_if_eq (tgt := 28) hx hb dX7_best_21 (by decide) (fun c6 => ?_) (fun c6 => ?_)
    · have h := ite_t h c6
      exact w_X7_best_28 X  h Y  (lv_sub hl [0, 1, 2] rfl)
    · have h := ite_f h c6
      refine lv_iconst (v := 1) hx hb dX7_best_24 (by decide) ?_
      refine lv_goto (tgt := 29) hx hb dX7_best_25 (by decide) ?_
      exact w_X7_best_29 X  h Y  (lv_sub hl [0, 1, 2] rfl)
theorem c_X7_best (l : Launch) {g : Gx} {x1 : Int32} {x2 : Int32} {st : Sg} {r9 : Int32} {st9 : Sg} (h : X7_best x1 x2 st = some (r9, st9)) : MetI l yX7_best cX7_best 4 (some .int) rm_X7_best g nwX (ceX g) [.ref (g.2.1 0), .int x1, .int x2] st r9 st9 :=
  met_of (Qc := fun A => QI g nwX (ceX g) A r9 st9) (by decide) (Nat.le_of_ble_eq_true rfl) (fun p e s m below meth c A ls X Y hl => w_X7_best X h Y hl)
def X7_isPart_14   (k0 : Int32) : Option Int32 :=
  cb01 k0 <| some k0
def X7_isPart_9    : Option Int32 :=
  X7_isPart_14 1
def X7_isPart   (x0 : Int32) : Option Int32 :=
  if x0 = (0 : Int32) then
    X7_isPart_9
  else
    if x0 = (1 : Int32) then
      X7_isPart_9
    else
      X7_isPart_14 0
abbrev rm_X7_isPart : Room := { frames := 0, cells := 0, slots := 0, locals := 0 }
set_option maxHeartbeats 4000000 in
set_option maxRecDepth 100000 in
theorem w_X7_isPart_14 (X : Cx g p s m args meth c cX7_isPart 1 RX7 (some .boolean)) {k0 : Int32} {st : Sg} {r9 : Int32}  (h : X7_isPart_14 k0 = some r9) (Y : Hp g nwX (ceX g) A s.heap st H locs)  (hl : lv_has ls 1 []) : W p l e rm_X7_isPart s m args below meth c H locs 0 0 (MQ below (QI g nwX (ceX g) A r9 st) args s 0 0 A) (F0 m 14 ls [.int k0]) := by
  have hx := X.1
  have hb := X.2.1
  unfold X7_isPart_14 at h
  obtain ⟨b1, h⟩ := cb01_s h
  exact k_zretR X Y b1 h dX7_isPart_14
set_option maxHeartbeats 4000000 in
set_option maxRecDepth 100000 in
theorem w_X7_isPart_9 (X : Cx g p s m args meth c cX7_isPart 1 RX7 (some .boolean))  {st : Sg} {r9 : Int32}  (h : X7_isPart_9 = some r9) (Y : Hp g nwX (ceX g) A s.heap st H locs)  (hl : lv_has ls 1 []) : W p l e rm_X7_isPart s m args below meth c H locs 0 0 (MQ below (QI g nwX (ceX g) A r9 st) args s 0 0 A) (F0 m 9 ls []) := by
  have hx := X.1
  have hb := X.2.1
  unfold X7_isPart_9 at h
  refine lv_iconst (v := 1) hx hb dX7_isPart_9 (by decide) ?_
  refine lv_goto (tgt := 14) hx hb dX7_isPart_10 (by decide) ?_
  exact w_X7_isPart_14 X  h Y  (lv_sub hl [] rfl)
set_option maxHeartbeats 4000000 in
set_option maxRecDepth 100000 in
theorem w_X7_isPart (X : Cx g p s m args meth c cX7_isPart 1 RX7 (some .boolean)) {x0 : Int32} {st : Sg} {r9 : Int32}  (h : X7_isPart x0 = some r9) (Y : Hp g nwX (ceX g) A s.heap st H locs)  (hl : lv_has ls 1 [(0, .int x0)]) : W p l e rm_X7_isPart s m args below meth c H locs 0 0 (MQ below (QI g nwX (ceX g) A r9 st) args s 0 0 A) (F0 m 0 ls []) := by
  have hx := X.1
  have hb := X.2.1
  unfold X7_isPart at h
  refine lv_iload_n hx hb dX7_isPart_0 rfl (lv_at hl 0 rfl) ?_
  refine lv_if_eq (tgt := 9) hx hb dX7_isPart_1 (by decide) (fun c1 => ?_) (fun c1 => ?_)
  · have h := ite_t h c1
    exact w_X7_isPart_9 X  h Y  (lv_sub hl [] rfl)
  · have h := ite_f h c1
    refine lv_iload_n hx hb dX7_isPart_4 rfl (lv_at hl 0 rfl) ?_
    refine lv_iconst (v := 1) hx hb dX7_isPart_5 (by decide) ?_
    refine lv_icmp_ne (tgt := 13) hx hb dX7_isPart_6 (by decide) (fun c2 => ?_) (fun c2 => ?_)
    · have h := ite_f h c2
      refine lv_iconst (v := 0) hx hb dX7_isPart_13 (by decide) ?_
      exact w_X7_isPart_14 X  h Y  (lv_sub hl [] rfl)
    · have h := ite_t h c2
      exact w_X7_isPart_9 X  h Y  (lv_sub hl [] rfl)
theorem c_X7_isPart (l : Launch) {g : Gx} {x0 : Int32} {st : Sg} {r9 : Int32} (h : X7_isPart x0 = some r9) : MetI l yX7_isPart cX7_isPart 1 (some .boolean) rm_X7_isPart g nwX (ceX g) [.int x0] st r9 st :=
  met_of (Qc := fun A => QI g nwX (ceX g) A r9 st) (by decide) (Nat.le_of_ble_eq_true rfl) (fun p e s m below meth c A ls X Y hl => w_X7_isPart X h Y hl)
def X4_askByRule_41  (rc2 : Int32 → Sg → Option Sg) (x2 : Int32) (x3 : Int32) (st : Sg) : Option Sg :=
  nm (x3 + 1) fun v1 =>
  rc2 v1 st
def X4_askByRule_11b  (rc2 : Int32 → Sg → Option Sg) (rc11 : Int32 → Sg → Option Sg) (x2 : Int32) (x3 : Int32) (x4 : Int32) (st : Sg) : Option Sg :=
  if (12 : Int32) < x4 then
    X4_askByRule_41 rc2 x2 x3 st
  else
    cix x3 6 <|
    bnd1 (X2_numberFor x3 x4 x2 st) fun v4 =>
    cix x4 13 <|
    nm (sI st (35 + (x3).toNatClampNeg) x4.toNatClampNeg v4) fun st6 =>
    nm (x4 + 1) fun v7 =>
    rc11 v7 st6
def X4_askByRule_11  (rc2 : Int32 → Sg → Option Sg) (x2 : Int32) (x3 : Int32) : Nat → Int32 → Sg → Option Sg
  | 0, _, _ => none
  | k + 1, x4, st => X4_askByRule_11b  rc2 (X4_askByRule_11 rc2 x2 x3 k) x2 x3 x4 st
def X4_askByRule_47    (st : Sg) : Option Sg :=
  some st
def X4_askByRule_2b  (rc2 : Int32 → Sg → Option Sg) (x2 : Int32) (x3 : Int32) (st : Sg) : Option Sg :=
  if (6 : Int32) ≤ x3 then
    X4_askByRule_47 st
  else
    X4_askByRule_11 rc2 x2 x3 FU 0 st
def X4_askByRule_2   (x2 : Int32) : Nat → Int32 → Sg → Option Sg
  | 0, _, _ => none
  | k + 1, x3, st => X4_askByRule_2b   (X4_askByRule_2 x2 k) x2 x3 st
def X4_askByRule   (x2 : Int32) (st : Sg) : Option Sg :=
  X4_askByRule_2 x2 FU 0 st
abbrev rm_X4_askByRule : Room := { frames := 2, cells := 0, slots := 0, locals := 47 }
set_option maxHeartbeats 4000000 in
set_option maxRecDepth 100000 in
theorem w_X4_askByRule_41 (X : Cx g p s m args meth c cX4_askByRule 5 RX4 none) {x2 : Int32} {x3 : Int32} {st : Sg} {st9 : Sg} (rc2 : Int32 → Sg → Option Sg) (hrc2 : ∀ (x3 : Int32) (st : Sg) (ls : Array Slot) (H : Heap) (locs : List Loc), rc2 x3 st = some st9 → Hp g nwX (ceX g) A s.heap st H locs → lv_has ls 5 [(0, .ref (g.2.1 25)), (1, .ref (g.2.1 69)), (2, .int x2), (3, .int x3)] → W p l e rm_X4_askByRule s m args below meth c H locs 0 0 (MQ below (QV g nwX (ceX g) A st9) args s 0 0 A) (F0 m 2 ls [])) (h : X4_askByRule_41 rc2 x2 x3 st = some st9) (Y : Hp g nwX (ceX g) A s.heap st H locs)  (hl : lv_has ls 5 [(0, .ref (g.2.1 25)), (1, .ref (g.2.1 69)), (2, .int x2), (3, .int x3)]) : W p l e rm_X4_askByRule s m args below meth c H locs 0 0 (MQ below (QV g nwX (ceX g) A st9) args s 0 0 A) (F0 m 41 ls []) := by
  have hx := X.1
  have hb := X.2.1
  unfold X4_askByRule_41 at h
  obtain ⟨v1, ev1, h⟩ := nm_s h
  refine lv_iinc (v := v1) (lv' := [(3, .int v1), (0, .ref (g.2.1 25)), (1, .ref (g.2.1 69)), (2, .int x2)]) hx hb dX4_askByRule_41 hl (k := 3) rfl (by rw [ev1]; rfl) (by decide) rfl (fun ls hl => ?_)
  refine lv_goto (tgt := 2) hx hb dX4_askByRule_44 (by decide) ?_
  exact hrc2 v1 st _ _ _ h Y (lv_sub hl [1, 2, 3, 0] rfl)
set_option maxHeartbeats 4000000 in
set_option maxRecDepth 100000 in
theorem w_X4_askByRule_11b (X : Cx g p s m args meth c cX4_askByRule 5 RX4 none) {x2 : Int32} {x3 : Int32} {x4 : Int32} {st : Sg} {st9 : Sg} (rc2 : Int32 → Sg → Option Sg) (hrc2 : ∀ (x3 : Int32) (st : Sg) (ls : Array Slot) (H : Heap) (locs : List Loc), rc2 x3 st = some st9 → Hp g nwX (ceX g) A s.heap st H locs → lv_has ls 5 [(0, .ref (g.2.1 25)), (1, .ref (g.2.1 69)), (2, .int x2), (3, .int x3)] → W p l e rm_X4_askByRule s m args below meth c H locs 0 0 (MQ below (QV g nwX (ceX g) A st9) args s 0 0 A) (F0 m 2 ls [])) (rc11 : Int32 → Sg → Option Sg) (hrc11 : ∀ (x4 : Int32) (st : Sg) (ls : Array Slot) (H : Heap) (locs : List Loc), rc11 x4 st = some st9 → Hp g nwX (ceX g) A s.heap st H locs → lv_has ls 5 [(0, .ref (g.2.1 25)), (1, .ref (g.2.1 69)), (2, .int x2), (3, .int x3), (4, .int x4)] → W p l e rm_X4_askByRule s m args below meth c H locs 0 0 (MQ below (QV g nwX (ceX g) A st9) args s 0 0 A) (F0 m 11 ls [])) (h : X4_askByRule_11b rc2 rc11 x2 x3 x4 st = some st9) (Y : Hp g nwX (ceX g) A s.heap st H locs)  (hl : lv_has ls 5 [(0, .ref (g.2.1 25)), (1, .ref (g.2.1 69)), (2, .int x2), (3, .int x3), (4, .int x4)]) : W p l e rm_X4_askByRule s m args below meth c H locs 0 0 (MQ below (QV g nwX (ceX g) A st9) args s 0 0 A) (F0 m 11 ls []) := by
  have hx := X.1
  have hb := X.2.1
  unfold X4_askByRule_11b at h
  refine lv_iload hx hb dX4_askByRule_11 (lv_at hl 4 rfl) ?_
  refine lv_bipush (v := 12) hx hb dX4_askByRule_13 (by decide) ?_
  refine lv_icmp_gt (tgt := 41) hx hb dX4_askByRule_15 (by decide) (fun c1 => ?_) (fun c1 => ?_)
  · have h := ite_t h c1
    exact w_X4_askByRule_41 X rc2 hrc2 h Y  (lv_sub hl [0, 1, 2, 3] rfl)
  · have h := ite_f h c1
    refine lv_aload_n hx hb dX4_askByRule_18 rfl (lv_at hl 0 rfl) ?_
    refine k_get (v := .ref (g.2.1 34)) X Y fl_4_18 25 (Nat.le_of_ble_eq_true rfl) rfl rfl dX4_askByRule_19 ?_
    refine lv_iload_n hx hb dX4_askByRule_22 rfl (lv_at hl 3 rfl) ?_
    obtain ⟨i2, h⟩ := cix_s h
    refine k_aaldI (b := 35) X Y 34 (Nat.le_of_ble_eq_true rfl) (fun _ _ => rfl) i2 dX4_askByRule_23 ?_
    refine lv_iload hx hb dX4_askByRule_24 (lv_at hl 4 rfl) ?_
    refine lv_aload_n hx hb dX4_askByRule_26 rfl (lv_at hl 1 rfl) ?_
    refine lv_iload_n hx hb dX4_askByRule_27 rfl (lv_at hl 3 rfl) ?_
    refine lv_iload hx hb dX4_askByRule_28 (lv_at hl 4 rfl) ?_
    refine lv_iload_n hx hb dX4_askByRule_30 rfl (lv_at hl 2 rfl) ?_
    obtain ⟨v4, hc3, h⟩ := bnd1_s h
    refine k_cI Y (k_runV (As := [.int x3, .int x4, .int x2]) (rest := [.int x4, .ref (g.2.1 (35 + (x3).toNatClampNeg))]) (o := 69) X Y cl_4_25 (c_X2_numberFor l hc3 _) ⟨rfl, rfl, Nat.le_of_ble_eq_true rfl, Nat.le_of_ble_eq_true rfl⟩ (Nat.le_of_ble_eq_true rfl) rfl rfl hl.1 rfl (Nat.le_of_ble_eq_true rfl) dX4_askByRule_31 ⟨Nat.zero_le _, Nat.zero_le _⟩) (fun H locs Y => ?_)
    obtain ⟨i5, h⟩ := cix_s h
    refine k_iast X Y (35 + (x3).toNatClampNeg) (row_lt i2 (Nat.le_of_ble_eq_true rfl)) (rowX_35 _ (vp_lt i2)) i5 dX4_askByRule_34 (fun H locs Y => ?_)
    obtain ⟨st6, est6, h⟩ := nm_s h
    have Y : Hp g nwX (ceX g) A s.heap st6 H locs := by rw [est6]; exact Y
    obtain ⟨v7, ev7, h⟩ := nm_s h
    refine lv_iinc (v := v7) (lv' := [(4, .int v7), (0, .ref (g.2.1 25)), (1, .ref (g.2.1 69)), (2, .int x2), (3, .int x3)]) hx hb dX4_askByRule_35 hl (k := 4) rfl (by rw [ev7]; rfl) (by decide) rfl (fun ls hl => ?_)
    refine lv_goto (tgt := 11) hx hb dX4_askByRule_38 (by decide) ?_
    exact hrc11 v7 st6 _ _ _ h Y (lv_sub hl [1, 2, 3, 4, 0] rfl)
theorem w_X4_askByRule_11 (X : Cx g p s m args meth c cX4_askByRule 5 RX4 none) {x2 : Int32} {x3 : Int32}  {st9 : Sg} (rc2 : Int32 → Sg → Option Sg) (hrc2 : ∀ (x3 : Int32) (st : Sg) (ls : Array Slot) (H : Heap) (locs : List Loc), rc2 x3 st = some st9 → Hp g nwX (ceX g) A s.heap st H locs → lv_has ls 5 [(0, .ref (g.2.1 25)), (1, .ref (g.2.1 69)), (2, .int x2), (3, .int x3)] → W p l e rm_X4_askByRule s m args below meth c H locs 0 0 (MQ below (QV g nwX (ceX g) A st9) args s 0 0 A) (F0 m 2 ls []))  : ∀ (k : Nat) (x4 : Int32) (st : Sg) (ls : Array Slot) (H : Heap) (locs : List Loc), X4_askByRule_11 rc2 x2 x3 k x4 st = some st9 → Hp g nwX (ceX g) A s.heap st H locs → lv_has ls 5 [(0, .ref (g.2.1 25)), (1, .ref (g.2.1 69)), (2, .int x2), (3, .int x3), (4, .int x4)] → W p l e rm_X4_askByRule s m args below meth c H locs 0 0 (MQ below (QV g nwX (ceX g) A st9) args s 0 0 A) (F0 m 11 ls []) := by
  intro k
  induction k with
  | zero =>
    intro x4 st ls H locs h
    exact none_s h
  | succ k ih =>
    intro x4 st ls H locs h Y hl
    exact w_X4_askByRule_11b X rc2 hrc2 (X4_askByRule_11 rc2 x2 x3 k) ih h Y  hl
set_option maxHeartbeats 4000000 in
set_option maxRecDepth 100000 in
theorem w_X4_askByRule_47 (X : Cx g p s m args meth c cX4_askByRule 5 RX4 none)  {st : Sg} {st9 : Sg}  (h : X4_askByRule_47 st = some st9) (Y : Hp g nwX (ceX g) A s.heap st H locs)  (hl : lv_has ls 5 []) : W p l e rm_X4_askByRule s m args below meth c H locs 0 0 (MQ below (QV g nwX (ceX g) A st9) args s 0 0 A) (F0 m 47 ls []) := by
  have hx := X.1
  have hb := X.2.1
  unfold X4_askByRule_47 at h
  exact k_vretW X Y h dX4_askByRule_47
set_option maxHeartbeats 4000000 in
set_option maxRecDepth 100000 in
theorem w_X4_askByRule_2b (X : Cx g p s m args meth c cX4_askByRule 5 RX4 none) {x2 : Int32} {x3 : Int32} {st : Sg} {st9 : Sg} (rc2 : Int32 → Sg → Option Sg) (hrc2 : ∀ (x3 : Int32) (st : Sg) (ls : Array Slot) (H : Heap) (locs : List Loc), rc2 x3 st = some st9 → Hp g nwX (ceX g) A s.heap st H locs → lv_has ls 5 [(0, .ref (g.2.1 25)), (1, .ref (g.2.1 69)), (2, .int x2), (3, .int x3)] → W p l e rm_X4_askByRule s m args below meth c H locs 0 0 (MQ below (QV g nwX (ceX g) A st9) args s 0 0 A) (F0 m 2 ls [])) (h : X4_askByRule_2b rc2 x2 x3 st = some st9) (Y : Hp g nwX (ceX g) A s.heap st H locs)  (hl : lv_has ls 5 [(0, .ref (g.2.1 25)), (1, .ref (g.2.1 69)), (2, .int x2), (3, .int x3)]) : W p l e rm_X4_askByRule s m args below meth c H locs 0 0 (MQ below (QV g nwX (ceX g) A st9) args s 0 0 A) (F0 m 2 ls []) := by
  have hx := X.1
  have hb := X.2.1
  unfold X4_askByRule_2b at h
  refine lv_iload_n hx hb dX4_askByRule_2 rfl (lv_at hl 3 rfl) ?_
  refine lv_bipush (v := 6) hx hb dX4_askByRule_3 (by decide) ?_
  refine lv_icmp_ge (tgt := 47) hx hb dX4_askByRule_5 (by decide) (fun c1 => ?_) (fun c1 => ?_)
  · have h := ite_t h c1
    exact w_X4_askByRule_47 X  h Y  (lv_sub hl [] rfl)
  · have h := ite_f h c1
    refine lv_iconst (v := 0) hx hb dX4_askByRule_8 (by decide) ?_
    refine lv_istore (lv' := [(4, .int 0), (0, .ref (g.2.1 25)), (1, .ref (g.2.1 69)), (2, .int x2), (3, .int x3)]) hx hb dX4_askByRule_9 hl (by decide) rfl (fun ls hl => ?_)
    exact w_X4_askByRule_11 X rc2 hrc2  FU 0 st _ _ _ h Y (lv_sub hl [1, 2, 3, 4, 0] rfl)
theorem w_X4_askByRule_2 (X : Cx g p s m args meth c cX4_askByRule 5 RX4 none) {x2 : Int32}  {st9 : Sg}   : ∀ (k : Nat) (x3 : Int32) (st : Sg) (ls : Array Slot) (H : Heap) (locs : List Loc), X4_askByRule_2 x2 k x3 st = some st9 → Hp g nwX (ceX g) A s.heap st H locs → lv_has ls 5 [(0, .ref (g.2.1 25)), (1, .ref (g.2.1 69)), (2, .int x2), (3, .int x3)] → W p l e rm_X4_askByRule s m args below meth c H locs 0 0 (MQ below (QV g nwX (ceX g) A st9) args s 0 0 A) (F0 m 2 ls []) := by
  intro k
  induction k with
  | zero =>
    intro x3 st ls H locs h
    exact none_s h
  | succ k ih =>
    intro x3 st ls H locs h Y hl
    exact w_X4_askByRule_2b X  (X4_askByRule_2 x2 k) ih h Y  hl
set_option maxHeartbeats 4000000 in
set_option maxRecDepth 100000 in
theorem w_X4_askByRule (X : Cx g p s m args meth c cX4_askByRule 5 RX4 none) {x2 : Int32} {st : Sg} {st9 : Sg}  (h : X4_askByRule x2 st = some st9) (Y : Hp g nwX (ceX g) A s.heap st H locs)  (hl : lv_has ls 5 [(0, .ref (g.2.1 25)), (1, .ref (g.2.1 69)), (2, .int x2)]) : W p l e rm_X4_askByRule s m args below meth c H locs 0 0 (MQ below (QV g nwX (ceX g) A st9) args s 0 0 A) (F0 m 0 ls []) := by
  have hx := X.1
  have hb := X.2.1
  unfold X4_askByRule at h
  refine lv_iconst (v := 0) hx hb dX4_askByRule_0 (by decide) ?_
  refine lv_istore_n (lv' := [(3, .int 0), (0, .ref (g.2.1 25)), (1, .ref (g.2.1 69)), (2, .int x2)]) hx hb dX4_askByRule_1 rfl hl (by decide) rfl (fun ls hl => ?_)
  exact w_X4_askByRule_2 X   FU 0 st _ _ _ h Y (lv_sub hl [1, 2, 3, 0] rfl)
theorem c_X4_askByRule (l : Launch) {g : Gx} {x2 : Int32} {st : Sg} {st9 : Sg} (h : X4_askByRule x2 st = some st9) : MetV l yX4_askByRule cX4_askByRule 5 none rm_X4_askByRule g nwX (ceX g) [.ref (g.2.1 25), .ref (g.2.1 69), .int x2] st st9 :=
  met_of (Qc := fun A => QV g nwX (ceX g) A st9) (by decide) (Nat.le_of_ble_eq_true rfl) (fun p e s m below meth c A ls X Y hl => w_X4_askByRule X h Y hl)
def X4_takeAsked_34  (rc2 : Int32 → Sg → Option Sg) (x1 : Int32) (x2 : Int32) (x3 : Int32) (st : Sg) : Option Sg :=
  nm (x3 + 1) fun v1 =>
  rc2 v1 st
def X4_takeAsked_40    (st : Sg) : Option Sg :=
  some st
def X4_takeAsked_2b  (rc2 : Int32 → Sg → Option Sg) (x1 : Int32) (x2 : Int32) (x3 : Int32) (st : Sg) : Option Sg :=
  if (12 : Int32) < x3 then
    X4_takeAsked_40 st
  else
    cix x1 6 <|
    cix x3 13 <|
    if (st.1 (35 + (x1).toNatClampNeg) x3.toNatClampNeg) = x2 then
      cix x1 7 <|
      cix x3 13 <|
      cix x3 13 <|
      nm (sJ st (27 + (x1).toNatClampNeg) x3.toNatClampNeg (st.2 41 x3.toNatClampNeg)) fun st8 =>
      X4_takeAsked_34 rc2 x1 x2 x3 st8
    else
      X4_takeAsked_34 rc2 x1 x2 x3 st
def X4_takeAsked_2   (x1 : Int32) (x2 : Int32) : Nat → Int32 → Sg → Option Sg
  | 0, _, _ => none
  | k + 1, x3, st => X4_takeAsked_2b   (X4_takeAsked_2 x1 x2 k) x1 x2 x3 st
def X4_takeAsked   (x1 : Int32) (x2 : Int32) (st : Sg) : Option Sg :=
  X4_takeAsked_2 x1 x2 FU 0 st
abbrev rm_X4_takeAsked : Room := { frames := 0, cells := 0, slots := 0, locals := 0 }
set_option maxHeartbeats 4000000 in
set_option maxRecDepth 100000 in
theorem w_X4_takeAsked_34 (X : Cx g p s m args meth c cX4_takeAsked 4 RX4 none) {x1 : Int32} {x2 : Int32} {x3 : Int32} {st : Sg} {st9 : Sg} (rc2 : Int32 → Sg → Option Sg) (hrc2 : ∀ (x3 : Int32) (st : Sg) (ls : Array Slot) (H : Heap) (locs : List Loc), rc2 x3 st = some st9 → Hp g nwX (ceX g) A s.heap st H locs → lv_has ls 4 [(0, .ref (g.2.1 25)), (1, .int x1), (2, .int x2), (3, .int x3)] → W p l e rm_X4_takeAsked s m args below meth c H locs 0 0 (MQ below (QV g nwX (ceX g) A st9) args s 0 0 A) (F0 m 2 ls [])) (h : X4_takeAsked_34 rc2 x1 x2 x3 st = some st9) (Y : Hp g nwX (ceX g) A s.heap st H locs)  (hl : lv_has ls 4 [(0, .ref (g.2.1 25)), (1, .int x1), (2, .int x2), (3, .int x3)]) : W p l e rm_X4_takeAsked s m args below meth c H locs 0 0 (MQ below (QV g nwX (ceX g) A st9) args s 0 0 A) (F0 m 34 ls []) := by
  have hx := X.1
  have hb := X.2.1
  unfold X4_takeAsked_34 at h
  obtain ⟨v1, ev1, h⟩ := nm_s h
  refine lv_iinc (v := v1) (lv' := [(3, .int v1), (0, .ref (g.2.1 25)), (1, .int x1), (2, .int x2)]) hx hb dX4_takeAsked_34 hl (k := 3) rfl (by rw [ev1]; rfl) (by decide) rfl (fun ls hl => ?_)
  refine lv_goto (tgt := 2) hx hb dX4_takeAsked_37 (by decide) ?_
  exact hrc2 v1 st _ _ _ h Y (lv_sub hl [1, 2, 3, 0] rfl)
set_option maxHeartbeats 4000000 in
set_option maxRecDepth 100000 in
theorem w_X4_takeAsked_40 (X : Cx g p s m args meth c cX4_takeAsked 4 RX4 none)  {st : Sg} {st9 : Sg}  (h : X4_takeAsked_40 st = some st9) (Y : Hp g nwX (ceX g) A s.heap st H locs)  (hl : lv_has ls 4 []) : W p l e rm_X4_takeAsked s m args below meth c H locs 0 0 (MQ below (QV g nwX (ceX g) A st9) args s 0 0 A) (F0 m 40 ls []) := by
  have hx := X.1
  have hb := X.2.1
  unfold X4_takeAsked_40 at h
  exact k_vretW X Y h dX4_takeAsked_40
set_option maxHeartbeats 4000000 in
set_option maxRecDepth 100000 in
theorem w_X4_takeAsked_2b (X : Cx g p s m args meth c cX4_takeAsked 4 RX4 none) {x1 : Int32} {x2 : Int32} {x3 : Int32} {st : Sg} {st9 : Sg} (rc2 : Int32 → Sg → Option Sg) (hrc2 : ∀ (x3 : Int32) (st : Sg) (ls : Array Slot) (H : Heap) (locs : List Loc), rc2 x3 st = some st9 → Hp g nwX (ceX g) A s.heap st H locs → lv_has ls 4 [(0, .ref (g.2.1 25)), (1, .int x1), (2, .int x2), (3, .int x3)] → W p l e rm_X4_takeAsked s m args below meth c H locs 0 0 (MQ below (QV g nwX (ceX g) A st9) args s 0 0 A) (F0 m 2 ls [])) (h : X4_takeAsked_2b rc2 x1 x2 x3 st = some st9) (Y : Hp g nwX (ceX g) A s.heap st H locs)  (hl : lv_has ls 4 [(0, .ref (g.2.1 25)), (1, .int x1), (2, .int x2), (3, .int x3)]) : W p l e rm_X4_takeAsked s m args below meth c H locs 0 0 (MQ below (QV g nwX (ceX g) A st9) args s 0 0 A) (F0 m 2 ls []) := by
  have hx := X.1
  have hb := X.2.1
  unfold X4_takeAsked_2b at h
  refine lv_iload_n hx hb dX4_takeAsked_2 rfl (lv_at hl 3 rfl) ?_
  refine lv_bipush (v := 12) hx hb dX4_takeAsked_3 (by decide) ?_
  refine lv_icmp_gt (tgt := 40) hx hb dX4_takeAsked_5 (by decide) (fun c1 => ?_) (fun c1 => ?_)
  · have h := ite_t h c1
    exact w_X4_takeAsked_40 X  h Y  (lv_sub hl [] rfl)
  · have h := ite_f h c1
    refine lv_aload_n hx hb dX4_takeAsked_8 rfl (lv_at hl 0 rfl) ?_
    refine k_get (v := .ref (g.2.1 34)) X Y fl_4_18 25 (Nat.le_of_ble_eq_true rfl) rfl rfl dX4_takeAsked_9 ?_
    refine lv_iload_n hx hb dX4_takeAsked_12 rfl (lv_at hl 1 rfl) ?_
    obtain ⟨i2, h⟩ := cix_s h
    refine k_aaldI (b := 35) X Y 34 (Nat.le_of_ble_eq_true rfl) (fun _ _ => rfl) i2 dX4_takeAsked_13 ?_
    refine lv_iload_n hx hb dX4_takeAsked_14 rfl (lv_at hl 3 rfl) ?_
    obtain ⟨i3, h⟩ := cix_s h
    refine k_iald X Y (35 + (x1).toNatClampNeg) (row_lt i2 (Nat.le_of_ble_eq_true rfl)) (rowX_35 _ (vp_lt i2)) i3 dX4_takeAsked_15 ?_
    refine lv_iload_n hx hb dX4_takeAsked_16 rfl (lv_at hl 2 rfl) ?_
    refine lv_icmp_ne (tgt := 34) hx hb dX4_takeAsked_17 (by decide) (fun c4 => ?_) (fun c4 => ?_)
    · have h := ite_f h c4
      exact w_X4_takeAsked_34 X rc2 hrc2 h Y  (lv_sub hl [0, 1, 2, 3] rfl)
    · have h := ite_t h c4
      refine lv_aload_n hx hb dX4_takeAsked_20 rfl (lv_at hl 0 rfl) ?_
      refine k_get (v := .ref (g.2.1 26)) X Y fl_4_11 25 (Nat.le_of_ble_eq_true rfl) rfl rfl dX4_takeAsked_21 ?_
      refine lv_iload_n hx hb dX4_takeAsked_24 rfl (lv_at hl 1 rfl) ?_
      obtain ⟨i5, h⟩ := cix_s h
      refine k_aaldJ (b := 27) X Y 26 (Nat.le_of_ble_eq_true rfl) (fun _ _ => rfl) i5 dX4_takeAsked_25 ?_
      refine lv_iload_n hx hb dX4_takeAsked_26 rfl (lv_at hl 3 rfl) ?_
      refine lv_aload_n hx hb dX4_takeAsked_27 rfl (lv_at hl 0 rfl) ?_
      refine k_get (v := .ref (g.2.1 41)) X Y fl_4_21 25 (Nat.le_of_ble_eq_true rfl) rfl rfl dX4_takeAsked_28 ?_
      refine lv_iload_n hx hb dX4_takeAsked_31 rfl (lv_at hl 3 rfl) ?_
      obtain ⟨i6, h⟩ := cix_s h
      refine k_lald X Y 41 (Nat.le_of_ble_eq_true rfl) (fun _ _ => rfl) i6 dX4_takeAsked_32 ?_
      obtain ⟨i7, h⟩ := cix_s h
      refine k_last X Y (27 + (x1).toNatClampNeg) (row_lt i5 (Nat.le_of_ble_eq_true rfl)) (rowX_27 _ (vp_lt i5)) i7 dX4_takeAsked_33 (fun H locs Y => ?_)
      obtain ⟨st8, est8, h⟩ := nm_s h
      have Y : Hp g nwX (ceX g) A s.heap st8 H locs := by rw [est8]; exact Y
      exact w_X4_takeAsked_34 X rc2 hrc2 h Y  (lv_sub hl [0, 1, 2, 3] rfl)
theorem w_X4_takeAsked_2 (X : Cx g p s m args meth c cX4_takeAsked 4 RX4 none) {x1 : Int32} {x2 : Int32}  {st9 : Sg}   : ∀ (k : Nat) (x3 : Int32) (st : Sg) (ls : Array Slot) (H : Heap) (locs : List Loc), X4_takeAsked_2 x1 x2 k x3 st = some st9 → Hp g nwX (ceX g) A s.heap st H locs → lv_has ls 4 [(0, .ref (g.2.1 25)), (1, .int x1), (2, .int x2), (3, .int x3)] → W p l e rm_X4_takeAsked s m args below meth c H locs 0 0 (MQ below (QV g nwX (ceX g) A st9) args s 0 0 A) (F0 m 2 ls []) := by
  intro k
  induction k with
  | zero =>
    intro x3 st ls H locs h
    exact none_s h
  | succ k ih =>
    intro x3 st ls H locs h Y hl
    exact w_X4_takeAsked_2b X  (X4_takeAsked_2 x1 x2 k) ih h Y  hl
set_option maxHeartbeats 4000000 in
set_option maxRecDepth 100000 in
theorem w_X4_takeAsked (X : Cx g p s m args meth c cX4_takeAsked 4 RX4 none) {x1 : Int32} {x2 : Int32} {st : Sg} {st9 : Sg}  (h : X4_takeAsked x1 x2 st = some st9) (Y : Hp g nwX (ceX g) A s.heap st H locs)  (hl : lv_has ls 4 [(0, .ref (g.2.1 25)), (1, .int x1), (2, .int x2)]) : W p l e rm_X4_takeAsked s m args below meth c H locs 0 0 (MQ below (QV g nwX (ceX g) A st9) args s 0 0 A) (F0 m 0 ls []) := by
  have hx := X.1
  have hb := X.2.1
  unfold X4_takeAsked at h
  refine lv_iconst (v := 0) hx hb dX4_takeAsked_0 (by decide) ?_
  refine lv_istore_n (lv' := [(3, .int 0), (0, .ref (g.2.1 25)), (1, .int x1), (2, .int x2)]) hx hb dX4_takeAsked_1 rfl hl (by decide) rfl (fun ls hl => ?_)
  exact w_X4_takeAsked_2 X   FU 0 st _ _ _ h Y (lv_sub hl [1, 2, 3, 0] rfl)
theorem c_X4_takeAsked (l : Launch) {g : Gx} {x1 : Int32} {x2 : Int32} {st : Sg} {st9 : Sg} (h : X4_takeAsked x1 x2 st = some st9) : MetV l yX4_takeAsked cX4_takeAsked 4 none rm_X4_takeAsked g nwX (ceX g) [.ref (g.2.1 25), .int x1, .int x2] st st9 :=
  met_of (Qc := fun A => QV g nwX (ceX g) A st9) (by decide) (Nat.le_of_ble_eq_true rfl) (fun p e s m below meth c A ls X Y hl => w_X4_takeAsked X h Y hl)
def X4_fillAsked_45  (rc12 : Int32 → Sg → Option Sg) (x2 : Int32) (st : Sg) : Option Sg :=
  nm (x2 + (-1)) fun v1 =>
  rc12 v1 st
def X4_fillAsked_18b  (rc12 : Int32 → Sg → Option Sg) (rc18 : Int32 → Sg → Option Sg) (x2 : Int32) (x3 : Int32) (st : Sg) : Option Sg :=
  if (st.1 1 4) ≤ x3 then
    X4_fillAsked_45 rc12 x2 st
  else
    bnd1 (X4_rowFor 25 x2 x3 st) fun st3 =>
    bnd1 (X4_takeAsked x2 x3 st3) fun st5 =>
    nm (x3 + 1) fun v6 =>
    rc18 v6 st5
def X4_fillAsked_18  (rc12 : Int32 → Sg → Option Sg) (x2 : Int32) : Nat → Int32 → Sg → Option Sg
  | 0, _, _ => none
  | k + 1, x3, st => X4_fillAsked_18b  rc12 (X4_fillAsked_18 rc12 x2 k) x2 x3 st
def X4_fillAsked_51    (st : Sg) : Option Sg :=
  some st
def X4_fillAsked_12b  (rc12 : Int32 → Sg → Option Sg) (x2 : Int32) (st : Sg) : Option Sg :=
  if x2 < (0 : Int32) then
    X4_fillAsked_51 st
  else
    X4_fillAsked_18 rc12 x2 FU 0 st
def X4_fillAsked_12    : Nat → Int32 → Sg → Option Sg
  | 0, _, _ => none
  | k + 1, x2, st => X4_fillAsked_12b   (X4_fillAsked_12 k) x2 st
def X4_fillAsked    (st : Sg) : Option Sg :=
  bnd1 (X4_fillEnd 25 st) fun st2 =>
  nm ((st2.1 1 1) - 1) fun v3 =>
  X4_fillAsked_12 FU v3 st2
abbrev rm_X4_fillAsked : Room := { frames := 3, cells := 0, slots := 0, locals := 72 }
set_option maxHeartbeats 4000000 in
set_option maxRecDepth 100000 in
theorem w_X4_fillAsked_45 (X : Cx g p s m args meth c cX4_fillAsked 4 RX4 none) {x2 : Int32} {st : Sg} {st9 : Sg} (rc12 : Int32 → Sg → Option Sg) (hrc12 : ∀ (x2 : Int32) (st : Sg) (ls : Array Slot) (H : Heap) (locs : List Loc), rc12 x2 st = some st9 → Hp g nwX (ceX g) A s.heap st H locs → lv_has ls 4 [(0, .ref (g.2.1 25)), (1, .ref (g.2.1 1)), (2, .int x2)] → W p l e rm_X4_fillAsked s m args below meth c H locs 0 0 (MQ below (QV g nwX (ceX g) A st9) args s 0 0 A) (F0 m 12 ls [])) (h : X4_fillAsked_45 rc12 x2 st = some st9) (Y : Hp g nwX (ceX g) A s.heap st H locs)  (hl : lv_has ls 4 [(0, .ref (g.2.1 25)), (1, .ref (g.2.1 1)), (2, .int x2)]) : W p l e rm_X4_fillAsked s m args below meth c H locs 0 0 (MQ below (QV g nwX (ceX g) A st9) args s 0 0 A) (F0 m 45 ls []) := by
  have hx := X.1
  have hb := X.2.1
  unfold X4_fillAsked_45 at h
  obtain ⟨v1, ev1, h⟩ := nm_s h
  refine lv_iinc (v := v1) (lv' := [(2, .int v1), (0, .ref (g.2.1 25)), (1, .ref (g.2.1 1))]) hx hb dX4_fillAsked_45 hl (k := 2) rfl (by rw [ev1]; rfl) (by decide) rfl (fun ls hl => ?_)
  refine lv_goto (tgt := 12) hx hb dX4_fillAsked_48 (by decide) ?_
  exact hrc12 v1 st _ _ _ h Y (lv_sub hl [1, 2, 0] rfl)
set_option maxHeartbeats 4000000 in
set_option maxRecDepth 100000 in
theorem w_X4_fillAsked_18b (X : Cx g p s m args meth c cX4_fillAsked 4 RX4 none) {x2 : Int32} {x3 : Int32} {st : Sg} {st9 : Sg} (rc12 : Int32 → Sg → Option Sg) (hrc12 : ∀ (x2 : Int32) (st : Sg) (ls : Array Slot) (H : Heap) (locs : List Loc), rc12 x2 st = some st9 → Hp g nwX (ceX g) A s.heap st H locs → lv_has ls 4 [(0, .ref (g.2.1 25)), (1, .ref (g.2.1 1)), (2, .int x2)] → W p l e rm_X4_fillAsked s m args below meth c H locs 0 0 (MQ below (QV g nwX (ceX g) A st9) args s 0 0 A) (F0 m 12 ls [])) (rc18 : Int32 → Sg → Option Sg) (hrc18 : ∀ (x3 : Int32) (st : Sg) (ls : Array Slot) (H : Heap) (locs : List Loc), rc18 x3 st = some st9 → Hp g nwX (ceX g) A s.heap st H locs → lv_has ls 4 [(0, .ref (g.2.1 25)), (1, .ref (g.2.1 1)), (2, .int x2), (3, .int x3)] → W p l e rm_X4_fillAsked s m args below meth c H locs 0 0 (MQ below (QV g nwX (ceX g) A st9) args s 0 0 A) (F0 m 18 ls [])) (h : X4_fillAsked_18b rc12 rc18 x2 x3 st = some st9) (Y : Hp g nwX (ceX g) A s.heap st H locs)  (hl : lv_has ls 4 [(0, .ref (g.2.1 25)), (1, .ref (g.2.1 1)), (2, .int x2), (3, .int x3)]) : W p l e rm_X4_fillAsked s m args below meth c H locs 0 0 (MQ below (QV g nwX (ceX g) A st9) args s 0 0 A) (F0 m 18 ls []) := by
  have hx := X.1
  have hb := X.2.1
  unfold X4_fillAsked_18b at h
  refine lv_iload_n hx hb dX4_fillAsked_18 rfl (lv_at hl 3 rfl) ?_
  refine lv_aload_n hx hb dX4_fillAsked_19 rfl (lv_at hl 1 rfl) ?_
  refine k_get (v := .int (st.1 1 4)) X Y fl_4_41 1 (Nat.le_of_ble_eq_true rfl) rfl rfl dX4_fillAsked_20 ?_
  refine lv_icmp_ge (tgt := 45) hx hb dX4_fillAsked_23 (by decide) (fun c1 => ?_) (fun c1 => ?_)
  · have h := ite_t h c1
    exact w_X4_fillAsked_45 X rc12 hrc12 h Y  (lv_sub hl [0, 1, 2] rfl)
  · have h := ite_f h c1
    refine lv_aload_n hx hb dX4_fillAsked_26 rfl (lv_at hl 0 rfl) ?_
    refine lv_aload_n hx hb dX4_fillAsked_27 rfl (lv_at hl 1 rfl) ?_
    refine lv_iload_n hx hb dX4_fillAsked_28 rfl (lv_at hl 2 rfl) ?_
    refine lv_iload_n hx hb dX4_fillAsked_29 rfl (lv_at hl 3 rfl) ?_
    obtain ⟨st3, hc2, h⟩ := bnd1_s h
    refine k_cV Y (k_runV (As := [.ref (g.2.1 1), .int x2, .int x3]) (rest := []) (o := 25) X Y cl_4_44 (c_X4_rowFor_25 l hc2 _) ⟨rfl, rfl, Nat.le_of_ble_eq_true rfl, Nat.le_of_ble_eq_true rfl⟩ (Nat.le_of_ble_eq_true rfl) rfl rfl hl.1 rfl (Nat.le_of_ble_eq_true rfl) dX4_fillAsked_30 ⟨Nat.zero_le _, Nat.zero_le _⟩) (fun H locs Y => ?_)
    refine lv_aload_n hx hb dX4_fillAsked_33 rfl (lv_at hl 0 rfl) ?_
    refine lv_iload_n hx hb dX4_fillAsked_34 rfl (lv_at hl 2 rfl) ?_
    refine lv_iload_n hx hb dX4_fillAsked_35 rfl (lv_at hl 3 rfl) ?_
    obtain ⟨st5, hc4, h⟩ := bnd1_s h
    refine k_cV Y (k_runV (As := [.int x2, .int x3]) (rest := []) (o := 25) X Y cl_4_48 (c_X4_takeAsked l hc4 _) ⟨rfl, rfl, Nat.le_of_ble_eq_true rfl, Nat.le_of_ble_eq_true rfl⟩ (Nat.le_of_ble_eq_true rfl) rfl rfl hl.1 rfl (Nat.le_of_ble_eq_true rfl) dX4_fillAsked_36 ⟨Nat.zero_le _, Nat.zero_le _⟩) (fun H locs Y => ?_)
    obtain ⟨v6, ev6, h⟩ := nm_s h
    refine lv_iinc (v := v6) (lv' := [(3, .int v6), (0, .ref (g.2.1 25)), (1, .ref (g.2.1 1)), (2, .int x2)]) hx hb dX4_fillAsked_39 hl (k := 3) rfl (by rw [ev6]; rfl) (by decide) rfl (fun ls hl => ?_)
    refine lv_goto (tgt := 18) hx hb dX4_fillAsked_42 (by decide) ?_
    exact hrc18 v6 st5 _ _ _ h Y (lv_sub hl [1, 2, 3, 0] rfl)
theorem w_X4_fillAsked_18 (X : Cx g p s m args meth c cX4_fillAsked 4 RX4 none) {x2 : Int32}  {st9 : Sg} (rc12 : Int32 → Sg → Option Sg) (hrc12 : ∀ (x2 : Int32) (st : Sg) (ls : Array Slot) (H : Heap) (locs : List Loc), rc12 x2 st = some st9 → Hp g nwX (ceX g) A s.heap st H locs → lv_has ls 4 [(0, .ref (g.2.1 25)), (1, .ref (g.2.1 1)), (2, .int x2)] → W p l e rm_X4_fillAsked s m args below meth c H locs 0 0 (MQ below (QV g nwX (ceX g) A st9) args s 0 0 A) (F0 m 12 ls []))  : ∀ (k : Nat) (x3 : Int32) (st : Sg) (ls : Array Slot) (H : Heap) (locs : List Loc), X4_fillAsked_18 rc12 x2 k x3 st = some st9 → Hp g nwX (ceX g) A s.heap st H locs → lv_has ls 4 [(0, .ref (g.2.1 25)), (1, .ref (g.2.1 1)), (2, .int x2), (3, .int x3)] → W p l e rm_X4_fillAsked s m args below meth c H locs 0 0 (MQ below (QV g nwX (ceX g) A st9) args s 0 0 A) (F0 m 18 ls []) := by
  intro k
  induction k with
  | zero =>
    intro x3 st ls H locs h
    exact none_s h
  | succ k ih =>
    intro x3 st ls H locs h Y hl
    exact w_X4_fillAsked_18b X rc12 hrc12 (X4_fillAsked_18 rc12 x2 k) ih h Y  hl
set_option maxHeartbeats 4000000 in
set_option maxRecDepth 100000 in
theorem w_X4_fillAsked_51 (X : Cx g p s m args meth c cX4_fillAsked 4 RX4 none)  {st : Sg} {st9 : Sg}  (h : X4_fillAsked_51 st = some st9) (Y : Hp g nwX (ceX g) A s.heap st H locs)  (hl : lv_has ls 4 []) : W p l e rm_X4_fillAsked s m args below meth c H locs 0 0 (MQ below (QV g nwX (ceX g) A st9) args s 0 0 A) (F0 m 51 ls []) := by
  have hx := X.1
  have hb := X.2.1
  unfold X4_fillAsked_51 at h
  exact k_vretW X Y h dX4_fillAsked_51
set_option maxHeartbeats 4000000 in
set_option maxRecDepth 100000 in
theorem w_X4_fillAsked_12b (X : Cx g p s m args meth c cX4_fillAsked 4 RX4 none) {x2 : Int32} {st : Sg} {st9 : Sg} (rc12 : Int32 → Sg → Option Sg) (hrc12 : ∀ (x2 : Int32) (st : Sg) (ls : Array Slot) (H : Heap) (locs : List Loc), rc12 x2 st = some st9 → Hp g nwX (ceX g) A s.heap st H locs → lv_has ls 4 [(0, .ref (g.2.1 25)), (1, .ref (g.2.1 1)), (2, .int x2)] → W p l e rm_X4_fillAsked s m args below meth c H locs 0 0 (MQ below (QV g nwX (ceX g) A st9) args s 0 0 A) (F0 m 12 ls [])) (h : X4_fillAsked_12b rc12 x2 st = some st9) (Y : Hp g nwX (ceX g) A s.heap st H locs)  (hl : lv_has ls 4 [(0, .ref (g.2.1 25)), (1, .ref (g.2.1 1)), (2, .int x2)]) : W p l e rm_X4_fillAsked s m args below meth c H locs 0 0 (MQ below (QV g nwX (ceX g) A st9) args s 0 0 A) (F0 m 12 ls []) := by
  have hx := X.1
  have hb := X.2.1
  unfold X4_fillAsked_12b at h
  refine lv_iload_n hx hb dX4_fillAsked_12 rfl (lv_at hl 2 rfl) ?_
  refine lv_if_lt (tgt := 51) hx hb dX4_fillAsked_13 (by decide) (fun c1 => ?_) (fun c1 => ?_)
  · have h := ite_t h c1
    exact w_X4_fillAsked_51 X  h Y  (lv_sub hl [] rfl)
  · have h := ite_f h c1
    refine lv_iconst (v := 0) hx hb dX4_fillAsked_16 (by decide) ?_
    refine lv_istore_n (lv' := [(3, .int 0), (0, .ref (g.2.1 25)), (1, .ref (g.2.1 1)), (2, .int x2)]) hx hb dX4_fillAsked_17 rfl hl (by decide) rfl (fun ls hl => ?_)
    exact w_X4_fillAsked_18 X rc12 hrc12  FU 0 st _ _ _ h Y (lv_sub hl [1, 2, 3, 0] rfl)
theorem w_X4_fillAsked_12 (X : Cx g p s m args meth c cX4_fillAsked 4 RX4 none)   {st9 : Sg}   : ∀ (k : Nat) (x2 : Int32) (st : Sg) (ls : Array Slot) (H : Heap) (locs : List Loc), X4_fillAsked_12 k x2 st = some st9 → Hp g nwX (ceX g) A s.heap st H locs → lv_has ls 4 [(0, .ref (g.2.1 25)), (1, .ref (g.2.1 1)), (2, .int x2)] → W p l e rm_X4_fillAsked s m args below meth c H locs 0 0 (MQ below (QV g nwX (ceX g) A st9) args s 0 0 A) (F0 m 12 ls []) := by
  intro k
  induction k with
  | zero =>
    intro x2 st ls H locs h
    exact none_s h
  | succ k ih =>
    intro x2 st ls H locs h Y hl
    exact w_X4_fillAsked_12b X  (X4_fillAsked_12 k) ih h Y  hl
set_option maxHeartbeats 4000000 in
set_option maxRecDepth 100000 in
theorem w_X4_fillAsked (X : Cx g p s m args meth c cX4_fillAsked 4 RX4 none)  {st : Sg} {st9 : Sg}  (h : X4_fillAsked st = some st9) (Y : Hp g nwX (ceX g) A s.heap st H locs)  (hl : lv_has ls 4 [(0, .ref (g.2.1 25)), (1, .ref (g.2.1 1))]) : W p l e rm_X4_fillAsked s m args below meth c H locs 0 0 (MQ below (QV g nwX (ceX g) A st9) args s 0 0 A) (F0 m 0 ls []) := by
  have hx := X.1
  have hb := X.2.1
  unfold X4_fillAsked at h
  refine lv_aload_n hx hb dX4_fillAsked_0 rfl (lv_at hl 0 rfl) ?_
  refine lv_aload_n hx hb dX4_fillAsked_1 rfl (lv_at hl 1 rfl) ?_
  obtain ⟨st2, hc1, h⟩ := bnd1_s h
  refine k_cV Y (k_runV (As := [.ref (g.2.1 1)]) (rest := []) (o := 25) X Y cl_4_31 (c_X4_fillEnd_25 l hc1 _) ⟨rfl, rfl, Nat.le_of_ble_eq_true rfl, Nat.le_of_ble_eq_true rfl⟩ (Nat.le_of_ble_eq_true rfl) rfl rfl hl.1 rfl (Nat.le_of_ble_eq_true rfl) dX4_fillAsked_2 ⟨Nat.zero_le _, Nat.zero_le _⟩) (fun H locs Y => ?_)
  refine lv_aload_n hx hb dX4_fillAsked_5 rfl (lv_at hl 1 rfl) ?_
  refine k_get (v := .int (st2.1 1 1)) X Y fl_4_35 1 (Nat.le_of_ble_eq_true rfl) rfl rfl dX4_fillAsked_6 ?_
  refine lv_iconst (v := 1) hx hb dX4_fillAsked_9 (by decide) ?_
  refine lv_isub hx hb dX4_fillAsked_10 ?_
  obtain ⟨v3, ev3, h⟩ := nm_s h
  refine k_nmI ev3 ?_
  refine lv_istore_n (lv' := [(2, .int v3), (0, .ref (g.2.1 25)), (1, .ref (g.2.1 1))]) hx hb dX4_fillAsked_11 rfl hl (by decide) rfl (fun ls hl => ?_)
  exact w_X4_fillAsked_12 X   FU v3 st2 _ _ _ h Y (lv_sub hl [1, 2, 0] rfl)
theorem c_X4_fillAsked (l : Launch) {g : Gx}  {st : Sg} {st9 : Sg} (h : X4_fillAsked st = some st9) : MetV l yX4_fillAsked cX4_fillAsked 4 none rm_X4_fillAsked g nwX (ceX g) [.ref (g.2.1 25), .ref (g.2.1 1)] st st9 :=
  met_of (Qc := fun A => QV g nwX (ceX g) A st9) (by decide) (Nat.le_of_ble_eq_true rfl) (fun p e s m below meth c A ls X Y hl => w_X4_fillAsked X h Y hl)
def X7_findBoy    (st : Sg) : Option Sg :=
  bnd1 (X4_askByRule (st.1 1 4) st) fun st2 =>
  bnd1 (X4_fillAsked st2) fun st4 =>
  some st4
abbrev rm_X7_findBoy : Room := { frames := 4, cells := 0, slots := 0, locals := 95 }
set_option maxHeartbeats 4000000 in
set_option maxRecDepth 100000 in
theorem w_X7_findBoy (X : Cx g p s m args meth c cX7_findBoy 1 RX7 none)  {st : Sg} {st9 : Sg}  (h : X7_findBoy st = some st9) (Y : Hp g nwX (ceX g) A s.heap st H locs)  (hl : lv_has ls 1 [(0, .ref (g.2.1 0))]) : W p l e rm_X7_findBoy s m args below meth c H locs 0 0 (MQ below (QV g nwX (ceX g) A st9) args s 0 0 A) (F0 m 0 ls []) := by
  have hx := X.1
  have hb := X.2.1
  unfold X7_findBoy at h
  refine lv_aload_n hx hb dX7_findBoy_0 rfl (lv_at hl 0 rfl) ?_
  refine k_get (v := .ref (g.2.1 25)) X Y fl_7_27 0 (Nat.le_of_ble_eq_true rfl) rfl rfl dX7_findBoy_1 ?_
  refine lv_aload_n hx hb dX7_findBoy_4 rfl (lv_at hl 0 rfl) ?_
  refine k_get (v := .ref (g.2.1 69)) X Y fl_7_67 0 (Nat.le_of_ble_eq_true rfl) rfl rfl dX7_findBoy_5 ?_
  refine lv_aload_n hx hb dX7_findBoy_8 rfl (lv_at hl 0 rfl) ?_
  refine k_get (v := .ref (g.2.1 1)) X Y fl_7_10 0 (Nat.le_of_ble_eq_true rfl) rfl rfl dX7_findBoy_9 ?_
  refine k_get (v := .int (st.1 1 4)) X Y fl_7_97 1 (Nat.le_of_ble_eq_true rfl) rfl rfl dX7_findBoy_12 ?_
  obtain ⟨st2, hc1, h⟩ := bnd1_s h
  refine k_cV Y (k_runV (As := [.ref (g.2.1 69), .int (st.1 1 4)]) (rest := []) (o := 25) X Y cl_7_262 (c_X4_askByRule l hc1 _) ⟨rfl, rfl, Nat.le_of_ble_eq_true rfl, Nat.le_of_ble_eq_true rfl⟩ (Nat.le_of_ble_eq_true rfl) rfl rfl hl.1 rfl (Nat.le_of_ble_eq_true rfl) dX7_findBoy_15 ⟨Nat.zero_le _, Nat.zero_le _⟩) (fun H locs Y => ?_)
  refine lv_aload_n hx hb dX7_findBoy_18 rfl (lv_at hl 0 rfl) ?_
  refine k_get (v := .ref (g.2.1 25)) X Y fl_7_27 0 (Nat.le_of_ble_eq_true rfl) rfl rfl dX7_findBoy_19 ?_
  refine lv_aload_n hx hb dX7_findBoy_22 rfl (lv_at hl 0 rfl) ?_
  refine k_get (v := .ref (g.2.1 1)) X Y fl_7_10 0 (Nat.le_of_ble_eq_true rfl) rfl rfl dX7_findBoy_23 ?_
  obtain ⟨st4, hc3, h⟩ := bnd1_s h
  refine k_cV Y (k_runV (As := [.ref (g.2.1 1)]) (rest := []) (o := 25) X Y cl_7_192 (c_X4_fillAsked l hc3 _) ⟨rfl, rfl, Nat.le_of_ble_eq_true rfl, Nat.le_of_ble_eq_true rfl⟩ (Nat.le_of_ble_eq_true rfl) rfl rfl hl.1 rfl (Nat.le_of_ble_eq_true rfl) dX7_findBoy_26 ⟨Nat.zero_le _, Nat.zero_le _⟩) (fun H locs Y => ?_)
  exact k_vretW X Y h dX7_findBoy_29
theorem c_X7_findBoy (l : Launch) {g : Gx}  {st : Sg} {st9 : Sg} (h : X7_findBoy st = some st9) : MetV l yX7_findBoy cX7_findBoy 1 none rm_X7_findBoy g nwX (ceX g) [.ref (g.2.1 0)] st st9 :=
  met_of (Qc := fun A => QV g nwX (ceX g) A st9) (by decide) (Nat.le_of_ble_eq_true rfl) (fun p e s m below meth c A ls X Y hl => w_X7_findBoy X h Y hl)
def X7_partOf_64   (k0 : Int64) : Option Int64 :=
  some k0
def X7_partOf_52   (x4 : Int32) (x5 : Int64) (x7 : Int64) : Option Int64 :=
  if x4 = (0 : Int32) then
    X7_partOf_64 x5
  else
    X7_partOf_64 x7
def X7_partOf_9b  (rc9 : Int64 → Int64 → Int32 → Option Int64) (x4 : Int32) (x5 : Int64) (x7 : Int64) (x9 : Int32) : Option Int64 :=
  if (64 : Int32) ≤ x9 then
    X7_partOf_52 x4 x5 x7
  else
    if (lg_cmp (x5 &&& 1) 0) = (0 : Int32) then
      if (lg_cmp (x7 &&& 1) 0) = (0 : Int32) then
        nm (x5 >>> ((1 : Int32).toInt64 &&& 63)) fun v4 =>
        nm (x7 >>> ((1 : Int32).toInt64 &&& 63)) fun v5 =>
        nm (x9 + 1) fun v6 =>
        rc9 v4 v5 v6
      else
        X7_partOf_52 x4 x5 x7
    else
      X7_partOf_52 x4 x5 x7
def X7_partOf_9   (x4 : Int32) : Nat → Int64 → Int64 → Int32 → Option Int64
  | 0, _, _, _ => none
  | k + 1, x5, x7, x9 => X7_partOf_9b   (X7_partOf_9 x4 k) x4 x5 x7 x9
def X7_partOf   (x0 : Int64) (x2 : Int64) (x4 : Int32) : Option Int64 :=
  X7_partOf_9 x4 FU x0 x2 0
abbrev rm_X7_partOf : Room := { frames := 0, cells := 0, slots := 0, locals := 0 }
set_option maxHeartbeats 4000000 in
set_option maxRecDepth 100000 in
theorem w_X7_partOf_64 (X : Cx g p s m args meth c cX7_partOf 10 RX7 (some .long)) {k0 : Int64} {st : Sg} {r9 : Int64}  (h : X7_partOf_64 k0 = some r9) (Y : Hp g nwX (ceX g) A s.heap st H locs)  (hl : lv_has ls 10 []) : W p l e rm_X7_partOf s m args below meth c H locs 0 0 (MQ below (QJ g nwX (ceX g) A r9 st) args s 0 0 A) (F0 m 64 ls [.long k0]) := by
  have hx := X.1
  have hb := X.2.1
  unfold X7_partOf_64 at h
  exact k_lretR X Y h dX7_partOf_64
set_option maxHeartbeats 4000000 in
set_option maxRecDepth 100000 in
theorem w_X7_partOf_52 (X : Cx g p s m args meth c cX7_partOf 10 RX7 (some .long)) {x4 : Int32} {x5 : Int64} {x7 : Int64} {st : Sg} {r9 : Int64}  (h : X7_partOf_52 x4 x5 x7 = some r9) (Y : Hp g nwX (ceX g) A s.heap st H locs)  (hl : lv_has ls 10 [(4, .int x4), (5, .long x5), (7, .long x7)]) : W p l e rm_X7_partOf s m args below meth c H locs 0 0 (MQ below (QJ g nwX (ceX g) A r9 st) args s 0 0 A) (F0 m 52 ls []) := by
  have hx := X.1
  have hb := X.2.1
  unfold X7_partOf_52 at h
  refine lv_iload hx hb dX7_partOf_52 (lv_at hl 0 rfl) ?_
  refine lv_if_ne (tgt := 62) hx hb dX7_partOf_54 (by decide) (fun c1 => ?_) (fun c1 => ?_)
  · have h := ite_f h c1
    refine lv_lload hx hb dX7_partOf_62 (lv_at hl 2 rfl) ?_
    exact w_X7_partOf_64 X  h Y  (lv_sub hl [] rfl)
  · have h := ite_t h c1
    refine lv_lload hx hb dX7_partOf_57 (lv_at hl 1 rfl) ?_
    refine lv_goto (tgt := 64) hx hb dX7_partOf_59 (by decide) ?_
    exact w_X7_partOf_64 X  h Y  (lv_sub hl [] rfl)
set_option maxHeartbeats 4000000 in
set_option maxRecDepth 100000 in
theorem w_X7_partOf_9b (X : Cx g p s m args meth c cX7_partOf 10 RX7 (some .long)) {x4 : Int32} {x5 : Int64} {x7 : Int64} {x9 : Int32} {st : Sg} {r9 : Int64} (rc9 : Int64 → Int64 → Int32 → Option Int64) (hrc9 : ∀ (x5 : Int64) (x7 : Int64) (x9 : Int32) (ls : Array Slot) (H : Heap) (locs : List Loc), rc9 x5 x7 x9 = some r9 → Hp g nwX (ceX g) A s.heap st H locs → lv_has ls 10 [(4, .int x4), (5, .long x5), (7, .long x7), (9, .int x9)] → W p l e rm_X7_partOf s m args below meth c H locs 0 0 (MQ below (QJ g nwX (ceX g) A r9 st) args s 0 0 A) (F0 m 9 ls [])) (h : X7_partOf_9b rc9 x4 x5 x7 x9 = some r9) (Y : Hp g nwX (ceX g) A s.heap st H locs)  (hl : lv_has ls 10 [(4, .int x4), (5, .long x5), (7, .long x7), (9, .int x9)]) : W p l e rm_X7_partOf s m args below meth c H locs 0 0 (MQ below (QJ g nwX (ceX g) A r9 st) args s 0 0 A) (F0 m 9 ls []) := by
  have hx := X.1
  have hb := X.2.1
  unfold X7_partOf_9b at h
  refine lv_iload hx hb dX7_partOf_9 (lv_at hl 3 rfl) ?_
  refine lv_bipush (v := 64) hx hb dX7_partOf_11 (by decide) ?_
  refine lv_icmp_ge (tgt := 52) hx hb dX7_partOf_13 (by decide) (fun c1 => ?_) (fun c1 => ?_)
  · have h := ite_t h c1
    exact w_X7_partOf_52 X  h Y  (lv_sub hl [0, 1, 2] rfl)
  · have h := ite_f h c1
    refine lv_lload hx hb dX7_partOf_16 (lv_at hl 1 rfl) ?_
    refine lv_lconst (v := 1) hx hb dX7_partOf_18 (by decide) ?_
    refine lv_land hx hb dX7_partOf_19 ?_
    refine lv_lconst (v := 0) hx hb dX7_partOf_20 (by decide) ?_
    refine W.lcmp hx hb dX7_partOf_21 ?_
    refine lv_if_ne (tgt := 52) hx hb dX7_partOf_22 (by decide) (fun c2 => ?_) (fun c2 => ?_)
    · have h := ite_f h c2
      exact w_X7_partOf_52 X  h Y  (lv_sub hl [0, 1, 2] rfl)
    · have h := ite_t h c2
      refine lv_lload hx hb dX7_partOf_25 (lv_at hl 2 rfl) ?_
      refine lv_lconst (v := 1) hx hb dX7_partOf_27 (by decide) ?_
      refine lv_land hx hb dX7_partOf_28 ?_
      refine lv_lconst (v := 0) hx hb dX7_partOf_29 (by decide) ?_
      refine W.lcmp hx hb dX7_partOf_30 ?_
      refine lv_if_ne (tgt := 52) hx hb dX7_partOf_31 (by decide) (fun c3 => ?_) (fun c3 => ?_)
      · have h := ite_f h c3
        exact w_X7_partOf_52 X  h Y  (lv_sub hl [0, 1, 2] rfl)
      · have h := ite_t h c3
        refine lv_lload hx hb dX7_partOf_34 (lv_at hl 1 rfl) ?_
        refine lv_iconst (v := 1) hx hb dX7_partOf_36 (by decide) ?_
        refine lv_lshr hx hb dX7_partOf_37 rfl ?_
        obtain ⟨v4, ev4, h⟩ := nm_s h
        refine k_nmJ ev4 ?_
        refine lv_lstore (lv' := [(5, .long v4), (4, .int x4), (7, .long x7), (9, .int x9)]) hx hb dX7_partOf_38 hl (by decide) rfl (fun ls hl => ?_)
        refine lv_lload hx hb dX7_partOf_40 (lv_at hl 2 rfl) ?_
        refine lv_iconst (v := 1) hx hb dX7_partOf_42 (by decide) ?_
        refine lv_lshr hx hb dX7_partOf_43 rfl ?_
        obtain ⟨v5, ev5, h⟩ := nm_s h
        refine k_nmJ ev5 ?_
        refine lv_lstore (lv' := [(7, .long v5), (5, .long v4), (4, .int x4), (9, .int x9)]) hx hb dX7_partOf_44 hl (by decide) rfl (fun ls hl => ?_)
        obtain ⟨v6, ev6, h⟩ := nm_s h
        refine lv_iinc (v := v6) (lv' := [(9, .int v6), (7, .long v5), (5, .long v4), (4, .int x4)]) hx hb dX7_partOf_46 hl (k := 3) rfl (by rw [ev6]; rfl) (by decide) rfl (fun ls hl => ?_)
        refine lv_goto (tgt := 9) hx hb dX7_partOf_49 (by decide) ?_
        exact hrc9 v4 v5 v6 _ _ _ h Y (lv_sub hl [3, 2, 1, 0] rfl)
theorem w_X7_partOf_9 (X : Cx g p s m args meth c cX7_partOf 10 RX7 (some .long)) {x4 : Int32} {st : Sg} {r9 : Int64}   : ∀ (k : Nat) (x5 : Int64) (x7 : Int64) (x9 : Int32) (ls : Array Slot) (H : Heap) (locs : List Loc), X7_partOf_9 x4 k x5 x7 x9 = some r9 → Hp g nwX (ceX g) A s.heap st H locs → lv_has ls 10 [(4, .int x4), (5, .long x5), (7, .long x7), (9, .int x9)] → W p l e rm_X7_partOf s m args below meth c H locs 0 0 (MQ below (QJ g nwX (ceX g) A r9 st) args s 0 0 A) (F0 m 9 ls []) := by
  intro k
  induction k with
  | zero =>
    intro x5 x7 x9 ls H locs h
    exact none_s h
  | succ k ih =>
    intro x5 x7 x9 ls H locs h Y hl
    exact w_X7_partOf_9b X  (X7_partOf_9 x4 k) ih h Y  hl
set_option maxHeartbeats 4000000 in
set_option maxRecDepth 100000 in
theorem w_X7_partOf (X : Cx g p s m args meth c cX7_partOf 10 RX7 (some .long)) {x0 : Int64} {x2 : Int64} {x4 : Int32} {st : Sg} {r9 : Int64}  (h : X7_partOf x0 x2 x4 = some r9) (Y : Hp g nwX (ceX g) A s.heap st H locs)  (hl : lv_has ls 10 [(0, .long x0), (2, .long x2), (4, .int x4)]) : W p l e rm_X7_partOf s m args below meth c H locs 0 0 (MQ below (QJ g nwX (ceX g) A r9 st) args s 0 0 A) (F0 m 0 ls []) := by
  have hx := X.1
  have hb := X.2.1
  unfold X7_partOf at h
  refine lv_lload_n hx hb dX7_partOf_0 rfl (lv_at hl 0 rfl) ?_
  refine lv_lstore (lv' := [(5, .long x0), (0, .long x0), (2, .long x2), (4, .int x4)]) hx hb dX7_partOf_1 hl (by decide) rfl (fun ls hl => ?_)
  refine lv_lload_n hx hb dX7_partOf_3 rfl (lv_at hl 2 rfl) ?_
  refine lv_lstore (lv' := [(7, .long x2), (5, .long x0), (0, .long x0), (2, .long x2), (4, .int x4)]) hx hb dX7_partOf_4 hl (by decide) rfl (fun ls hl => ?_)
  refine lv_iconst (v := 0) hx hb dX7_partOf_6 (by decide) ?_
  refine lv_istore (lv' := [(9, .int 0), (7, .long x2), (5, .long x0), (0, .long x0), (2, .long x2), (4, .int x4)]) hx hb dX7_partOf_7 hl (by decide) rfl (fun ls hl => ?_)
  exact w_X7_partOf_9 X   FU x0 x2 0 _ _ _ h Y (lv_sub hl [5, 2, 1, 0] rfl)
theorem c_X7_partOf (l : Launch) {g : Gx} {x0 : Int64} {x2 : Int64} {x4 : Int32} {st : Sg} {r9 : Int64} (h : X7_partOf x0 x2 x4 = some r9) : MetJ l yX7_partOf cX7_partOf 10 (some .long) rm_X7_partOf g nwX (ceX g) [.long x0, .long x2, .int x4] st r9 st :=
  met_of (Qc := fun A => QJ g nwX (ceX g) A r9 st) (by decide) (Nat.le_of_ble_eq_true rfl) (fun p e s m below meth c A ls X Y hl => w_X7_partOf X h Y hl)
def X7_boy   (x1 : Int32) (st : Sg) : Option (Int64 × Sg) :=
  bnd1 (X7_isPart x1) fun v2 =>
  bnd1 (X7_ruleRefusalOf v2 st) fun v4 =>
  if v4 = (0 : Int32) then
    bnd1 (X7_findBoy st) fun st7 =>
    cix 0 7 <|
    cix (st7.1 1 0) 13 <|
    bnd1 (X3_scale (st7.1 1 1) st7) fun v11 =>
    bnd1 (X7_partOf (st7.2 (27 + ((0 : Int32)).toNatClampNeg) (st7.1 1 0).toNatClampNeg) v11 x1) fun v13 =>
    some (v13, st7)
  else
    some ((-1000000000000000000) + (v4.toInt64), st)
abbrev rm_X7_boy : Room := { frames := 5, cells := 0, slots := 0, locals := 115 }
set_option maxHeartbeats 4000000 in
set_option maxRecDepth 100000 in
theorem w_X7_boy (X : Cx g p s m args meth c cX7_boy 3 RX7 (some .long)) {x1 : Int32} {st : Sg} {r9 : Int64} {st9 : Sg}  (h : X7_boy x1 st = some (r9, st9)) (Y : Hp g nwX (ceX g) A s.heap st H locs)  (hl : lv_has ls 3 [(0, .ref (g.2.1 0)), (1, .int x1)]) : W p l e rm_X7_boy s m args below meth c H locs 0 0 (MQ below (QJ g nwX (ceX g) A r9 st9) args s 0 0 A) (F0 m 0 ls []) := by
  have hx := X.1
  have hb := X.2.1
  unfold X7_boy at h
  refine lv_aload_n hx hb dX7_boy_0 rfl (lv_at hl 0 rfl) ?_
  refine lv_iload_n hx hb dX7_boy_1 rfl (lv_at hl 1 rfl) ?_
  obtain ⟨v2, hc1, h⟩ := bnd1_s h
  refine k_cI Y (k_runS (As := [.int x1]) (rest := [.ref (g.2.1 0)]) X Y cl_7_133 (c_X7_isPart l hc1 _) ⟨rfl, rfl, Nat.le_of_ble_eq_true rfl, Nat.le_of_ble_eq_true rfl⟩ rfl hl.1 rfl (Nat.le_of_ble_eq_true rfl) dX7_boy_2 ⟨Nat.zero_le _, Nat.zero_le _⟩) (fun H locs Y => ?_)
  obtain ⟨v4, hc3, h⟩ := bnd1_s h
  refine k_cI Y (k_runV (As := [.int v2]) (rest := []) (o := 0) X Y cl_7_220 (c_X7_ruleRefusalOf l hc3 _) ⟨rfl, rfl, Nat.le_of_ble_eq_true rfl, Nat.le_of_ble_eq_true rfl⟩ (Nat.le_of_ble_eq_true rfl) rfl rfl hl.1 rfl (Nat.le_of_ble_eq_true rfl) dX7_boy_5 ⟨Nat.zero_le _, Nat.zero_le _⟩) (fun H locs Y => ?_)
  refine lv_istore_n (lv' := [(2, .int v4), (0, .ref (g.2.1 0)), (1, .int x1)]) hx hb dX7_boy_8 rfl hl (by decide) rfl (fun ls hl => ?_)
  refine lv_iload_n hx hb dX7_boy_9 rfl (lv_at hl 0 rfl) ?_
  refine lv_if_eq (tgt := 20) hx hb dX7_boy_10 (by decide) (fun c5 => ?_) (fun c5 => ?_)
  · have h := ite_t h c5
    refine lv_aload_n hx hb dX7_boy_20 rfl (lv_at hl 1 rfl) ?_
    obtain ⟨st7, hc6, h⟩ := bnd1_s h
    refine k_cV Y (k_runV (As := []) (rest := []) (o := 0) X Y cl_7_227 (c_X7_findBoy l hc6 _) ⟨rfl, rfl, Nat.le_of_ble_eq_true rfl, Nat.le_of_ble_eq_true rfl⟩ (Nat.le_of_ble_eq_true rfl) rfl rfl hl.1 rfl (Nat.le_of_ble_eq_true rfl) dX7_boy_21 ⟨Nat.zero_le _, Nat.zero_le _⟩) (fun H locs Y => ?_)
    refine lv_aload_n hx hb dX7_boy_24 rfl (lv_at hl 1 rfl) ?_
    refine k_get (v := .ref (g.2.1 25)) X Y fl_7_27 0 (Nat.le_of_ble_eq_true rfl) rfl rfl dX7_boy_25 ?_
    refine k_get (v := .ref (g.2.1 26)) X Y fl_7_172 25 (Nat.le_of_ble_eq_true rfl) rfl rfl dX7_boy_28 ?_
    refine lv_iconst (v := 0) hx hb dX7_boy_31 (by decide) ?_
    obtain ⟨i8, h⟩ := cix_s h
    refine k_aaldJ (b := 27) X Y 26 (Nat.le_of_ble_eq_true rfl) (fun _ _ => rfl) i8 dX7_boy_32 ?_
    refine lv_aload_n hx hb dX7_boy_33 rfl (lv_at hl 1 rfl) ?_
    refine k_get (v := .ref (g.2.1 1)) X Y fl_7_10 0 (Nat.le_of_ble_eq_true rfl) rfl rfl dX7_boy_34 ?_
    refine k_get (v := .int (st7.1 1 0)) X Y fl_7_85 1 (Nat.le_of_ble_eq_true rfl) rfl rfl dX7_boy_37 ?_
    obtain ⟨i9, h⟩ := cix_s h
    refine k_lald X Y (27 + ((0 : Int32)).toNatClampNeg) (row_lt i8 (Nat.le_of_ble_eq_true rfl)) (rowX_27 _ (vp_lt i8)) i9 dX7_boy_40 ?_
    refine lv_aload_n hx hb dX7_boy_41 rfl (lv_at hl 1 rfl) ?_
    refine k_get (v := .ref (g.2.1 1)) X Y fl_7_10 0 (Nat.le_of_ble_eq_true rfl) rfl rfl dX7_boy_42 ?_
    refine lv_aload_n hx hb dX7_boy_45 rfl (lv_at hl 1 rfl) ?_
    refine k_get (v := .ref (g.2.1 1)) X Y fl_7_10 0 (Nat.le_of_ble_eq_true rfl) rfl rfl dX7_boy_46 ?_
    refine k_get (v := .int (st7.1 1 1)) X Y fl_7_88 1 (Nat.le_of_ble_eq_true rfl) rfl rfl dX7_boy_49 ?_
    obtain ⟨v11, hc10, h⟩ := bnd1_s h
    refine k_cJ Y (k_runV (As := [.int (st7.1 1 1)]) (rest := [.long (st7.2 (27 + ((0 : Int32)).toNatClampNeg) (st7.1 1 0).toNatClampNeg)]) (o := 1) X Y cl_7_150 (c_X3_scale l hc10 _) ⟨rfl, rfl, Nat.le_of_ble_eq_true rfl, Nat.le_of_ble_eq_true rfl⟩ (Nat.le_of_ble_eq_true rfl) rfl rfl hl.1 rfl (Nat.le_of_ble_eq_true rfl) dX7_boy_52 ⟨Nat.zero_le _, Nat.zero_le _⟩) (fun H locs Y => ?_)
    refine lv_iload_n hx hb dX7_boy_55 rfl (lv_at hl 2 rfl) ?_
    obtain ⟨v13, hc12, h⟩ := bnd1_s h
    refine k_cJ Y (k_runS (As := [.long (st7.2 (27 + ((0 : Int32)).toNatClampNeg) (st7.1 1 0).toNatClampNeg), .long v11, .int x1]) (rest := []) X Y cl_7_154 (c_X7_partOf l hc12 _) ⟨rfl, rfl, Nat.le_of_ble_eq_true rfl, Nat.le_of_ble_eq_true rfl⟩ rfl hl.1 rfl (Nat.le_of_ble_eq_true rfl) dX7_boy_56 ⟨Nat.zero_le _, Nat.zero_le _⟩) (fun H locs Y => ?_)
    exact k_lretW X Y h dX7_boy_59
  · have h := ite_f h c5
    refine k_ldc2 X lg_7_140 dX7_boy_13 ?_
    refine lv_iload_n hx hb dX7_boy_16 rfl (lv_at hl 0 rfl) ?_
    refine lv_i2l hx hb dX7_boy_17 rfl ?_
    refine lv_ladd hx hb dX7_boy_18 ?_
    exact k_lretW X Y h dX7_boy_19
theorem c_X7_boy (l : Launch) {g : Gx} {x1 : Int32} {st : Sg} {r9 : Int64} {st9 : Sg} (h : X7_boy x1 st = some (r9, st9)) : MetJ l yX7_boy cX7_boy 3 (some .long) rm_X7_boy g nwX (ceX g) [.ref (g.2.1 0), .int x1] st r9 st9 :=
  met_of (Qc := fun A => QJ g nwX (ceX g) A r9 st9) (by decide) (Nat.le_of_ble_eq_true rfl) (fun p e s m below meth c A ls X Y hl => w_X7_boy X h Y hl)
def X6_begin_28  (rc2 : Int32 → Sg → Option Sg) (kd0 : Int32) (k1 : Int32) (k2 : Int64) (x2 : Int32) (st : Sg) : Option Sg :=
  cix k1 13 <|
  nm (sJ st (44 + (kd0).toNatClampNeg) k1.toNatClampNeg k2) fun st2 =>
  nm (x2 + 1) fun v3 =>
  rc2 v3 st2
def X6_begin_35    (st : Sg) : Option Sg :=
  cix 0 7 <|
  nm (sJ st 51 (0 : Int32).toNatClampNeg 0) fun st2 =>
  some st2
def X6_begin_2b  (rc2 : Int32 → Sg → Option Sg) (x2 : Int32) (st : Sg) : Option Sg :=
  if (12 : Int32) < x2 then
    X6_begin_35 st
  else
    cix 0 7 <|
    if x2 = (st.1 1 0) then
      X6_begin_28 rc2 (0 : Int32) x2 1 x2 st
    else
      X6_begin_28 rc2 (0 : Int32) x2 0 x2 st
def X6_begin_2    : Nat → Int32 → Sg → Option Sg
  | 0, _, _ => none
  | k + 1, x2, st => X6_begin_2b   (X6_begin_2 k) x2 st
def X6_begin    (st : Sg) : Option Sg :=
  X6_begin_2 FU 0 st
abbrev rm_X6_begin : Room := { frames := 0, cells := 0, slots := 0, locals := 0 }
set_option maxHeartbeats 4000000 in
set_option maxRecDepth 100000 in
theorem w_X6_begin_28 (X : Cx g p s m args meth c cX6_begin 3 RX6 none) {kd0 : Int32} {k1 : Int32} {k2 : Int64} {x2 : Int32} {st : Sg} {st9 : Sg} (rc2 : Int32 → Sg → Option Sg) (hrc2 : ∀ (x2 : Int32) (st : Sg) (ls : Array Slot) (H : Heap) (locs : List Loc), rc2 x2 st = some st9 → Hp g nwX (ceX g) A s.heap st H locs → lv_has ls 3 [(0, .ref (g.2.1 42)), (1, .ref (g.2.1 1)), (2, .int x2)] → W p l e rm_X6_begin s m args below meth c H locs 0 0 (MQ below (QV g nwX (ceX g) A st9) args s 0 0 A) (F0 m 2 ls [])) (h : X6_begin_28 rc2 kd0 k1 k2 x2 st = some st9) (Y : Hp g nwX (ceX g) A s.heap st H locs) (kh0 : vp_in kd0 7) (hl : lv_has ls 3 [(0, .ref (g.2.1 42)), (1, .ref (g.2.1 1)), (2, .int x2)]) : W p l e rm_X6_begin s m args below meth c H locs 0 0 (MQ below (QV g nwX (ceX g) A st9) args s 0 0 A) (F0 m 28 ls [.long k2, .int k1, .ref (g.2.1 (44 + (kd0).toNatClampNeg))]) := by
  have hx := X.1
  have hb := X.2.1
  unfold X6_begin_28 at h
  obtain ⟨i1, h⟩ := cix_s h
  refine k_last X Y (44 + (kd0).toNatClampNeg) (row_lt kh0 (Nat.le_of_ble_eq_true rfl)) (rowX_44 _ (vp_lt kh0)) i1 dX6_begin_28 (fun H locs Y => ?_)
  obtain ⟨st2, est2, h⟩ := nm_s h
  have Y : Hp g nwX (ceX g) A s.heap st2 H locs := by rw [est2]; exact Y
  obtain ⟨v3, ev3, h⟩ := nm_s h
  refine lv_iinc (v := v3) (lv' := [(2, .int v3), (0, .ref (g.2.1 42)), (1, .ref (g.2.1 1))]) hx hb dX6_begin_29 hl (k := 2) rfl (by rw [ev3]; rfl) (by decide) rfl (fun ls hl => ?_)
  refine lv_goto (tgt := 2) hx hb dX6_begin_32 (by decide) ?_
  exact hrc2 v3 st2 _ _ _ h Y (lv_sub hl [1, 2, 0] rfl)
set_option maxHeartbeats 4000000 in
set_option maxRecDepth 100000 in
theorem w_X6_begin_35 (X : Cx g p s m args meth c cX6_begin 3 RX6 none)  {st : Sg} {st9 : Sg}  (h : X6_begin_35 st = some st9) (Y : Hp g nwX (ceX g) A s.heap st H locs)  (hl : lv_has ls 3 [(0, .ref (g.2.1 42))]) : W p l e rm_X6_begin s m args below meth c H locs 0 0 (MQ below (QV g nwX (ceX g) A st9) args s 0 0 A) (F0 m 35 ls []) := by
  have hx := X.1
  have hb := X.2.1
  unfold X6_begin_35 at h
  refine lv_aload_n hx hb dX6_begin_35 rfl (lv_at hl 0 rfl) ?_
  refine k_get (v := .ref (g.2.1 51)) X Y fl_6_16 42 (Nat.le_of_ble_eq_true rfl) rfl rfl dX6_begin_36 ?_
  refine lv_iconst (v := 0) hx hb dX6_begin_39 (by decide) ?_
  refine lv_lconst (v := 0) hx hb dX6_begin_40 (by decide) ?_
  obtain ⟨i1, h⟩ := cix_s h
  refine k_last X Y 51 (Nat.le_of_ble_eq_true rfl) (fun _ _ => rfl) i1 dX6_begin_41 (fun H locs Y => ?_)
  obtain ⟨st2, est2, h⟩ := nm_s h
  have Y : Hp g nwX (ceX g) A s.heap st2 H locs := by rw [est2]; exact Y
  exact k_vretW X Y h dX6_begin_42
set_option maxHeartbeats 4000000 in
set_option maxRecDepth 100000 in
theorem w_X6_begin_2b (X : Cx g p s m args meth c cX6_begin 3 RX6 none) {x2 : Int32} {st : Sg} {st9 : Sg} (rc2 : Int32 → Sg → Option Sg) (hrc2 : ∀ (x2 : Int32) (st : Sg) (ls : Array Slot) (H : Heap) (locs : List Loc), rc2 x2 st = some st9 → Hp g nwX (ceX g) A s.heap st H locs → lv_has ls 3 [(0, .ref (g.2.1 42)), (1, .ref (g.2.1 1)), (2, .int x2)] → W p l e rm_X6_begin s m args below meth c H locs 0 0 (MQ below (QV g nwX (ceX g) A st9) args s 0 0 A) (F0 m 2 ls [])) (h : X6_begin_2b rc2 x2 st = some st9) (Y : Hp g nwX (ceX g) A s.heap st H locs)  (hl : lv_has ls 3 [(0, .ref (g.2.1 42)), (1, .ref (g.2.1 1)), (2, .int x2)]) : W p l e rm_X6_begin s m args below meth c H locs 0 0 (MQ below (QV g nwX (ceX g) A st9) args s 0 0 A) (F0 m 2 ls []) := by
  have hx := X.1
  have hb := X.2.1
  unfold X6_begin_2b at h
  refine lv_iload_n hx hb dX6_begin_2 rfl (lv_at hl 2 rfl) ?_
  refine lv_bipush (v := 12) hx hb dX6_begin_3 (by decide) ?_
  refine lv_icmp_gt (tgt := 35) hx hb dX6_begin_5 (by decide) (fun c1 => ?_) (fun c1 => ?_)
  · have h := ite_t h c1
    exact w_X6_begin_35 X  h Y  (lv_sub hl [0] rfl)
  · have h := ite_f h c1
    refine lv_aload_n hx hb dX6_begin_8 rfl (lv_at hl 0 rfl) ?_
    refine k_get (v := .ref (g.2.1 43)) X Y fl_6_11 42 (Nat.le_of_ble_eq_true rfl) rfl rfl dX6_begin_9 ?_
    refine lv_iconst (v := 0) hx hb dX6_begin_12 (by decide) ?_
    obtain ⟨i2, h⟩ := cix_s h
    refine k_aaldJ (b := 44) X Y 43 (Nat.le_of_ble_eq_true rfl) (fun _ _ => rfl) i2 dX6_begin_13 ?_
    refine lv_iload_n hx hb dX6_begin_14 rfl (lv_at hl 2 rfl) ?_
    refine lv_iload_n hx hb dX6_begin_15 rfl (lv_at hl 2 rfl) ?_
    refine lv_aload_n hx hb dX6_begin_16 rfl (lv_at hl 1 rfl) ?_
    refine k_get (v := .int (st.1 1 0)) X Y fl_6_62 1 (Nat.le_of_ble_eq_true rfl) rfl rfl dX6_begin_17 ?_
    refine lv_icmp_ne (tgt := 27) hx hb dX6_begin_20 (by decide) (fun c3 => ?_) (fun c3 => ?_)
    · have h := ite_f h c3
      refine lv_lconst (v := 0) hx hb dX6_begin_27 (by decide) ?_
      exact w_X6_begin_28 X rc2 hrc2 h Y i2 (lv_sub hl [0, 1, 2] rfl)
    · have h := ite_t h c3
      refine lv_lconst (v := 1) hx hb dX6_begin_23 (by decide) ?_
      refine lv_goto (tgt := 28) hx hb dX6_begin_24 (by decide) ?_
      exact w_X6_begin_28 X rc2 hrc2 h Y i2 (lv_sub hl [0, 1, 2] rfl)
theorem w_X6_begin_2 (X : Cx g p s m args meth c cX6_begin 3 RX6 none)   {st9 : Sg}   : ∀ (k : Nat) (x2 : Int32) (st : Sg) (ls : Array Slot) (H : Heap) (locs : List Loc), X6_begin_2 k x2 st = some st9 → Hp g nwX (ceX g) A s.heap st H locs → lv_has ls 3 [(0, .ref (g.2.1 42)), (1, .ref (g.2.1 1)), (2, .int x2)] → W p l e rm_X6_begin s m args below meth c H locs 0 0 (MQ below (QV g nwX (ceX g) A st9) args s 0 0 A) (F0 m 2 ls []) := by
  intro k
  induction k with
  | zero =>
    intro x2 st ls H locs h
    exact none_s h
  | succ k ih =>
    intro x2 st ls H locs h Y hl
    exact w_X6_begin_2b X  (X6_begin_2 k) ih h Y  hl
set_option maxHeartbeats 4000000 in
set_option maxRecDepth 100000 in
theorem w_X6_begin (X : Cx g p s m args meth c cX6_begin 3 RX6 none)  {st : Sg} {st9 : Sg}  (h : X6_begin st = some st9) (Y : Hp g nwX (ceX g) A s.heap st H locs)  (hl : lv_has ls 3 [(0, .ref (g.2.1 42)), (1, .ref (g.2.1 1))]) : W p l e rm_X6_begin s m args below meth c H locs 0 0 (MQ below (QV g nwX (ceX g) A st9) args s 0 0 A) (F0 m 0 ls []) := by
  have hx := X.1
  have hb := X.2.1
  unfold X6_begin at h
  refine lv_iconst (v := 0) hx hb dX6_begin_0 (by decide) ?_
  refine lv_istore_n (lv' := [(2, .int 0), (0, .ref (g.2.1 42)), (1, .ref (g.2.1 1))]) hx hb dX6_begin_1 rfl hl (by decide) rfl (fun ls hl => ?_)
  exact w_X6_begin_2 X   FU 0 st _ _ _ h Y (lv_sub hl [1, 2, 0] rfl)
theorem c_X6_begin (l : Launch) {g : Gx}  {st : Sg} {st9 : Sg} (h : X6_begin st = some st9) : MetV l yX6_begin cX6_begin 3 none rm_X6_begin g nwX (ceX g) [.ref (g.2.1 42), .ref (g.2.1 1)] st st9 :=
  met_of (Qc := fun A => QV g nwX (ceX g) A st9) (by decide) (Nat.le_of_ble_eq_true rfl) (fun p e s m below meth c A ls X Y hl => w_X6_begin X h Y hl)
def X6_openDay   (x1 : Int32) (st : Sg) : Option Sg :=
  cix x1 7 <|
  cix (x1 + 1) 7 <|
  cpc 0 0 13 13 13 <|
  nm (sJr st (44 + (x1 + 1).toNatClampNeg) (va_cpy (st.2 (44 + (x1).toNatClampNeg)) (st.2 (44 + (x1 + 1).toNatClampNeg)) (0 : Int32).toNatClampNeg (0 : Int32).toNatClampNeg (13 : Int32).toNatClampNeg)) fun st4 =>
  cix x1 7 <|
  cix (x1 + 1) 7 <|
  nm (sJ st4 51 (x1 + 1).toNatClampNeg (st4.2 51 x1.toNatClampNeg)) fun st7 =>
  some st7
abbrev rm_X6_openDay : Room := { frames := 1, cells := 0, slots := 0, locals := 28 }
set_option maxHeartbeats 4000000 in
set_option maxRecDepth 100000 in
theorem w_X6_openDay (X : Cx g p s m args meth c cX6_openDay 2 RX6 none) {x1 : Int32} {st : Sg} {st9 : Sg}  (h : X6_openDay x1 st = some st9) (Y : Hp g nwX (ceX g) A s.heap st H locs)  (hl : lv_has ls 2 [(0, .ref (g.2.1 42)), (1, .int x1)]) : W p l e rm_X6_openDay s m args below meth c H locs 0 0 (MQ below (QV g nwX (ceX g) A st9) args s 0 0 A) (F0 m 0 ls []) := by
  have hx := X.1
  have hb := X.2.1
  unfold X6_openDay at h
  refine lv_aload_n hx hb dX6_openDay_0 rfl (lv_at hl 0 rfl) ?_
  refine k_get (v := .ref (g.2.1 43)) X Y fl_6_11 42 (Nat.le_of_ble_eq_true rfl) rfl rfl dX6_openDay_1 ?_
  refine lv_iload_n hx hb dX6_openDay_4 rfl (lv_at hl 1 rfl) ?_
  obtain ⟨i1, h⟩ := cix_s h
  refine k_aaldJ (b := 44) X Y 43 (Nat.le_of_ble_eq_true rfl) (fun _ _ => rfl) i1 dX6_openDay_5 ?_
  refine lv_iconst (v := 0) hx hb dX6_openDay_6 (by decide) ?_
  refine lv_aload_n hx hb dX6_openDay_7 rfl (lv_at hl 0 rfl) ?_
  refine k_get (v := .ref (g.2.1 43)) X Y fl_6_11 42 (Nat.le_of_ble_eq_true rfl) rfl rfl dX6_openDay_8 ?_
  refine lv_iload_n hx hb dX6_openDay_11 rfl (lv_at hl 1 rfl) ?_
  refine lv_iconst (v := 1) hx hb dX6_openDay_12 (by decide) ?_
  refine lv_iadd hx hb dX6_openDay_13 ?_
  obtain ⟨i2, h⟩ := cix_s h
  refine k_aaldJ (b := 44) X Y 43 (Nat.le_of_ble_eq_true rfl) (fun _ _ => rfl) i2 dX6_openDay_14 ?_
  refine lv_iconst (v := 0) hx hb dX6_openDay_15 (by decide) ?_
  refine lv_bipush (v := 13) hx hb dX6_openDay_16 (by decide) ?_
  obtain ⟨y3, h⟩ := cpc_s h
  refine k_copyJ X Y cl_6_68 hl.1 (44 + (x1).toNatClampNeg) (44 + (x1 + 1).toNatClampNeg) (row_lt i1 (Nat.le_of_ble_eq_true rfl)) (row_lt i2 (Nat.le_of_ble_eq_true rfl)) (rowX_44 _ (vp_lt i1)) (rowX_44 _ (vp_lt i2)) y3 ⟨Nat.le_of_ble_eq_true rfl, by decide +kernel⟩ dX6_openDay_18 (fun H locs Y => ?_)
  obtain ⟨st4, est4, h⟩ := nm_s h
  have Y : Hp g nwX (ceX g) A s.heap st4 H locs := by rw [est4]; exact Y
  refine lv_aload_n hx hb dX6_openDay_21 rfl (lv_at hl 0 rfl) ?_
  refine k_get (v := .ref (g.2.1 51)) X Y fl_6_16 42 (Nat.le_of_ble_eq_true rfl) rfl rfl dX6_openDay_22 ?_
  refine lv_iload_n hx hb dX6_openDay_25 rfl (lv_at hl 1 rfl) ?_
  refine lv_iconst (v := 1) hx hb dX6_openDay_26 (by decide) ?_
  refine lv_iadd hx hb dX6_openDay_27 ?_
  refine lv_aload_n hx hb dX6_openDay_28 rfl (lv_at hl 0 rfl) ?_
  refine k_get (v := .ref (g.2.1 51)) X Y fl_6_16 42 (Nat.le_of_ble_eq_true rfl) rfl rfl dX6_openDay_29 ?_
  refine lv_iload_n hx hb dX6_openDay_32 rfl (lv_at hl 1 rfl) ?_
  obtain ⟨i5, h⟩ := cix_s h
  refine k_lald X Y 51 (Nat.le_of_ble_eq_true rfl) (fun _ _ => rfl) i5 dX6_openDay_33 ?_
  obtain ⟨i6, h⟩ := cix_s h
  refine k_last X Y 51 (Nat.le_of_ble_eq_true rfl) (fun _ _ => rfl) i6 dX6_openDay_34 (fun H locs Y => ?_)
  obtain ⟨st7, est7, h⟩ := nm_s h
  have Y : Hp g nwX (ceX g) A s.heap st7 H locs := by rw [est7]; exact Y
  exact k_vretW X Y h dX6_openDay_35
theorem c_X6_openDay (l : Launch) {g : Gx} {x1 : Int32} {st : Sg} {st9 : Sg} (h : X6_openDay x1 st = some st9) : MetV l yX6_openDay cX6_openDay 2 none rm_X6_openDay g nwX (ceX g) [.ref (g.2.1 42), .int x1] st st9 :=
  met_of (Qc := fun A => QV g nwX (ceX g) A st9) (by decide) (Nat.le_of_ble_eq_true rfl) (fun p e s m below meth c A ls X Y hl => w_X6_openDay X h Y hl)
def X6_passBuyer_85   (x1 : Int32) (x3 : Int32) (x5 : Int64) (st : Sg) : Option Sg :=
  cix (x1 + 1) 7 <|
  cix (x1 + 1) 7 <|
  nm (sJ st 51 (x1 + 1).toNatClampNeg (((st.2 51 (x1 + 1).toNatClampNeg) * 4) + (x5 * (x3.toInt64)))) fun st3 =>
  some st3
def X6_passBuyer_26b  (rc26 : Int64 → Int32 → Sg → Option Sg) (x1 : Int32) (x2 : Int32) (x3 : Int32) (xd4 : Int32) (x5 : Int64) (x7 : Int32) (st : Sg) : Option Sg :=
  if (12 : Int32) < x7 then
    X6_passBuyer_85 x1 x3 x5 st
  else
    cix x7 13 <|
    nm ((st.2 (44 + (xd4).toNatClampNeg) x7.toNatClampNeg) * (x2.toInt64)) fun v3 =>
    nm (x5 + v3) fun v4 =>
    cix (x7 - 1) 13 <|
    cix (x7 - 1) 13 <|
    nm (sJ st (44 + (xd4).toNatClampNeg) (x7 - 1).toNatClampNeg ((st.2 (44 + (xd4).toNatClampNeg) (x7 - 1).toNatClampNeg) + v3)) fun st7 =>
    cix x7 13 <|
    cix x7 13 <|
    nm (sJ st7 (44 + (xd4).toNatClampNeg) x7.toNatClampNeg (((st7.2 (44 + (xd4).toNatClampNeg) x7.toNatClampNeg) * 4) - v3)) fun st10 =>
    nm (x7 + 1) fun v11 =>
    rc26 v4 v11 st10
def X6_passBuyer_26   (x1 : Int32) (x2 : Int32) (x3 : Int32) (xd4 : Int32) : Nat → Int64 → Int32 → Sg → Option Sg
  | 0, _, _, _ => none
  | k + 1, x5, x7, st => X6_passBuyer_26b   (X6_passBuyer_26 x1 x2 x3 xd4 k) x1 x2 x3 xd4 x5 x7 st
def X6_passBuyer   (x1 : Int32) (x2 : Int32) (x3 : Int32) (st : Sg) : Option Sg :=
  cix (x1 + 1) 7 <|
  nm (x1 + 1) fun v2 =>
  cix 0 13 <|
  cix 0 13 <|
  nm (sJ st (44 + (v2).toNatClampNeg) (0 : Int32).toNatClampNeg ((st.2 (44 + (v2).toNatClampNeg) (0 : Int32).toNatClampNeg) * 4)) fun st6 =>
  X6_passBuyer_26 x1 x2 x3 v2 FU 0 1 st6
abbrev rm_X6_passBuyer : Room := { frames := 0, cells := 0, slots := 0, locals := 0 }
set_option maxHeartbeats 4000000 in
set_option maxRecDepth 100000 in
theorem w_X6_passBuyer_85 (X : Cx g p s m args meth c cX6_passBuyer 10 RX6 none) {x1 : Int32} {x3 : Int32} {x5 : Int64} {st : Sg} {st9 : Sg}  (h : X6_passBuyer_85 x1 x3 x5 st = some st9) (Y : Hp g nwX (ceX g) A s.heap st H locs)  (hl : lv_has ls 10 [(0, .ref (g.2.1 42)), (1, .int x1), (3, .int x3), (5, .long x5)]) : W p l e rm_X6_passBuyer s m args below meth c H locs 0 0 (MQ below (QV g nwX (ceX g) A st9) args s 0 0 A) (F0 m 85 ls []) := by
  have hx := X.1
  have hb := X.2.1
  unfold X6_passBuyer_85 at h
  refine lv_aload_n hx hb dX6_passBuyer_85 rfl (lv_at hl 0 rfl) ?_
  refine k_get (v := .ref (g.2.1 51)) X Y fl_6_16 42 (Nat.le_of_ble_eq_true rfl) rfl rfl dX6_passBuyer_86 ?_
  refine lv_iload_n hx hb dX6_passBuyer_89 rfl (lv_at hl 1 rfl) ?_
  refine lv_iconst (v := 1) hx hb dX6_passBuyer_90 (by decide) ?_
  refine lv_iadd hx hb dX6_passBuyer_91 ?_
  refine lv_aload_n hx hb dX6_passBuyer_92 rfl (lv_at hl 0 rfl) ?_
  refine k_get (v := .ref (g.2.1 51)) X Y fl_6_16 42 (Nat.le_of_ble_eq_true rfl) rfl rfl dX6_passBuyer_93 ?_
  refine lv_iload_n hx hb dX6_passBuyer_96 rfl (lv_at hl 1 rfl) ?_
  refine lv_iconst (v := 1) hx hb dX6_passBuyer_97 (by decide) ?_
  refine lv_iadd hx hb dX6_passBuyer_98 ?_
  obtain ⟨i1, h⟩ := cix_s h
  refine k_lald X Y 51 (Nat.le_of_ble_eq_true rfl) (fun _ _ => rfl) i1 dX6_passBuyer_99 ?_
  refine k_ldc2 X lg_6_82 dX6_passBuyer_100 ?_
  refine lv_lmul hx hb dX6_passBuyer_103 ?_
  refine lv_lload hx hb dX6_passBuyer_104 (lv_at hl 3 rfl) ?_
  refine lv_iload_n hx hb dX6_passBuyer_106 rfl (lv_at hl 2 rfl) ?_
  refine lv_i2l hx hb dX6_passBuyer_107 rfl ?_
  refine lv_lmul hx hb dX6_passBuyer_108 ?_
  refine lv_ladd hx hb dX6_passBuyer_109 ?_
  obtain ⟨i2, h⟩ := cix_s h
  refine k_last X Y 51 (Nat.le_of_ble_eq_true rfl) (fun _ _ => rfl) i2 dX6_passBuyer_110 (fun H locs Y => ?_)
  obtain ⟨st3, est3, h⟩ := nm_s h
  have Y : Hp g nwX (ceX g) A s.heap st3 H locs := by rw [est3]; exact Y
  exact k_vretW X Y h dX6_passBuyer_111
set_option maxHeartbeats 4000000 in
set_option maxRecDepth 100000 in
theorem w_X6_passBuyer_26b (X : Cx g p s m args meth c cX6_passBuyer 10 RX6 none) {x1 : Int32} {x2 : Int32} {x3 : Int32} {xd4 : Int32} {x5 : Int64} {x7 : Int32} {st : Sg} {st9 : Sg} (rc26 : Int64 → Int32 → Sg → Option Sg) (hrc26 : ∀ (x5 : Int64) (x7 : Int32) (st : Sg) (ls : Array Slot) (H : Heap) (locs : List Loc), rc26 x5 x7 st = some st9 → Hp g nwX (ceX g) A s.heap st H locs → lv_has ls 10 [(0, .ref (g.2.1 42)), (1, .int x1), (2, .int x2), (3, .int x3), (4, .ref (g.2.1 (44 + (xd4).toNatClampNeg))), (5, .long x5), (7, .int x7)] → W p l e rm_X6_passBuyer s m args below meth c H locs 0 0 (MQ below (QV g nwX (ceX g) A st9) args s 0 0 A) (F0 m 26 ls [])) (h : X6_passBuyer_26b rc26 x1 x2 x3 xd4 x5 x7 st = some st9) (Y : Hp g nwX (ceX g) A s.heap st H locs) (xh4 : vp_in xd4 7) (hl : lv_has ls 10 [(0, .ref (g.2.1 42)), (1, .int x1), (2, .int x2), (3, .int x3), (4, .ref (g.2.1 (44 + (xd4).toNatClampNeg))), (5, .long x5), (7, .int x7)]) : W p l e rm_X6_passBuyer s m args below meth c H locs 0 0 (MQ below (QV g nwX (ceX g) A st9) args s 0 0 A) (F0 m 26 ls []) := by
  have hx := X.1
  have hb := X.2.1
  unfold X6_passBuyer_26b at h
  refine lv_iload hx hb dX6_passBuyer_26 (lv_at hl 6 rfl) ?_
  refine lv_bipush (v := 12) hx hb dX6_passBuyer_28 (by decide) ?_
  refine lv_icmp_gt (tgt := 85) hx hb dX6_passBuyer_30 (by decide) (fun c1 => ?_) (fun c1 => ?_)
  · have h := ite_t h c1
    exact w_X6_passBuyer_85 X  h Y  (lv_sub hl [0, 1, 3, 5] rfl)
  · have h := ite_f h c1
    refine lv_aload hx hb dX6_passBuyer_33 (lv_at hl 4 rfl) ?_
    refine lv_iload hx hb dX6_passBuyer_35 (lv_at hl 6 rfl) ?_
    obtain ⟨i2, h⟩ := cix_s h
    refine k_lald X Y (44 + (xd4).toNatClampNeg) (row_lt xh4 (Nat.le_of_ble_eq_true rfl)) (rowX_44 _ (vp_lt xh4)) i2 dX6_passBuyer_37 ?_
    refine lv_iload_n hx hb dX6_passBuyer_38 rfl (lv_at hl 2 rfl) ?_
    refine lv_i2l hx hb dX6_passBuyer_39 rfl ?_
    refine lv_lmul hx hb dX6_passBuyer_40 ?_
    obtain ⟨v3, ev3, h⟩ := nm_s h
    refine k_nmJ ev3 ?_
    refine lv_lstore (lv' := [(8, .long v3), (0, .ref (g.2.1 42)), (1, .int x1), (2, .int x2), (3, .int x3), (4, .ref (g.2.1 (44 + (xd4).toNatClampNeg))), (5, .long x5), (7, .int x7)]) hx hb dX6_passBuyer_41 hl (by decide) rfl (fun ls hl => ?_)
    refine lv_lload hx hb dX6_passBuyer_43 (lv_at hl 6 rfl) ?_
    refine lv_lload hx hb dX6_passBuyer_45 (lv_at hl 0 rfl) ?_
    refine lv_ladd hx hb dX6_passBuyer_47 ?_
    obtain ⟨v4, ev4, h⟩ := nm_s h
    refine k_nmJ ev4 ?_
    refine lv_lstore (lv' := [(5, .long v4), (8, .long v3), (0, .ref (g.2.1 42)), (1, .int x1), (2, .int x2), (3, .int x3), (4, .ref (g.2.1 (44 + (xd4).toNatClampNeg))), (7, .int x7)]) hx hb dX6_passBuyer_48 hl (by decide) rfl (fun ls hl => ?_)
    refine lv_aload hx hb dX6_passBuyer_50 (lv_at hl 6 rfl) ?_
    refine lv_iload hx hb dX6_passBuyer_52 (lv_at hl 7 rfl) ?_
    refine lv_iconst (v := 1) hx hb dX6_passBuyer_54 (by decide) ?_
    refine lv_isub hx hb dX6_passBuyer_55 ?_
    refine lv_dup2_11 hx hb dX6_passBuyer_56 rfl rfl ?_
    obtain ⟨i5, h⟩ := cix_s h
    refine k_lald X Y (44 + (xd4).toNatClampNeg) (row_lt xh4 (Nat.le_of_ble_eq_true rfl)) (rowX_44 _ (vp_lt xh4)) i5 dX6_passBuyer_57 ?_
    refine lv_lload hx hb dX6_passBuyer_58 (lv_at hl 1 rfl) ?_
    refine lv_ladd hx hb dX6_passBuyer_60 ?_
    obtain ⟨i6, h⟩ := cix_s h
    refine k_last X Y (44 + (xd4).toNatClampNeg) (row_lt xh4 (Nat.le_of_ble_eq_true rfl)) (rowX_44 _ (vp_lt xh4)) i6 dX6_passBuyer_61 (fun H locs Y => ?_)
    obtain ⟨st7, est7, h⟩ := nm_s h
    have Y : Hp g nwX (ceX g) A s.heap st7 H locs := by rw [est7]; exact Y
    refine lv_aload hx hb dX6_passBuyer_62 (lv_at hl 6 rfl) ?_
    refine lv_iload hx hb dX6_passBuyer_64 (lv_at hl 7 rfl) ?_
    refine lv_aload hx hb dX6_passBuyer_66 (lv_at hl 6 rfl) ?_
    refine lv_iload hx hb dX6_passBuyer_68 (lv_at hl 7 rfl) ?_
    obtain ⟨i8, h⟩ := cix_s h
    refine k_lald X Y (44 + (xd4).toNatClampNeg) (row_lt xh4 (Nat.le_of_ble_eq_true rfl)) (rowX_44 _ (vp_lt xh4)) i8 dX6_passBuyer_70 ?_
    refine k_ldc2 X lg_6_82 dX6_passBuyer_71 ?_
    refine lv_lmul hx hb dX6_passBuyer_74 ?_
    refine lv_lload hx hb dX6_passBuyer_75 (lv_at hl 1 rfl) ?_
    refine lv_lsub hx hb dX6_passBuyer_77 ?_
    obtain ⟨i9, h⟩ := cix_s h
    refine k_last X Y (44 + (xd4).toNatClampNeg) (row_lt xh4 (Nat.le_of_ble_eq_true rfl)) (rowX_44 _ (vp_lt xh4)) i9 dX6_passBuyer_78 (fun H locs Y => ?_)
    obtain ⟨st10, est10, h⟩ := nm_s h
    have Y : Hp g nwX (ceX g) A s.heap st10 H locs := by rw [est10]; exact Y
    obtain ⟨v11, ev11, h⟩ := nm_s h
    refine lv_iinc (v := v11) (lv' := [(7, .int v11), (5, .long v4), (8, .long v3), (0, .ref (g.2.1 42)), (1, .int x1), (2, .int x2), (3, .int x3), (4, .ref (g.2.1 (44 + (xd4).toNatClampNeg)))]) hx hb dX6_passBuyer_79 hl (k := 7) rfl (by rw [ev11]; rfl) (by decide) rfl (fun ls hl => ?_)
    refine lv_goto (tgt := 26) hx hb dX6_passBuyer_82 (by decide) ?_
    exact hrc26 v4 v11 st10 _ _ _ h Y (lv_sub hl [3, 4, 5, 6, 7, 1, 0] rfl)
theorem w_X6_passBuyer_26 (X : Cx g p s m args meth c cX6_passBuyer 10 RX6 none) {x1 : Int32} {x2 : Int32} {x3 : Int32} {xd4 : Int32}  {st9 : Sg}  (xh4 : vp_in xd4 7) : ∀ (k : Nat) (x5 : Int64) (x7 : Int32) (st : Sg) (ls : Array Slot) (H : Heap) (locs : List Loc), X6_passBuyer_26 x1 x2 x3 xd4 k x5 x7 st = some st9 → Hp g nwX (ceX g) A s.heap st H locs → lv_has ls 10 [(0, .ref (g.2.1 42)), (1, .int x1), (2, .int x2), (3, .int x3), (4, .ref (g.2.1 (44 + (xd4).toNatClampNeg))), (5, .long x5), (7, .int x7)] → W p l e rm_X6_passBuyer s m args below meth c H locs 0 0 (MQ below (QV g nwX (ceX g) A st9) args s 0 0 A) (F0 m 26 ls []) := by
  intro k
  induction k with
  | zero =>
    intro x5 x7 st ls H locs h
    exact none_s h
  | succ k ih =>
    intro x5 x7 st ls H locs h Y hl
    exact w_X6_passBuyer_26b X  (X6_passBuyer_26 x1 x2 x3 xd4 k) ih h Y xh4 hl
set_option maxHeartbeats 4000000 in
set_option maxRecDepth 100000 in
theorem w_X6_passBuyer (X : Cx g p s m args meth c cX6_passBuyer 10 RX6 none) {x1 : Int32} {x2 : Int32} {x3 : Int32} {st : Sg} {st9 : Sg}  (h : X6_passBuyer x1 x2 x3 st = some st9) (Y : Hp g nwX (ceX g) A s.heap st H locs)  (hl : lv_has ls 10 [(0, .ref (g.2.1 42)), (1, .int x1), (2, .int x2), (3, .int x3)]) : W p l e rm_X6_passBuyer s m args below meth c H locs 0 0 (MQ below (QV g nwX (ceX g) A st9) args s 0 0 A) (F0 m 0 ls []) := by
  have hx := X.1
  have hb := X.2.1
  unfold X6_passBuyer at h
  refine lv_aload_n hx hb dX6_passBuyer_0 rfl (lv_at hl 0 rfl) ?_
  refine k_get (v := .ref (g.2.1 43)) X Y fl_6_11 42 (Nat.le_of_ble_eq_true rfl) rfl rfl dX6_passBuyer_1 ?_
  refine lv_iload_n hx hb dX6_passBuyer_4 rfl (lv_at hl 1 rfl) ?_
  refine lv_iconst (v := 1) hx hb dX6_passBuyer_5 (by decide) ?_
  refine lv_iadd hx hb dX6_passBuyer_6 ?_
  obtain ⟨i1, h⟩ := cix_s h
  refine k_aaldJ (b := 44) X Y 43 (Nat.le_of_ble_eq_true rfl) (fun _ _ => rfl) i1 dX6_passBuyer_7 ?_
  obtain ⟨v2, ev2, h⟩ := nm_s h
  have i3 : vp_in v2 7 := by rw [ev2]; exact i1
  refine k_nmR (f := fun z => g.2.1 (44 + z.toNatClampNeg)) ev2 ?_
  refine lv_astore (lv' := [(4, .ref (g.2.1 (44 + (v2).toNatClampNeg))), (0, .ref (g.2.1 42)), (1, .int x1), (2, .int x2), (3, .int x3)]) hx hb dX6_passBuyer_8 hl (by decide) rfl (fun ls hl => ?_)
  refine lv_lconst (v := 0) hx hb dX6_passBuyer_10 (by decide) ?_
  refine lv_lstore (lv' := [(5, .long 0), (4, .ref (g.2.1 (44 + (v2).toNatClampNeg))), (0, .ref (g.2.1 42)), (1, .int x1), (2, .int x2), (3, .int x3)]) hx hb dX6_passBuyer_11 hl (by decide) rfl (fun ls hl => ?_)
  refine lv_aload hx hb dX6_passBuyer_13 (lv_at hl 1 rfl) ?_
  refine lv_iconst (v := 0) hx hb dX6_passBuyer_15 (by decide) ?_
  refine lv_dup2_11 hx hb dX6_passBuyer_16 rfl rfl ?_
  obtain ⟨i4, h⟩ := cix_s h
  refine k_lald X Y (44 + (v2).toNatClampNeg) (row_lt i3 (Nat.le_of_ble_eq_true rfl)) (rowX_44 _ (vp_lt i3)) i4 dX6_passBuyer_17 ?_
  refine k_ldc2 X lg_6_82 dX6_passBuyer_18 ?_
  refine lv_lmul hx hb dX6_passBuyer_21 ?_
  obtain ⟨i5, h⟩ := cix_s h
  refine k_last X Y (44 + (v2).toNatClampNeg) (row_lt i3 (Nat.le_of_ble_eq_true rfl)) (rowX_44 _ (vp_lt i3)) i5 dX6_passBuyer_22 (fun H locs Y => ?_)
  obtain ⟨st6, est6, h⟩ := nm_s h
  have Y : Hp g nwX (ceX g) A s.heap st6 H locs := by rw [est6]; exact Y
  refine lv_iconst (v := 1) hx hb dX6_passBuyer_23 (by decide) ?_
  refine lv_istore (lv' := [(7, .int 1), (5, .long 0), (4, .ref (g.2.1 (44 + (v2).toNatClampNeg))), (0, .ref (g.2.1 42)), (1, .int x1), (2, .int x2), (3, .int x3)]) hx hb dX6_passBuyer_24 hl (by decide) rfl (fun ls hl => ?_)
  exact w_X6_passBuyer_26 X  i3 FU 0 1 st6 _ _ _ h Y (lv_sub hl [3, 4, 5, 6, 2, 1, 0] rfl)
theorem c_X6_passBuyer (l : Launch) {g : Gx} {x1 : Int32} {x2 : Int32} {x3 : Int32} {st : Sg} {st9 : Sg} (h : X6_passBuyer x1 x2 x3 st = some st9) : MetV l yX6_passBuyer cX6_passBuyer 10 none rm_X6_passBuyer g nwX (ceX g) [.ref (g.2.1 42), .int x1, .int x2, .int x3] st st9 :=
  met_of (Qc := fun A => QV g nwX (ceX g) A st9) (by decide) (Nat.le_of_ble_eq_true rfl) (fun p e s m below meth c A ls X Y hl => w_X6_passBuyer X h Y hl)
def X6_goByPlan_72 (q : Nat) (rc12 : Int32 → Sg → Option Sg) (x4 : Int32) (st : Sg) : Option Sg :=
  nm (x4 + 1) fun v1 =>
  rc12 v1 st
def X6_goByPlan_30b (q : Nat) (rc12 : Int32 → Sg → Option Sg) (rc30 : Int32 → Sg → Option Sg) (x4 : Int32) (x5 : Int32) (st : Sg) : Option Sg :=
  if (st.1 1 9) ≤ x5 then
    X6_goByPlan_72 q rc12 x4 st
  else
    cix x4 6 <|
    bnd1 (X3_chanceToBuy x5 x4 (st.1 q x4.toNatClampNeg) st) fun v4 =>
    cix x4 6 <|
    cix (st.1 q x4.toNatClampNeg) 5 <|
    bnd1 (X6_passBuyer x4 v4 (st.1 2 (st.1 q x4.toNatClampNeg).toNatClampNeg) st) fun st8 =>
    nm (x5 + 1) fun v9 =>
    rc30 v9 st8
def X6_goByPlan_30 (q : Nat) (rc12 : Int32 → Sg → Option Sg) (x4 : Int32) : Nat → Int32 → Sg → Option Sg
  | 0, _, _ => none
  | k + 1, x5, st => X6_goByPlan_30b q rc12 (X6_goByPlan_30 q rc12 x4 k) x4 x5 st
def X6_goByPlan_78 (q : Nat)   (st : Sg) : Option Sg :=
  some st
def X6_goByPlan_12b (q : Nat) (rc12 : Int32 → Sg → Option Sg) (x4 : Int32) (st : Sg) : Option Sg :=
  if (st.1 1 1) ≤ x4 then
    X6_goByPlan_78 q st
  else
    bnd1 (X6_openDay x4 st) fun st3 =>
    X6_goByPlan_30 q rc12 x4 FU 0 st3
def X6_goByPlan_12 (q : Nat)   : Nat → Int32 → Sg → Option Sg
  | 0, _, _ => none
  | k + 1, x4, st => X6_goByPlan_12b q  (X6_goByPlan_12 q k) x4 st
def X6_goByPlan_9 (q : Nat)  (x3 : Int32) (st : Sg) : Option Sg :=
  X6_goByPlan_12 q FU x3 st
def X6_goByPlan (q : Nat)  (x3 : Int32) (st : Sg) : Option Sg :=
  if x3 = (0 : Int32) then
    bnd1 (X6_begin st) fun st3 =>
    X6_goByPlan_9 q x3 st3
  else
    X6_goByPlan_9 q x3 st
abbrev rm_X6_goByPlan : Room := { frames := 2, cells := 0, slots := 0, locals := 49 }
set_option maxHeartbeats 4000000 in
set_option maxRecDepth 100000 in
theorem w_X6_goByPlan_72_7 (X : Cx g p s m args meth c cX6_goByPlan 6 RX6 none) {x4 : Int32} {st : Sg} {st9 : Sg} (rc12 : Int32 → Sg → Option Sg) (hrc12 : ∀ (x4 : Int32) (st : Sg) (ls : Array Slot) (H : Heap) (locs : List Loc), rc12 x4 st = some st9 → Hp g nwX (ceX g) A s.heap st H locs → lv_has ls 6 [(0, .ref (g.2.1 42)), (1, .ref (g.2.1 1)), (2, .ref (g.2.1 7)), (4, .int x4)] → W p l e rm_X6_goByPlan s m args below meth c H locs 0 0 (MQ below (QV g nwX (ceX g) A st9) args s 0 0 A) (F0 m 12 ls [])) (h : X6_goByPlan_72 7 rc12 x4 st = some st9) (Y : Hp g nwX (ceX g) A s.heap st H locs)  (hl : lv_has ls 6 [(0, .ref (g.2.1 42)), (1, .ref (g.2.1 1)), (2, .ref (g.2.1 7)), (4, .int x4)]) : W p l e rm_X6_goByPlan s m args below meth c H locs 0 0 (MQ below (QV g nwX (ceX g) A st9) args s 0 0 A) (F0 m 72 ls []) := by
  have hx := X.1
  have hb := X.2.1
  unfold X6_goByPlan_72 at h
  obtain ⟨v1, ev1, h⟩ := nm_s h
  refine lv_iinc (v := v1) (lv' := [(4, .int v1), (0, .ref (g.2.1 42)), (1, .ref (g.2.1 1)), (2, .ref (g.2.1 7))]) hx hb dX6_goByPlan_72 hl (k := 3) rfl (by rw [ev1]; rfl) (by decide) rfl (fun ls hl => ?_)
  refine lv_goto (tgt := 12) hx hb dX6_goByPlan_75 (by decide) ?_
  exact hrc12 v1 st _ _ _ h Y (lv_sub hl [1, 2, 3, 0] rfl)
set_option maxHeartbeats 4000000 in
set_option maxRecDepth 100000 in
theorem w_X6_goByPlan_30b_7 (X : Cx g p s m args meth c cX6_goByPlan 6 RX6 none) {x4 : Int32} {x5 : Int32} {st : Sg} {st9 : Sg} (rc12 : Int32 → Sg → Option Sg) (hrc12 : ∀ (x4 : Int32) (st : Sg) (ls : Array Slot) (H : Heap) (locs : List Loc), rc12 x4 st = some st9 → Hp g nwX (ceX g) A s.heap st H locs → lv_has ls 6 [(0, .ref (g.2.1 42)), (1, .ref (g.2.1 1)), (2, .ref (g.2.1 7)), (4, .int x4)] → W p l e rm_X6_goByPlan s m args below meth c H locs 0 0 (MQ below (QV g nwX (ceX g) A st9) args s 0 0 A) (F0 m 12 ls [])) (rc30 : Int32 → Sg → Option Sg) (hrc30 : ∀ (x5 : Int32) (st : Sg) (ls : Array Slot) (H : Heap) (locs : List Loc), rc30 x5 st = some st9 → Hp g nwX (ceX g) A s.heap st H locs → lv_has ls 6 [(0, .ref (g.2.1 42)), (1, .ref (g.2.1 1)), (2, .ref (g.2.1 7)), (4, .int x4), (5, .int x5)] → W p l e rm_X6_goByPlan s m args below meth c H locs 0 0 (MQ below (QV g nwX (ceX g) A st9) args s 0 0 A) (F0 m 30 ls [])) (h : X6_goByPlan_30b 7 rc12 rc30 x4 x5 st = some st9) (Y : Hp g nwX (ceX g) A s.heap st H locs)  (hl : lv_has ls 6 [(0, .ref (g.2.1 42)), (1, .ref (g.2.1 1)), (2, .ref (g.2.1 7)), (4, .int x4), (5, .int x5)]) : W p l e rm_X6_goByPlan s m args below meth c H locs 0 0 (MQ below (QV g nwX (ceX g) A st9) args s 0 0 A) (F0 m 30 ls []) := by
  have hx := X.1
  have hb := X.2.1
  unfold X6_goByPlan_30b at h
  refine lv_iload hx hb dX6_goByPlan_30 (lv_at hl 4 rfl) ?_
  refine lv_aload_n hx hb dX6_goByPlan_32 rfl (lv_at hl 1 rfl) ?_
  refine k_get (v := .int (st.1 1 9)) X Y fl_6_39 1 (Nat.le_of_ble_eq_true rfl) rfl rfl dX6_goByPlan_33 ?_
  refine lv_icmp_ge (tgt := 72) hx hb dX6_goByPlan_36 (by decide) (fun c1 => ?_) (fun c1 => ?_)
  · have h := ite_t h c1
    exact w_X6_goByPlan_72_7 X rc12 hrc12 h Y  (lv_sub hl [0, 1, 2, 3] rfl)
  · have h := ite_f h c1
    refine lv_aload_n hx hb dX6_goByPlan_39 rfl (lv_at hl 0 rfl) ?_
    refine lv_iload hx hb dX6_goByPlan_40 (lv_at hl 3 rfl) ?_
    refine lv_aload_n hx hb dX6_goByPlan_42 rfl (lv_at hl 1 rfl) ?_
    refine lv_iload hx hb dX6_goByPlan_43 (lv_at hl 4 rfl) ?_
    refine lv_iload hx hb dX6_goByPlan_45 (lv_at hl 3 rfl) ?_
    refine lv_aload_n hx hb dX6_goByPlan_47 rfl (lv_at hl 2 rfl) ?_
    refine lv_iload hx hb dX6_goByPlan_48 (lv_at hl 3 rfl) ?_
    obtain ⟨i2, h⟩ := cix_s h
    refine k_iald X Y 7 (Nat.le_of_ble_eq_true rfl) (fun _ _ => rfl) i2 dX6_goByPlan_50 ?_
    obtain ⟨v4, hc3, h⟩ := bnd1_s h
    refine k_cI Y (k_runV (As := [.int x5, .int x4, .int (st.1 7 x4.toNatClampNeg)]) (rest := [.int x4, .ref (g.2.1 42)]) (o := 1) X Y cl_6_42 (c_X3_chanceToBuy l hc3 _) ⟨rfl, rfl, Nat.le_of_ble_eq_true rfl, Nat.le_of_ble_eq_true rfl⟩ (Nat.le_of_ble_eq_true rfl) rfl rfl hl.1 rfl (Nat.le_of_ble_eq_true rfl) dX6_goByPlan_51 ⟨Nat.zero_le _, Nat.zero_le _⟩) (fun H locs Y => ?_)
    refine lv_aload_n hx hb dX6_goByPlan_54 rfl (lv_at hl 1 rfl) ?_
    refine k_get (v := .ref (g.2.1 2)) X Y fl_6_46 1 (Nat.le_of_ble_eq_true rfl) rfl rfl dX6_goByPlan_55 ?_
    refine lv_aload_n hx hb dX6_goByPlan_58 rfl (lv_at hl 2 rfl) ?_
    refine lv_iload hx hb dX6_goByPlan_59 (lv_at hl 3 rfl) ?_
    obtain ⟨i5, h⟩ := cix_s h
    refine k_iald X Y 7 (Nat.le_of_ble_eq_true rfl) (fun _ _ => rfl) i5 dX6_goByPlan_61 ?_
    obtain ⟨i6, h⟩ := cix_s h
    refine k_iald X Y 2 (Nat.le_of_ble_eq_true rfl) (fun _ _ => rfl) i6 dX6_goByPlan_62 ?_
    obtain ⟨st8, hc7, h⟩ := bnd1_s h
    refine k_cV Y (k_runV (As := [.int x4, .int v4, .int (st.1 2 (st.1 7 x4.toNatClampNeg).toNatClampNeg)]) (rest := []) (o := 42) X Y cl_6_50 (c_X6_passBuyer l hc7 _) ⟨rfl, rfl, Nat.le_of_ble_eq_true rfl, Nat.le_of_ble_eq_true rfl⟩ (Nat.le_of_ble_eq_true rfl) rfl rfl hl.1 rfl (Nat.le_of_ble_eq_true rfl) dX6_goByPlan_63 ⟨Nat.zero_le _, Nat.zero_le _⟩) (fun H locs Y => ?_)
    obtain ⟨v9, ev9, h⟩ := nm_s h
    refine lv_iinc (v := v9) (lv' := [(5, .int v9), (0, .ref (g.2.1 42)), (1, .ref (g.2.1 1)), (2, .ref (g.2.1 7)), (4, .int x4)]) hx hb dX6_goByPlan_66 hl (k := 4) rfl (by rw [ev9]; rfl) (by decide) rfl (fun ls hl => ?_)
    refine lv_goto (tgt := 30) hx hb dX6_goByPlan_69 (by decide) ?_
    exact hrc30 v9 st8 _ _ _ h Y (lv_sub hl [1, 2, 3, 4, 0] rfl)
theorem w_X6_goByPlan_30_7 (X : Cx g p s m args meth c cX6_goByPlan 6 RX6 none) {x4 : Int32}  {st9 : Sg} (rc12 : Int32 → Sg → Option Sg) (hrc12 : ∀ (x4 : Int32) (st : Sg) (ls : Array Slot) (H : Heap) (locs : List Loc), rc12 x4 st = some st9 → Hp g nwX (ceX g) A s.heap st H locs → lv_has ls 6 [(0, .ref (g.2.1 42)), (1, .ref (g.2.1 1)), (2, .ref (g.2.1 7)), (4, .int x4)] → W p l e rm_X6_goByPlan s m args below meth c H locs 0 0 (MQ below (QV g nwX (ceX g) A st9) args s 0 0 A) (F0 m 12 ls []))  : ∀ (k : Nat) (x5 : Int32) (st : Sg) (ls : Array Slot) (H : Heap) (locs : List Loc), X6_goByPlan_30 7 rc12 x4 k x5 st = some st9 → Hp g nwX (ceX g) A s.heap st H locs → lv_has ls 6 [(0, .ref (g.2.1 42)), (1, .ref (g.2.1 1)), (2, .ref (g.2.1 7)), (4, .int x4), (5, .int x5)] → W p l e rm_X6_goByPlan s m args below meth c H locs 0 0 (MQ below (QV g nwX (ceX g) A st9) args s 0 0 A) (F0 m 30 ls []) := by
  intro k
  induction k with
  | zero =>
    intro x5 st ls H locs h
    exact none_s h
  | succ k ih =>
    intro x5 st ls H locs h Y hl
    exact w_X6_goByPlan_30b_7 X rc12 hrc12 (X6_goByPlan_30 7 rc12 x4 k) ih h Y  hl
set_option maxHeartbeats 4000000 in
set_option maxRecDepth 100000 in
theorem w_X6_goByPlan_78_7 (X : Cx g p s m args meth c cX6_goByPlan 6 RX6 none)  {st : Sg} {st9 : Sg}  (h : X6_goByPlan_78 7 st = some st9) (Y : Hp g nwX (ceX g) A s.heap st H locs)  (hl : lv_has ls 6 []) : W p l e rm_X6_goByPlan s m args below meth c H locs 0 0 (MQ below (QV g nwX (ceX g) A st9) args s 0 0 A) (F0 m 78 ls []) := by
  have hx := X.1
  have hb := X.2.1
  unfold X6_goByPlan_78 at h
  exact k_vretW X Y h dX6_goByPlan_78
set_option maxHeartbeats 4000000 in
set_option maxRecDepth 100000 in
theorem w_X6_goByPlan_12b_7 (X : Cx g p s m args meth c cX6_goByPlan 6 RX6 none) {x4 : Int32} {st : Sg} {st9 : Sg} (rc12 : Int32 → Sg → Option Sg) (hrc12 : ∀ (x4 : Int32) (st : Sg) (ls : Array Slot) (H : Heap) (locs : List Loc), rc12 x4 st = some st9 → Hp g nwX (ceX g) A s.heap st H locs → lv_has ls 6 [(0, .ref (g.2.1 42)), (1, .ref (g.2.1 1)), (2, .ref (g.2.1 7)), (4, .int x4)] → W p l e rm_X6_goByPlan s m args below meth c H locs 0 0 (MQ below (QV g nwX (ceX g) A st9) args s 0 0 A) (F0 m 12 ls [])) (h : X6_goByPlan_12b 7 rc12 x4 st = some st9) (Y : Hp g nwX (ceX g) A s.heap st H locs)  (hl : lv_has ls 6 [(0, .ref (g.2.1 42)), (1, .ref (g.2.1 1)), (2, .ref (g.2.1 7)), (4, .int x4)]) : W p l e rm_X6_goByPlan s m args below meth c H locs 0 0 (MQ below (QV g nwX (ceX g) A st9) args s 0 0 A) (F0 m 12 ls []) := by
  have hx := X.1
  have hb := X.2.1
  unfold X6_goByPlan_12b at h
  refine lv_iload hx hb dX6_goByPlan_12 (lv_at hl 3 rfl) ?_
  refine lv_aload_n hx hb dX6_goByPlan_14 rfl (lv_at hl 1 rfl) ?_
  refine k_get (v := .int (st.1 1 1)) X Y fl_6_29 1 (Nat.le_of_ble_eq_true rfl) rfl rfl dX6_goByPlan_15 ?_
  refine lv_icmp_ge (tgt := 78) hx hb dX6_goByPlan_18 (by decide) (fun c1 => ?_) (fun c1 => ?_)
  · have h := ite_t h c1
    exact w_X6_goByPlan_78_7 X  h Y  (lv_sub hl [] rfl)
  · have h := ite_f h c1
    refine lv_aload_n hx hb dX6_goByPlan_21 rfl (lv_at hl 0 rfl) ?_
    refine lv_iload hx hb dX6_goByPlan_22 (lv_at hl 3 rfl) ?_
    obtain ⟨st3, hc2, h⟩ := bnd1_s h
    refine k_cV Y (k_runV (As := [.int x4]) (rest := []) (o := 42) X Y cl_6_35 (c_X6_openDay l hc2 _) ⟨rfl, rfl, Nat.le_of_ble_eq_true rfl, Nat.le_of_ble_eq_true rfl⟩ (Nat.le_of_ble_eq_true rfl) rfl rfl hl.1 rfl (Nat.le_of_ble_eq_true rfl) dX6_goByPlan_24 ⟨Nat.zero_le _, Nat.zero_le _⟩) (fun H locs Y => ?_)
    refine lv_iconst (v := 0) hx hb dX6_goByPlan_27 (by decide) ?_
    refine lv_istore (lv' := [(5, .int 0), (0, .ref (g.2.1 42)), (1, .ref (g.2.1 1)), (2, .ref (g.2.1 7)), (4, .int x4)]) hx hb dX6_goByPlan_28 hl (by decide) rfl (fun ls hl => ?_)
    exact w_X6_goByPlan_30_7 X rc12 hrc12  FU 0 st3 _ _ _ h Y (lv_sub hl [1, 2, 3, 4, 0] rfl)
theorem w_X6_goByPlan_12_7 (X : Cx g p s m args meth c cX6_goByPlan 6 RX6 none)   {st9 : Sg}   : ∀ (k : Nat) (x4 : Int32) (st : Sg) (ls : Array Slot) (H : Heap) (locs : List Loc), X6_goByPlan_12 7 k x4 st = some st9 → Hp g nwX (ceX g) A s.heap st H locs → lv_has ls 6 [(0, .ref (g.2.1 42)), (1, .ref (g.2.1 1)), (2, .ref (g.2.1 7)), (4, .int x4)] → W p l e rm_X6_goByPlan s m args below meth c H locs 0 0 (MQ below (QV g nwX (ceX g) A st9) args s 0 0 A) (F0 m 12 ls []) := by
  intro k
  induction k with
  | zero =>
    intro x4 st ls H locs h
    exact none_s h
  | succ k ih =>
    intro x4 st ls H locs h Y hl
    exact w_X6_goByPlan_12b_7 X  (X6_goByPlan_12 7 k) ih h Y  hl
set_option maxHeartbeats 4000000 in
set_option maxRecDepth 100000 in
theorem w_X6_goByPlan_9_7 (X : Cx g p s m args meth c cX6_goByPlan 6 RX6 none) {x3 : Int32} {st : Sg} {st9 : Sg}  (h : X6_goByPlan_9 7 x3 st = some st9) (Y : Hp g nwX (ceX g) A s.heap st H locs)  (hl : lv_has ls 6 [(0, .ref (g.2.1 42)), (1, .ref (g.2.1 1)), (2, .ref (g.2.1 7)), (3, .int x3)]) : W p l e rm_X6_goByPlan s m args below meth c H locs 0 0 (MQ below (QV g nwX (ceX g) A st9) args s 0 0 A) (F0 m 9 ls []) := by
  have hx := X.1
  have hb := X.2.1
  unfold X6_goByPlan_9 at h
  refine lv_iload_n hx hb dX6_goByPlan_9 rfl (lv_at hl 3 rfl) ?_
  refine lv_istore (lv' := [(4, .int x3), (0, .ref (g.2.1 42)), (1, .ref (g.2.1 1)), (2, .ref (g.2.1 7)), (3, .int x3)]) hx hb dX6_goByPlan_10 hl (by decide) rfl (fun ls hl => ?_)
  exact w_X6_goByPlan_12_7 X   FU x3 st _ _ _ h Y (lv_sub hl [1, 2, 3, 0] rfl)
set_option maxHeartbeats 4000000 in
set_option maxRecDepth 100000 in
theorem w_X6_goByPlan_7 (X : Cx g p s m args meth c cX6_goByPlan 6 RX6 none) {x3 : Int32} {st : Sg} {st9 : Sg}  (h : X6_goByPlan 7 x3 st = some st9) (Y : Hp g nwX (ceX g) A s.heap st H locs)  (hl : lv_has ls 6 [(0, .ref (g.2.1 42)), (1, .ref (g.2.1 1)), (2, .ref (g.2.1 7)), (3, .int x3)]) : W p l e rm_X6_goByPlan s m args below meth c H locs 0 0 (MQ below (QV g nwX (ceX g) A st9) args s 0 0 A) (F0 m 0 ls []) := by
  have hx := X.1
  have hb := X.2.1
  unfold X6_goByPlan at h
  refine lv_iload_n hx hb dX6_goByPlan_0 rfl (lv_at hl 3 rfl) ?_
  refine lv_if_ne (tgt := 9) hx hb dX6_goByPlan_1 (by decide) (fun c1 => ?_) (fun c1 => ?_)
  · have h := ite_f h c1
    exact w_X6_goByPlan_9_7 X  h Y  (lv_sub hl [0, 1, 2, 3] rfl)
  · have h := ite_t h c1
    refine lv_aload_n hx hb dX6_goByPlan_4 rfl (lv_at hl 0 rfl) ?_
    refine lv_aload_n hx hb dX6_goByPlan_5 rfl (lv_at hl 1 rfl) ?_
    obtain ⟨st3, hc2, h⟩ := bnd1_s h
    refine k_cV Y (k_runV (As := [.ref (g.2.1 1)]) (rest := []) (o := 42) X Y cl_6_25 (c_X6_begin l hc2 _) ⟨rfl, rfl, Nat.le_of_ble_eq_true rfl, Nat.le_of_ble_eq_true rfl⟩ (Nat.le_of_ble_eq_true rfl) rfl rfl hl.1 rfl (Nat.le_of_ble_eq_true rfl) dX6_goByPlan_6 ⟨Nat.zero_le _, Nat.zero_le _⟩) (fun H locs Y => ?_)
    exact w_X6_goByPlan_9_7 X  h Y  (lv_sub hl [0, 1, 2, 3] rfl)
theorem c_X6_goByPlan_7 (l : Launch) {g : Gx} {x3 : Int32} {st : Sg} {st9 : Sg} (h : X6_goByPlan 7 x3 st = some st9) : MetV l yX6_goByPlan cX6_goByPlan 6 none rm_X6_goByPlan g nwX (ceX g) [.ref (g.2.1 42), .ref (g.2.1 1), .ref (g.2.1 7), .int x3] st st9 :=
  met_of (Qc := fun A => QV g nwX (ceX g) A st9) (by decide) (Nat.le_of_ble_eq_true rfl) (fun p e s m below meth c A ls X Y hl => w_X6_goByPlan_7 X h Y hl)
set_option maxHeartbeats 4000000 in
set_option maxRecDepth 100000 in
theorem w_X6_goByPlan_72_60 (X : Cx g p s m args meth c cX6_goByPlan 6 RX6 none) {x4 : Int32} {st : Sg} {st9 : Sg} (rc12 : Int32 → Sg → Option Sg) (hrc12 : ∀ (x4 : Int32) (st : Sg) (ls : Array Slot) (H : Heap) (locs : List Loc), rc12 x4 st = some st9 → Hp g nwX (ceX g) A s.heap st H locs → lv_has ls 6 [(0, .ref (g.2.1 42)), (1, .ref (g.2.1 1)), (2, .ref (g.2.1 60)), (4, .int x4)] → W p l e rm_X6_goByPlan s m args below meth c H locs 0 0 (MQ below (QV g nwX (ceX g) A st9) args s 0 0 A) (F0 m 12 ls [])) (h : X6_goByPlan_72 60 rc12 x4 st = some st9) (Y : Hp g nwX (ceX g) A s.heap st H locs)  (hl : lv_has ls 6 [(0, .ref (g.2.1 42)), (1, .ref (g.2.1 1)), (2, .ref (g.2.1 60)), (4, .int x4)]) : W p l e rm_X6_goByPlan s m args below meth c H locs 0 0 (MQ below (QV g nwX (ceX g) A st9) args s 0 0 A) (F0 m 72 ls []) := by
  have hx := X.1
  have hb := X.2.1
  unfold X6_goByPlan_72 at h
  obtain ⟨v1, ev1, h⟩ := nm_s h
  refine lv_iinc (v := v1) (lv' := [(4, .int v1), (0, .ref (g.2.1 42)), (1, .ref (g.2.1 1)), (2, .ref (g.2.1 60))]) hx hb dX6_goByPlan_72 hl (k := 3) rfl (by rw [ev1]; rfl) (by decide) rfl (fun ls hl => ?_)
  refine lv_goto (tgt := 12) hx hb dX6_goByPlan_75 (by decide) ?_
  exact hrc12 v1 st _ _ _ h Y (lv_sub hl [1, 2, 3, 0] rfl)
set_option maxHeartbeats 4000000 in
set_option maxRecDepth 100000 in
theorem w_X6_goByPlan_30b_60 (X : Cx g p s m args meth c cX6_goByPlan 6 RX6 none) {x4 : Int32} {x5 : Int32} {st : Sg} {st9 : Sg} (rc12 : Int32 → Sg → Option Sg) (hrc12 : ∀ (x4 : Int32) (st : Sg) (ls : Array Slot) (H : Heap) (locs : List Loc), rc12 x4 st = some st9 → Hp g nwX (ceX g) A s.heap st H locs → lv_has ls 6 [(0, .ref (g.2.1 42)), (1, .ref (g.2.1 1)), (2, .ref (g.2.1 60)), (4, .int x4)] → W p l e rm_X6_goByPlan s m args below meth c H locs 0 0 (MQ below (QV g nwX (ceX g) A st9) args s 0 0 A) (F0 m 12 ls [])) (rc30 : Int32 → Sg → Option Sg) (hrc30 : ∀ (x5 : Int32) (st : Sg) (ls : Array Slot) (H : Heap) (locs : List Loc), rc30 x5 st = some st9 → Hp g nwX (ceX g) A s.heap st H locs → lv_has ls 6 [(0, .ref (g.2.1 42)), (1, .ref (g.2.1 1)), (2, .ref (g.2.1 60)), (4, .int x4), (5, .int x5)] → W p l e rm_X6_goByPlan s m args below meth c H locs 0 0 (MQ below (QV g nwX (ceX g) A st9) args s 0 0 A) (F0 m 30 ls [])) (h : X6_goByPlan_30b 60 rc12 rc30 x4 x5 st = some st9) (Y : Hp g nwX (ceX g) A s.heap st H locs)  (hl : lv_has ls 6 [(0, .ref (g.2.1 42)), (1, .ref (g.2.1 1)), (2, .ref (g.2.1 60)), (4, .int x4), (5, .int x5)]) : W p l e rm_X6_goByPlan s m args below meth c H locs 0 0 (MQ below (QV g nwX (ceX g) A st9) args s 0 0 A) (F0 m 30 ls []) := by
  have hx := X.1
  have hb := X.2.1
  unfold X6_goByPlan_30b at h
  refine lv_iload hx hb dX6_goByPlan_30 (lv_at hl 4 rfl) ?_
  refine lv_aload_n hx hb dX6_goByPlan_32 rfl (lv_at hl 1 rfl) ?_
  refine k_get (v := .int (st.1 1 9)) X Y fl_6_39 1 (Nat.le_of_ble_eq_true rfl) rfl rfl dX6_goByPlan_33 ?_
  refine lv_icmp_ge (tgt := 72) hx hb dX6_goByPlan_36 (by decide) (fun c1 => ?_) (fun c1 => ?_)
  · have h := ite_t h c1
    exact w_X6_goByPlan_72_60 X rc12 hrc12 h Y  (lv_sub hl [0, 1, 2, 3] rfl)
  · have h := ite_f h c1
    refine lv_aload_n hx hb dX6_goByPlan_39 rfl (lv_at hl 0 rfl) ?_
    refine lv_iload hx hb dX6_goByPlan_40 (lv_at hl 3 rfl) ?_
    refine lv_aload_n hx hb dX6_goByPlan_42 rfl (lv_at hl 1 rfl) ?_
    refine lv_iload hx hb dX6_goByPlan_43 (lv_at hl 4 rfl) ?_
    refine lv_iload hx hb dX6_goByPlan_45 (lv_at hl 3 rfl) ?_
    refine lv_aload_n hx hb dX6_goByPlan_47 rfl (lv_at hl 2 rfl) ?_
    refine lv_iload hx hb dX6_goByPlan_48 (lv_at hl 3 rfl) ?_
    obtain ⟨i2, h⟩ := cix_s h
    refine k_iald X Y 60 (Nat.le_of_ble_eq_true rfl) (fun _ _ => rfl) i2 dX6_goByPlan_50 ?_
    obtain ⟨v4, hc3, h⟩ := bnd1_s h
    refine k_cI Y (k_runV (As := [.int x5, .int x4, .int (st.1 60 x4.toNatClampNeg)]) (rest := [.int x4, .ref (g.2.1 42)]) (o := 1) X Y cl_6_42 (c_X3_chanceToBuy l hc3 _) ⟨rfl, rfl, Nat.le_of_ble_eq_true rfl, Nat.le_of_ble_eq_true rfl⟩ (Nat.le_of_ble_eq_true rfl) rfl rfl hl.1 rfl (Nat.le_of_ble_eq_true rfl) dX6_goByPlan_51 ⟨Nat.zero_le _, Nat.zero_le _⟩) (fun H locs Y => ?_)
    refine lv_aload_n hx hb dX6_goByPlan_54 rfl (lv_at hl 1 rfl) ?_
    refine k_get (v := .ref (g.2.1 2)) X Y fl_6_46 1 (Nat.le_of_ble_eq_true rfl) rfl rfl dX6_goByPlan_55 ?_
    refine lv_aload_n hx hb dX6_goByPlan_58 rfl (lv_at hl 2 rfl) ?_
    refine lv_iload hx hb dX6_goByPlan_59 (lv_at hl 3 rfl) ?_
    obtain ⟨i5, h⟩ := cix_s h
    refine k_iald X Y 60 (Nat.le_of_ble_eq_true rfl) (fun _ _ => rfl) i5 dX6_goByPlan_61 ?_
    obtain ⟨i6, h⟩ := cix_s h
    refine k_iald X Y 2 (Nat.le_of_ble_eq_true rfl) (fun _ _ => rfl) i6 dX6_goByPlan_62 ?_
    obtain ⟨st8, hc7, h⟩ := bnd1_s h
    refine k_cV Y (k_runV (As := [.int x4, .int v4, .int (st.1 2 (st.1 60 x4.toNatClampNeg).toNatClampNeg)]) (rest := []) (o := 42) X Y cl_6_50 (c_X6_passBuyer l hc7 _) ⟨rfl, rfl, Nat.le_of_ble_eq_true rfl, Nat.le_of_ble_eq_true rfl⟩ (Nat.le_of_ble_eq_true rfl) rfl rfl hl.1 rfl (Nat.le_of_ble_eq_true rfl) dX6_goByPlan_63 ⟨Nat.zero_le _, Nat.zero_le _⟩) (fun H locs Y => ?_)
    obtain ⟨v9, ev9, h⟩ := nm_s h
    refine lv_iinc (v := v9) (lv' := [(5, .int v9), (0, .ref (g.2.1 42)), (1, .ref (g.2.1 1)), (2, .ref (g.2.1 60)), (4, .int x4)]) hx hb dX6_goByPlan_66 hl (k := 4) rfl (by rw [ev9]; rfl) (by decide) rfl (fun ls hl => ?_)
    refine lv_goto (tgt := 30) hx hb dX6_goByPlan_69 (by decide) ?_
    exact hrc30 v9 st8 _ _ _ h Y (lv_sub hl [1, 2, 3, 4, 0] rfl)
theorem w_X6_goByPlan_30_60 (X : Cx g p s m args meth c cX6_goByPlan 6 RX6 none) {x4 : Int32}  {st9 : Sg} (rc12 : Int32 → Sg → Option Sg) (hrc12 : ∀ (x4 : Int32) (st : Sg) (ls : Array Slot) (H : Heap) (locs : List Loc), rc12 x4 st = some st9 → Hp g nwX (ceX g) A s.heap st H locs → lv_has ls 6 [(0, .ref (g.2.1 42)), (1, .ref (g.2.1 1)), (2, .ref (g.2.1 60)), (4, .int x4)] → W p l e rm_X6_goByPlan s m args below meth c H locs 0 0 (MQ below (QV g nwX (ceX g) A st9) args s 0 0 A) (F0 m 12 ls []))  : ∀ (k : Nat) (x5 : Int32) (st : Sg) (ls : Array Slot) (H : Heap) (locs : List Loc), X6_goByPlan_30 60 rc12 x4 k x5 st = some st9 → Hp g nwX (ceX g) A s.heap st H locs → lv_has ls 6 [(0, .ref (g.2.1 42)), (1, .ref (g.2.1 1)), (2, .ref (g.2.1 60)), (4, .int x4), (5, .int x5)] → W p l e rm_X6_goByPlan s m args below meth c H locs 0 0 (MQ below (QV g nwX (ceX g) A st9) args s 0 0 A) (F0 m 30 ls []) := by
  intro k
  induction k with
  | zero =>
    intro x5 st ls H locs h
    exact none_s h
  | succ k ih =>
    intro x5 st ls H locs h Y hl
    exact w_X6_goByPlan_30b_60 X rc12 hrc12 (X6_goByPlan_30 60 rc12 x4 k) ih h Y  hl
set_option maxHeartbeats 4000000 in
set_option maxRecDepth 100000 in
theorem w_X6_goByPlan_78_60 (X : Cx g p s m args meth c cX6_goByPlan 6 RX6 none)  {st : Sg} {st9 : Sg}  (h : X6_goByPlan_78 60 st = some st9) (Y : Hp g nwX (ceX g) A s.heap st H locs)  (hl : lv_has ls 6 []) : W p l e rm_X6_goByPlan s m args below meth c H locs 0 0 (MQ below (QV g nwX (ceX g) A st9) args s 0 0 A) (F0 m 78 ls []) := by
  have hx := X.1
  have hb := X.2.1
  unfold X6_goByPlan_78 at h
  exact k_vretW X Y h dX6_goByPlan_78
set_option maxHeartbeats 4000000 in
set_option maxRecDepth 100000 in
theorem w_X6_goByPlan_12b_60 (X : Cx g p s m args meth c cX6_goByPlan 6 RX6 none) {x4 : Int32} {st : Sg} {st9 : Sg} (rc12 : Int32 → Sg → Option Sg) (hrc12 : ∀ (x4 : Int32) (st : Sg) (ls : Array Slot) (H : Heap) (locs : List Loc), rc12 x4 st = some st9 → Hp g nwX (ceX g) A s.heap st H locs → lv_has ls 6 [(0, .ref (g.2.1 42)), (1, .ref (g.2.1 1)), (2, .ref (g.2.1 60)), (4, .int x4)] → W p l e rm_X6_goByPlan s m args below meth c H locs 0 0 (MQ below (QV g nwX (ceX g) A st9) args s 0 0 A) (F0 m 12 ls [])) (h : X6_goByPlan_12b 60 rc12 x4 st = some st9) (Y : Hp g nwX (ceX g) A s.heap st H locs)  (hl : lv_has ls 6 [(0, .ref (g.2.1 42)), (1, .ref (g.2.1 1)), (2, .ref (g.2.1 60)), (4, .int x4)]) : W p l e rm_X6_goByPlan s m args below meth c H locs 0 0 (MQ below (QV g nwX (ceX g) A st9) args s 0 0 A) (F0 m 12 ls []) := by
  have hx := X.1
  have hb := X.2.1
  unfold X6_goByPlan_12b at h
  refine lv_iload hx hb dX6_goByPlan_12 (lv_at hl 3 rfl) ?_
  refine lv_aload_n hx hb dX6_goByPlan_14 rfl (lv_at hl 1 rfl) ?_
  refine k_get (v := .int (st.1 1 1)) X Y fl_6_29 1 (Nat.le_of_ble_eq_true rfl) rfl rfl dX6_goByPlan_15 ?_
  refine lv_icmp_ge (tgt := 78) hx hb dX6_goByPlan_18 (by decide) (fun c1 => ?_) (fun c1 => ?_)
  · have h := ite_t h c1
    exact w_X6_goByPlan_78_60 X  h Y  (lv_sub hl [] rfl)
  · have h := ite_f h c1
    refine lv_aload_n hx hb dX6_goByPlan_21 rfl (lv_at hl 0 rfl) ?_
    refine lv_iload hx hb dX6_goByPlan_22 (lv_at hl 3 rfl) ?_
    obtain ⟨st3, hc2, h⟩ := bnd1_s h
    refine k_cV Y (k_runV (As := [.int x4]) (rest := []) (o := 42) X Y cl_6_35 (c_X6_openDay l hc2 _) ⟨rfl, rfl, Nat.le_of_ble_eq_true rfl, Nat.le_of_ble_eq_true rfl⟩ (Nat.le_of_ble_eq_true rfl) rfl rfl hl.1 rfl (Nat.le_of_ble_eq_true rfl) dX6_goByPlan_24 ⟨Nat.zero_le _, Nat.zero_le _⟩) (fun H locs Y => ?_)
    refine lv_iconst (v := 0) hx hb dX6_goByPlan_27 (by decide) ?_
    refine lv_istore (lv' := [(5, .int 0), (0, .ref (g.2.1 42)), (1, .ref (g.2.1 1)), (2, .ref (g.2.1 60)), (4, .int x4)]) hx hb dX6_goByPlan_28 hl (by decide) rfl (fun ls hl => ?_)
    exact w_X6_goByPlan_30_60 X rc12 hrc12  FU 0 st3 _ _ _ h Y (lv_sub hl [1, 2, 3, 4, 0] rfl)
theorem w_X6_goByPlan_12_60 (X : Cx g p s m args meth c cX6_goByPlan 6 RX6 none)   {st9 : Sg}   : ∀ (k : Nat) (x4 : Int32) (st : Sg) (ls : Array Slot) (H : Heap) (locs : List Loc), X6_goByPlan_12 60 k x4 st = some st9 → Hp g nwX (ceX g) A s.heap st H locs → lv_has ls 6 [(0, .ref (g.2.1 42)), (1, .ref (g.2.1 1)), (2, .ref (g.2.1 60)), (4, .int x4)] → W p l e rm_X6_goByPlan s m args below meth c H locs 0 0 (MQ below (QV g nwX (ceX g) A st9) args s 0 0 A) (F0 m 12 ls []) := by
  intro k
  induction k with
  | zero =>
    intro x4 st ls H locs h
    exact none_s h
  | succ k ih =>
    intro x4 st ls H locs h Y hl
    exact w_X6_goByPlan_12b_60 X  (X6_goByPlan_12 60 k) ih h Y  hl
set_option maxHeartbeats 4000000 in
set_option maxRecDepth 100000 in
theorem w_X6_goByPlan_9_60 (X : Cx g p s m args meth c cX6_goByPlan 6 RX6 none) {x3 : Int32} {st : Sg} {st9 : Sg}  (h : X6_goByPlan_9 60 x3 st = some st9) (Y : Hp g nwX (ceX g) A s.heap st H locs)  (hl : lv_has ls 6 [(0, .ref (g.2.1 42)), (1, .ref (g.2.1 1)), (2, .ref (g.2.1 60)), (3, .int x3)]) : W p l e rm_X6_goByPlan s m args below meth c H locs 0 0 (MQ below (QV g nwX (ceX g) A st9) args s 0 0 A) (F0 m 9 ls []) := by
  have hx := X.1
  have hb := X.2.1
  unfold X6_goByPlan_9 at h
  refine lv_iload_n hx hb dX6_goByPlan_9 rfl (lv_at hl 3 rfl) ?_
  refine lv_istore (lv' := [(4, .int x3), (0, .ref (g.2.1 42)), (1, .ref (g.2.1 1)), (2, .ref (g.2.1 60)), (3, .int x3)]) hx hb dX6_goByPlan_10 hl (by decide) rfl (fun ls hl => ?_)
  exact w_X6_goByPlan_12_60 X   FU x3 st _ _ _ h Y (lv_sub hl [1, 2, 3, 0] rfl)
set_option maxHeartbeats 4000000 in
set_option maxRecDepth 100000 in
theorem w_X6_goByPlan_60 (X : Cx g p s m args meth c cX6_goByPlan 6 RX6 none) {x3 : Int32} {st : Sg} {st9 : Sg}  (h : X6_goByPlan 60 x3 st = some st9) (Y : Hp g nwX (ceX g) A s.heap st H locs)  (hl : lv_has ls 6 [(0, .ref (g.2.1 42)), (1, .ref (g.2.1 1)), (2, .ref (g.2.1 60)), (3, .int x3)]) : W p l e rm_X6_goByPlan s m args below meth c H locs 0 0 (MQ below (QV g nwX (ceX g) A st9) args s 0 0 A) (F0 m 0 ls []) := by
  have hx := X.1
  have hb := X.2.1
  unfold X6_goByPlan at h
  refine lv_iload_n hx hb dX6_goByPlan_0 rfl (lv_at hl 3 rfl) ?_
  refine lv_if_ne (tgt := 9) hx hb dX6_goByPlan_1 (by decide) (fun c1 => ?_) (fun c1 => ?_)
  · have h := ite_f h c1
    exact w_X6_goByPlan_9_60 X  h Y  (lv_sub hl [0, 1, 2, 3] rfl)
  · have h := ite_t h c1
    refine lv_aload_n hx hb dX6_goByPlan_4 rfl (lv_at hl 0 rfl) ?_
    refine lv_aload_n hx hb dX6_goByPlan_5 rfl (lv_at hl 1 rfl) ?_
    obtain ⟨st3, hc2, h⟩ := bnd1_s h
    refine k_cV Y (k_runV (As := [.ref (g.2.1 1)]) (rest := []) (o := 42) X Y cl_6_25 (c_X6_begin l hc2 _) ⟨rfl, rfl, Nat.le_of_ble_eq_true rfl, Nat.le_of_ble_eq_true rfl⟩ (Nat.le_of_ble_eq_true rfl) rfl rfl hl.1 rfl (Nat.le_of_ble_eq_true rfl) dX6_goByPlan_6 ⟨Nat.zero_le _, Nat.zero_le _⟩) (fun H locs Y => ?_)
    exact w_X6_goByPlan_9_60 X  h Y  (lv_sub hl [0, 1, 2, 3] rfl)
theorem c_X6_goByPlan_60 (l : Launch) {g : Gx} {x3 : Int32} {st : Sg} {st9 : Sg} (h : X6_goByPlan 60 x3 st = some st9) : MetV l yX6_goByPlan cX6_goByPlan 6 none rm_X6_goByPlan g nwX (ceX g) [.ref (g.2.1 42), .ref (g.2.1 1), .ref (g.2.1 60), .int x3] st st9 :=
  met_of (Qc := fun A => QV g nwX (ceX g) A st9) (by decide) (Nat.le_of_ble_eq_true rfl) (fun p e s m below meth c A ls X Y hl => w_X6_goByPlan_60 X h Y hl)
set_option maxHeartbeats 4000000 in
set_option maxRecDepth 100000 in
theorem w_X6_goByPlan_72_62 (X : Cx g p s m args meth c cX6_goByPlan 6 RX6 none) {x4 : Int32} {st : Sg} {st9 : Sg} (rc12 : Int32 → Sg → Option Sg) (hrc12 : ∀ (x4 : Int32) (st : Sg) (ls : Array Slot) (H : Heap) (locs : List Loc), rc12 x4 st = some st9 → Hp g nwX (ceX g) A s.heap st H locs → lv_has ls 6 [(0, .ref (g.2.1 42)), (1, .ref (g.2.1 1)), (2, .ref (g.2.1 62)), (4, .int x4)] → W p l e rm_X6_goByPlan s m args below meth c H locs 0 0 (MQ below (QV g nwX (ceX g) A st9) args s 0 0 A) (F0 m 12 ls [])) (h : X6_goByPlan_72 62 rc12 x4 st = some st9) (Y : Hp g nwX (ceX g) A s.heap st H locs)  (hl : lv_has ls 6 [(0, .ref (g.2.1 42)), (1, .ref (g.2.1 1)), (2, .ref (g.2.1 62)), (4, .int x4)]) : W p l e rm_X6_goByPlan s m args below meth c H locs 0 0 (MQ below (QV g nwX (ceX g) A st9) args s 0 0 A) (F0 m 72 ls []) := by
  have hx := X.1
  have hb := X.2.1
  unfold X6_goByPlan_72 at h
  obtain ⟨v1, ev1, h⟩ := nm_s h
  refine lv_iinc (v := v1) (lv' := [(4, .int v1), (0, .ref (g.2.1 42)), (1, .ref (g.2.1 1)), (2, .ref (g.2.1 62))]) hx hb dX6_goByPlan_72 hl (k := 3) rfl (by rw [ev1]; rfl) (by decide) rfl (fun ls hl => ?_)
  refine lv_goto (tgt := 12) hx hb dX6_goByPlan_75 (by decide) ?_
  exact hrc12 v1 st _ _ _ h Y (lv_sub hl [1, 2, 3, 0] rfl)
set_option maxHeartbeats 4000000 in
set_option maxRecDepth 100000 in
theorem w_X6_goByPlan_30b_62 (X : Cx g p s m args meth c cX6_goByPlan 6 RX6 none) {x4 : Int32} {x5 : Int32} {st : Sg} {st9 : Sg} (rc12 : Int32 → Sg → Option Sg) (hrc12 : ∀ (x4 : Int32) (st : Sg) (ls : Array Slot) (H : Heap) (locs : List Loc), rc12 x4 st = some st9 → Hp g nwX (ceX g) A s.heap st H locs → lv_has ls 6 [(0, .ref (g.2.1 42)), (1, .ref (g.2.1 1)), (2, .ref (g.2.1 62)), (4, .int x4)] → W p l e rm_X6_goByPlan s m args below meth c H locs 0 0 (MQ below (QV g nwX (ceX g) A st9) args s 0 0 A) (F0 m 12 ls [])) (rc30 : Int32 → Sg → Option Sg) (hrc30 : ∀ (x5 : Int32) (st : Sg) (ls : Array Slot) (H : Heap) (locs : List Loc), rc30 x5 st = some st9 → Hp g nwX (ceX g) A s.heap st H locs → lv_has ls 6 [(0, .ref (g.2.1 42)), (1, .ref (g.2.1 1)), (2, .ref (g.2.1 62)), (4, .int x4), (5, .int x5)] → W p l e rm_X6_goByPlan s m args below meth c H locs 0 0 (MQ below (QV g nwX (ceX g) A st9) args s 0 0 A) (F0 m 30 ls [])) (h : X6_goByPlan_30b 62 rc12 rc30 x4 x5 st = some st9) (Y : Hp g nwX (ceX g) A s.heap st H locs)  (hl : lv_has ls 6 [(0, .ref (g.2.1 42)), (1, .ref (g.2.1 1)), (2, .ref (g.2.1 62)), (4, .int x4), (5, .int x5)]) : W p l e rm_X6_goByPlan s m args below meth c H locs 0 0 (MQ below (QV g nwX (ceX g) A st9) args s 0 0 A) (F0 m 30 ls []) := by
  have hx := X.1
  have hb := X.2.1
  unfold X6_goByPlan_30b at h
  refine lv_iload hx hb dX6_goByPlan_30 (lv_at hl 4 rfl) ?_
  refine lv_aload_n hx hb dX6_goByPlan_32 rfl (lv_at hl 1 rfl) ?_
  refine k_get (v := .int (st.1 1 9)) X Y fl_6_39 1 (Nat.le_of_ble_eq_true rfl) rfl rfl dX6_goByPlan_33 ?_
  refine lv_icmp_ge (tgt := 72) hx hb dX6_goByPlan_36 (by decide) (fun c1 => ?_) (fun c1 => ?_)
  · have h := ite_t h c1
    exact w_X6_goByPlan_72_62 X rc12 hrc12 h Y  (lv_sub hl [0, 1, 2, 3] rfl)
  · have h := ite_f h c1
    refine lv_aload_n hx hb dX6_goByPlan_39 rfl (lv_at hl 0 rfl) ?_
    refine lv_iload hx hb dX6_goByPlan_40 (lv_at hl 3 rfl) ?_
    refine lv_aload_n hx hb dX6_goByPlan_42 rfl (lv_at hl 1 rfl) ?_
    refine lv_iload hx hb dX6_goByPlan_43 (lv_at hl 4 rfl) ?_
    refine lv_iload hx hb dX6_goByPlan_45 (lv_at hl 3 rfl) ?_
    refine lv_aload_n hx hb dX6_goByPlan_47 rfl (lv_at hl 2 rfl) ?_
    refine lv_iload hx hb dX6_goByPlan_48 (lv_at hl 3 rfl) ?_
    obtain ⟨i2, h⟩ := cix_s h
    refine k_iald X Y 62 (Nat.le_of_ble_eq_true rfl) (fun _ _ => rfl) i2 dX6_goByPlan_50 ?_
    obtain ⟨v4, hc3, h⟩ := bnd1_s h
    refine k_cI Y (k_runV (As := [.int x5, .int x4, .int (st.1 62 x4.toNatClampNeg)]) (rest := [.int x4, .ref (g.2.1 42)]) (o := 1) X Y cl_6_42 (c_X3_chanceToBuy l hc3 _) ⟨rfl, rfl, Nat.le_of_ble_eq_true rfl, Nat.le_of_ble_eq_true rfl⟩ (Nat.le_of_ble_eq_true rfl) rfl rfl hl.1 rfl (Nat.le_of_ble_eq_true rfl) dX6_goByPlan_51 ⟨Nat.zero_le _, Nat.zero_le _⟩) (fun H locs Y => ?_)
    refine lv_aload_n hx hb dX6_goByPlan_54 rfl (lv_at hl 1 rfl) ?_
    refine k_get (v := .ref (g.2.1 2)) X Y fl_6_46 1 (Nat.le_of_ble_eq_true rfl) rfl rfl dX6_goByPlan_55 ?_
    refine lv_aload_n hx hb dX6_goByPlan_58 rfl (lv_at hl 2 rfl) ?_
    refine lv_iload hx hb dX6_goByPlan_59 (lv_at hl 3 rfl) ?_
    obtain ⟨i5, h⟩ := cix_s h
    refine k_iald X Y 62 (Nat.le_of_ble_eq_true rfl) (fun _ _ => rfl) i5 dX6_goByPlan_61 ?_
    obtain ⟨i6, h⟩ := cix_s h
    refine k_iald X Y 2 (Nat.le_of_ble_eq_true rfl) (fun _ _ => rfl) i6 dX6_goByPlan_62 ?_
    obtain ⟨st8, hc7, h⟩ := bnd1_s h
    refine k_cV Y (k_runV (As := [.int x4, .int v4, .int (st.1 2 (st.1 62 x4.toNatClampNeg).toNatClampNeg)]) (rest := []) (o := 42) X Y cl_6_50 (c_X6_passBuyer l hc7 _) ⟨rfl, rfl, Nat.le_of_ble_eq_true rfl, Nat.le_of_ble_eq_true rfl⟩ (Nat.le_of_ble_eq_true rfl) rfl rfl hl.1 rfl (Nat.le_of_ble_eq_true rfl) dX6_goByPlan_63 ⟨Nat.zero_le _, Nat.zero_le _⟩) (fun H locs Y => ?_)
    obtain ⟨v9, ev9, h⟩ := nm_s h
    refine lv_iinc (v := v9) (lv' := [(5, .int v9), (0, .ref (g.2.1 42)), (1, .ref (g.2.1 1)), (2, .ref (g.2.1 62)), (4, .int x4)]) hx hb dX6_goByPlan_66 hl (k := 4) rfl (by rw [ev9]; rfl) (by decide) rfl (fun ls hl => ?_)
    refine lv_goto (tgt := 30) hx hb dX6_goByPlan_69 (by decide) ?_
    exact hrc30 v9 st8 _ _ _ h Y (lv_sub hl [1, 2, 3, 4, 0] rfl)
theorem w_X6_goByPlan_30_62 (X : Cx g p s m args meth c cX6_goByPlan 6 RX6 none) {x4 : Int32}  {st9 : Sg} (rc12 : Int32 → Sg → Option Sg) (hrc12 : ∀ (x4 : Int32) (st : Sg) (ls : Array Slot) (H : Heap) (locs : List Loc), rc12 x4 st = some st9 → Hp g nwX (ceX g) A s.heap st H locs → lv_has ls 6 [(0, .ref (g.2.1 42)), (1, .ref (g.2.1 1)), (2, .ref (g.2.1 62)), (4, .int x4)] → W p l e rm_X6_goByPlan s m args below meth c H locs 0 0 (MQ below (QV g nwX (ceX g) A st9) args s 0 0 A) (F0 m 12 ls []))  : ∀ (k : Nat) (x5 : Int32) (st : Sg) (ls : Array Slot) (H : Heap) (locs : List Loc), X6_goByPlan_30 62 rc12 x4 k x5 st = some st9 → Hp g nwX (ceX g) A s.heap st H locs → lv_has ls 6 [(0, .ref (g.2.1 42)), (1, .ref (g.2.1 1)), (2, .ref (g.2.1 62)), (4, .int x4), (5, .int x5)] → W p l e rm_X6_goByPlan s m args below meth c H locs 0 0 (MQ below (QV g nwX (ceX g) A st9) args s 0 0 A) (F0 m 30 ls []) := by
  intro k
  induction k with
  | zero =>
    intro x5 st ls H locs h
    exact none_s h
  | succ k ih =>
    intro x5 st ls H locs h Y hl
    exact w_X6_goByPlan_30b_62 X rc12 hrc12 (X6_goByPlan_30 62 rc12 x4 k) ih h Y  hl
set_option maxHeartbeats 4000000 in
set_option maxRecDepth 100000 in
theorem w_X6_goByPlan_78_62 (X : Cx g p s m args meth c cX6_goByPlan 6 RX6 none)  {st : Sg} {st9 : Sg}  (h : X6_goByPlan_78 62 st = some st9) (Y : Hp g nwX (ceX g) A s.heap st H locs)  (hl : lv_has ls 6 []) : W p l e rm_X6_goByPlan s m args below meth c H locs 0 0 (MQ below (QV g nwX (ceX g) A st9) args s 0 0 A) (F0 m 78 ls []) := by
  have hx := X.1
  have hb := X.2.1
  unfold X6_goByPlan_78 at h
  exact k_vretW X Y h dX6_goByPlan_78
set_option maxHeartbeats 4000000 in
set_option maxRecDepth 100000 in
theorem w_X6_goByPlan_12b_62 (X : Cx g p s m args meth c cX6_goByPlan 6 RX6 none) {x4 : Int32} {st : Sg} {st9 : Sg} (rc12 : Int32 → Sg → Option Sg) (hrc12 : ∀ (x4 : Int32) (st : Sg) (ls : Array Slot) (H : Heap) (locs : List Loc), rc12 x4 st = some st9 → Hp g nwX (ceX g) A s.heap st H locs → lv_has ls 6 [(0, .ref (g.2.1 42)), (1, .ref (g.2.1 1)), (2, .ref (g.2.1 62)), (4, .int x4)] → W p l e rm_X6_goByPlan s m args below meth c H locs 0 0 (MQ below (QV g nwX (ceX g) A st9) args s 0 0 A) (F0 m 12 ls [])) (h : X6_goByPlan_12b 62 rc12 x4 st = some st9) (Y : Hp g nwX (ceX g) A s.heap st H locs)  (hl : lv_has ls 6 [(0, .ref (g.2.1 42)), (1, .ref (g.2.1 1)), (2, .ref (g.2.1 62)), (4, .int x4)]) : W p l e rm_X6_goByPlan s m args below meth c H locs 0 0 (MQ below (QV g nwX (ceX g) A st9) args s 0 0 A) (F0 m 12 ls []) := by
  have hx := X.1
  have hb := X.2.1
  unfold X6_goByPlan_12b at h
  refine lv_iload hx hb dX6_goByPlan_12 (lv_at hl 3 rfl) ?_
  refine lv_aload_n hx hb dX6_goByPlan_14 rfl (lv_at hl 1 rfl) ?_
  refine k_get (v := .int (st.1 1 1)) X Y fl_6_29 1 (Nat.le_of_ble_eq_true rfl) rfl rfl dX6_goByPlan_15 ?_
  refine lv_icmp_ge (tgt := 78) hx hb dX6_goByPlan_18 (by decide) (fun c1 => ?_) (fun c1 => ?_)
  · have h := ite_t h c1
    exact w_X6_goByPlan_78_62 X  h Y  (lv_sub hl [] rfl)
  · have h := ite_f h c1
    refine lv_aload_n hx hb dX6_goByPlan_21 rfl (lv_at hl 0 rfl) ?_
    refine lv_iload hx hb dX6_goByPlan_22 (lv_at hl 3 rfl) ?_
    obtain ⟨st3, hc2, h⟩ := bnd1_s h
    refine k_cV Y (k_runV (As := [.int x4]) (rest := []) (o := 42) X Y cl_6_35 (c_X6_openDay l hc2 _) ⟨rfl, rfl, Nat.le_of_ble_eq_true rfl, Nat.le_of_ble_eq_true rfl⟩ (Nat.le_of_ble_eq_true rfl) rfl rfl hl.1 rfl (Nat.le_of_ble_eq_true rfl) dX6_goByPlan_24 ⟨Nat.zero_le _, Nat.zero_le _⟩) (fun H locs Y => ?_)
    refine lv_iconst (v := 0) hx hb dX6_goByPlan_27 (by decide) ?_
    refine lv_istore (lv' := [(5, .int 0), (0, .ref (g.2.1 42)), (1, .ref (g.2.1 1)), (2, .ref (g.2.1 62)), (4, .int x4)]) hx hb dX6_goByPlan_28 hl (by decide) rfl (fun ls hl => ?_)
    exact w_X6_goByPlan_30_62 X rc12 hrc12  FU 0 st3 _ _ _ h Y (lv_sub hl [1, 2, 3, 4, 0] rfl)
theorem w_X6_goByPlan_12_62 (X : Cx g p s m args meth c cX6_goByPlan 6 RX6 none)   {st9 : Sg}   : ∀ (k : Nat) (x4 : Int32) (st : Sg) (ls : Array Slot) (H : Heap) (locs : List Loc), X6_goByPlan_12 62 k x4 st = some st9 → Hp g nwX (ceX g) A s.heap st H locs → lv_has ls 6 [(0, .ref (g.2.1 42)), (1, .ref (g.2.1 1)), (2, .ref (g.2.1 62)), (4, .int x4)] → W p l e rm_X6_goByPlan s m args below meth c H locs 0 0 (MQ below (QV g nwX (ceX g) A st9) args s 0 0 A) (F0 m 12 ls []) := by
  intro k
  induction k with
  | zero =>
    intro x4 st ls H locs h
    exact none_s h
  | succ k ih =>
    intro x4 st ls H locs h Y hl
    exact w_X6_goByPlan_12b_62 X  (X6_goByPlan_12 62 k) ih h Y  hl
set_option maxHeartbeats 4000000 in
set_option maxRecDepth 100000 in
theorem w_X6_goByPlan_9_62 (X : Cx g p s m args meth c cX6_goByPlan 6 RX6 none) {x3 : Int32} {st : Sg} {st9 : Sg}  (h : X6_goByPlan_9 62 x3 st = some st9) (Y : Hp g nwX (ceX g) A s.heap st H locs)  (hl : lv_has ls 6 [(0, .ref (g.2.1 42)), (1, .ref (g.2.1 1)), (2, .ref (g.2.1 62)), (3, .int x3)]) : W p l e rm_X6_goByPlan s m args below meth c H locs 0 0 (MQ below (QV g nwX (ceX g) A st9) args s 0 0 A) (F0 m 9 ls []) := by
  have hx := X.1
  have hb := X.2.1
  unfold X6_goByPlan_9 at h
  refine lv_iload_n hx hb dX6_goByPlan_9 rfl (lv_at hl 3 rfl) ?_
  refine lv_istore (lv' := [(4, .int x3), (0, .ref (g.2.1 42)), (1, .ref (g.2.1 1)), (2, .ref (g.2.1 62)), (3, .int x3)]) hx hb dX6_goByPlan_10 hl (by decide) rfl (fun ls hl => ?_)
  exact w_X6_goByPlan_12_62 X   FU x3 st _ _ _ h Y (lv_sub hl [1, 2, 3, 0] rfl)
set_option maxHeartbeats 4000000 in
set_option maxRecDepth 100000 in
theorem w_X6_goByPlan_62 (X : Cx g p s m args meth c cX6_goByPlan 6 RX6 none) {x3 : Int32} {st : Sg} {st9 : Sg}  (h : X6_goByPlan 62 x3 st = some st9) (Y : Hp g nwX (ceX g) A s.heap st H locs)  (hl : lv_has ls 6 [(0, .ref (g.2.1 42)), (1, .ref (g.2.1 1)), (2, .ref (g.2.1 62)), (3, .int x3)]) : W p l e rm_X6_goByPlan s m args below meth c H locs 0 0 (MQ below (QV g nwX (ceX g) A st9) args s 0 0 A) (F0 m 0 ls []) := by
  have hx := X.1
  have hb := X.2.1
  unfold X6_goByPlan at h
  refine lv_iload_n hx hb dX6_goByPlan_0 rfl (lv_at hl 3 rfl) ?_
  refine lv_if_ne (tgt := 9) hx hb dX6_goByPlan_1 (by decide) (fun c1 => ?_) (fun c1 => ?_)
  · have h := ite_f h c1
    exact w_X6_goByPlan_9_62 X  h Y  (lv_sub hl [0, 1, 2, 3] rfl)
  · have h := ite_t h c1
    refine lv_aload_n hx hb dX6_goByPlan_4 rfl (lv_at hl 0 rfl) ?_
    refine lv_aload_n hx hb dX6_goByPlan_5 rfl (lv_at hl 1 rfl) ?_
    obtain ⟨st3, hc2, h⟩ := bnd1_s h
    refine k_cV Y (k_runV (As := [.ref (g.2.1 1)]) (rest := []) (o := 42) X Y cl_6_25 (c_X6_begin l hc2 _) ⟨rfl, rfl, Nat.le_of_ble_eq_true rfl, Nat.le_of_ble_eq_true rfl⟩ (Nat.le_of_ble_eq_true rfl) rfl rfl hl.1 rfl (Nat.le_of_ble_eq_true rfl) dX6_goByPlan_6 ⟨Nat.zero_le _, Nat.zero_le _⟩) (fun H locs Y => ?_)
    exact w_X6_goByPlan_9_62 X  h Y  (lv_sub hl [0, 1, 2, 3] rfl)
theorem c_X6_goByPlan_62 (l : Launch) {g : Gx} {x3 : Int32} {st : Sg} {st9 : Sg} (h : X6_goByPlan 62 x3 st = some st9) : MetV l yX6_goByPlan cX6_goByPlan 6 none rm_X6_goByPlan g nwX (ceX g) [.ref (g.2.1 42), .ref (g.2.1 1), .ref (g.2.1 62), .int x3] st st9 :=
  met_of (Qc := fun A => QV g nwX (ceX g) A st9) (by decide) (Nat.le_of_ble_eq_true rfl) (fun p e s m below meth c A ls X Y hl => w_X6_goByPlan_62 X h Y hl)
end LIFT
