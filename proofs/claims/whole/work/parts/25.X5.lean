/-! lifted by program: SaturdaySale$Table.askByPlan, SaturdaySale.rather, SaturdaySale$Rule.readInClause, SaturdaySale$Rule.read, SaturdaySale.rule, SaturdaySale.say, SaturdaySale.set, SaturdaySale.sort, SaturdaySale.state, SaturdaySale.told -/
section LIFT
variable {p : Program} {l : Launch} {e : Env} {s : State} {m : MethodId} {args : Array Value} {below : List Frame} {meth : Method} {c : Code} {g : Gx} {A : Nat → Prop} {H : Heap} {locs : List Loc} {ls : Array Slot}
def X4_askByPlan_33  (rc2 : Int32 → Sg → Option Sg) (x2 : Int32) (st : Sg) : Option Sg :=
  nm (x2 + 1) fun v1 =>
  rc2 v1 st
def X4_askByPlan_10b  (rc2 : Int32 → Sg → Option Sg) (rc10 : Int32 → Sg → Option Sg) (x2 : Int32) (x3 : Int32) (st : Sg) : Option Sg :=
  if (12 : Int32) < x3 then
    X4_askByPlan_33 rc2 x2 st
  else
    cix x2 6 <|
    cix x2 6 <|
    cix x3 13 <|
    nm (sI st (35 + (x2).toNatClampNeg) x3.toNatClampNeg (st.1 62 x2.toNatClampNeg)) fun st5 =>
    nm (x3 + 1) fun v6 =>
    rc10 v6 st5
def X4_askByPlan_10  (rc2 : Int32 → Sg → Option Sg) (x2 : Int32) : Nat → Int32 → Sg → Option Sg
  | 0, _, _ => none
  | k + 1, x3, st => X4_askByPlan_10b  rc2 (X4_askByPlan_10 rc2 x2 k) x2 x3 st
def X4_askByPlan_39    (st : Sg) : Option Sg :=
  some st
def X4_askByPlan_2b  (rc2 : Int32 → Sg → Option Sg) (x2 : Int32) (st : Sg) : Option Sg :=
  if (6 : Int32) ≤ x2 then
    X4_askByPlan_39 st
  else
    X4_askByPlan_10 rc2 x2 FU 0 st
def X4_askByPlan_2    : Nat → Int32 → Sg → Option Sg
  | 0, _, _ => none
  | k + 1, x2, st => X4_askByPlan_2b   (X4_askByPlan_2 k) x2 st
def X4_askByPlan    (st : Sg) : Option Sg :=
  X4_askByPlan_2 FU 0 st
abbrev rm_X4_askByPlan : Room := { frames := 0, cells := 0, slots := 0, locals := 0 }
set_option maxHeartbeats 4000000 in
set_option maxRecDepth 100000 in
theorem w_X4_askByPlan_33 (X : Cx g p s m args meth c cX4_askByPlan 4 RX4 none) {x2 : Int32} {st : Sg} {st9 : Sg} (rc2 : Int32 → Sg → Option Sg) (hrc2 : ∀ (x2 : Int32) (st : Sg) (ls : Array Slot) (H : Heap) (locs : List Loc), rc2 x2 st = some st9 → Hp g nwX (ceX g) A s.heap st H locs → lv_has ls 4 [(0, .ref (g.2.1 25)), (1, .ref (g.2.1 62)), (2, .int x2)] → W p l e rm_X4_askByPlan s m args below meth c H locs 0 0 (MQ below (QV g nwX (ceX g) A st9) args s 0 0 A) (F0 m 2 ls [])) (h : X4_askByPlan_33 rc2 x2 st = some st9) (Y : Hp g nwX (ceX g) A s.heap st H locs)  (hl : lv_has ls 4 [(0, .ref (g.2.1 25)), (1, .ref (g.2.1 62)), (2, .int x2)]) : W p l e rm_X4_askByPlan s m args below meth c H locs 0 0 (MQ below (QV g nwX (ceX g) A st9) args s 0 0 A) (F0 m 33 ls []) := by
  have hx := X.1
  have hb := X.2.1
  unfold X4_askByPlan_33 at h
  obtain ⟨v1, ev1, h⟩ := nm_s h
  refine lv_iinc (v := v1) (lv' := [(2, .int v1), (0, .ref (g.2.1 25)), (1, .ref (g.2.1 62))]) hx hb dX4_askByPlan_33 hl (k := 2) rfl (by rw [ev1]; rfl) (by decide) rfl (fun ls hl => ?_)
  refine lv_goto (tgt := 2) hx hb dX4_askByPlan_36 (by decide) ?_
  exact hrc2 v1 st _ _ _ h Y (lv_sub hl [1, 2, 0] rfl)
set_option maxHeartbeats 4000000 in
set_option maxRecDepth 100000 in
theorem w_X4_askByPlan_10b (X : Cx g p s m args meth c cX4_askByPlan 4 RX4 none) {x2 : Int32} {x3 : Int32} {st : Sg} {st9 : Sg} (rc2 : Int32 → Sg → Option Sg) (hrc2 : ∀ (x2 : Int32) (st : Sg) (ls : Array Slot) (H : Heap) (locs : List Loc), rc2 x2 st = some st9 → Hp g nwX (ceX g) A s.heap st H locs → lv_has ls 4 [(0, .ref (g.2.1 25)), (1, .ref (g.2.1 62)), (2, .int x2)] → W p l e rm_X4_askByPlan s m args below meth c H locs 0 0 (MQ below (QV g nwX (ceX g) A st9) args s 0 0 A) (F0 m 2 ls [])) (rc10 : Int32 → Sg → Option Sg) (hrc10 : ∀ (x3 : Int32) (st : Sg) (ls : Array Slot) (H : Heap) (locs : List Loc), rc10 x3 st = some st9 → Hp g nwX (ceX g) A s.heap st H locs → lv_has ls 4 [(0, .ref (g.2.1 25)), (1, .ref (g.2.1 62)), (2, .int x2), (3, .int x3)] → W p l e rm_X4_askByPlan s m args below meth c H locs 0 0 (MQ below (QV g nwX (ceX g) A st9) args s 0 0 A) (F0 m 10 ls [])) (h : X4_askByPlan_10b rc2 rc10 x2 x3 st = some st9) (Y : Hp g nwX (ceX g) A s.heap st H locs)  (hl : lv_has ls 4 [(0, .ref (g.2.1 25)), (1, .ref (g.2.1 62)), (2, .int x2), (3, .int x3)]) : W p l e rm_X4_askByPlan s m args below meth c H locs 0 0 (MQ below (QV g nwX (ceX g) A st9) args s 0 0 A) (F0 m 10 ls []) := by
  have hx := X.1
  have hb := X.2.1
  unfold X4_askByPlan_10b at h
  refine lv_iload_n hx hb dX4_askByPlan_10 rfl (lv_at hl 3 rfl) ?_
  refine lv_bipush (v := 12) hx hb dX4_askByPlan_11 (by decide) ?_
  refine lv_icmp_gt (tgt := 33) hx hb dX4_askByPlan_13 (by decide) (fun c1 => ?_) (fun c1 => ?_)
  · have h := ite_t h c1
    exact w_X4_askByPlan_33 X rc2 hrc2 h Y  (lv_sub hl [0, 1, 2] rfl)
  · have h := ite_f h c1
    refine lv_aload_n hx hb dX4_askByPlan_16 rfl (lv_at hl 0 rfl) ?_
    refine k_get (v := .ref (g.2.1 34)) X Y fl_4_18 25 (Nat.le_of_ble_eq_true rfl) rfl rfl dX4_askByPlan_17 ?_
    refine lv_iload_n hx hb dX4_askByPlan_20 rfl (lv_at hl 2 rfl) ?_
    obtain ⟨i2, h⟩ := cix_s h
    refine k_aaldI (b := 35) X Y 34 (Nat.le_of_ble_eq_true rfl) (fun _ _ => rfl) i2 dX4_askByPlan_21 ?_
    refine lv_iload_n hx hb dX4_askByPlan_22 rfl (lv_at hl 3 rfl) ?_
    refine lv_aload_n hx hb dX4_askByPlan_23 rfl (lv_at hl 1 rfl) ?_
    refine lv_iload_n hx hb dX4_askByPlan_24 rfl (lv_at hl 2 rfl) ?_
    obtain ⟨i3, h⟩ := cix_s h
    refine k_iald X Y 62 (Nat.le_of_ble_eq_true rfl) (fun _ _ => rfl) i3 dX4_askByPlan_25 ?_
    obtain ⟨i4, h⟩ := cix_s h
    refine k_iast X Y (35 + (x2).toNatClampNeg) (row_lt i2 (Nat.le_of_ble_eq_true rfl)) (rowX_35 _ (vp_lt i2)) i4 dX4_askByPlan_26 (fun H locs Y => ?_)
    obtain ⟨st5, est5, h⟩ := nm_s h
    have Y : Hp g nwX (ceX g) A s.heap st5 H locs := by rw [est5]; exact Y
    obtain ⟨v6, ev6, h⟩ := nm_s h
    refine lv_iinc (v := v6) (lv' := [(3, .int v6), (0, .ref (g.2.1 25)), (1, .ref (g.2.1 62)), (2, .int x2)]) hx hb dX4_askByPlan_27 hl (k := 3) rfl (by rw [ev6]; rfl) (by decide) rfl (fun ls hl => ?_)
    refine lv_goto (tgt := 10) hx hb dX4_askByPlan_30 (by decide) ?_
    exact hrc10 v6 st5 _ _ _ h Y (lv_sub hl [1, 2, 3, 0] rfl)
theorem w_X4_askByPlan_10 (X : Cx g p s m args meth c cX4_askByPlan 4 RX4 none) {x2 : Int32}  {st9 : Sg} (rc2 : Int32 → Sg → Option Sg) (hrc2 : ∀ (x2 : Int32) (st : Sg) (ls : Array Slot) (H : Heap) (locs : List Loc), rc2 x2 st = some st9 → Hp g nwX (ceX g) A s.heap st H locs → lv_has ls 4 [(0, .ref (g.2.1 25)), (1, .ref (g.2.1 62)), (2, .int x2)] → W p l e rm_X4_askByPlan s m args below meth c H locs 0 0 (MQ below (QV g nwX (ceX g) A st9) args s 0 0 A) (F0 m 2 ls []))  : ∀ (k : Nat) (x3 : Int32) (st : Sg) (ls : Array Slot) (H : Heap) (locs : List Loc), X4_askByPlan_10 rc2 x2 k x3 st = some st9 → Hp g nwX (ceX g) A s.heap st H locs → lv_has ls 4 [(0, .ref (g.2.1 25)), (1, .ref (g.2.1 62)), (2, .int x2), (3, .int x3)] → W p l e rm_X4_askByPlan s m args below meth c H locs 0 0 (MQ below (QV g nwX (ceX g) A st9) args s 0 0 A) (F0 m 10 ls []) := by
  intro k
  induction k with
  | zero =>
    intro x3 st ls H locs h
    exact none_s h
  | succ k ih =>
    intro x3 st ls H locs h Y hl
    exact w_X4_askByPlan_10b X rc2 hrc2 (X4_askByPlan_10 rc2 x2 k) ih h Y  hl
set_option maxHeartbeats 4000000 in
set_option maxRecDepth 100000 in
theorem w_X4_askByPlan_39 (X : Cx g p s m args meth c cX4_askByPlan 4 RX4 none)  {st : Sg} {st9 : Sg}  (h : X4_askByPlan_39 st = some st9) (Y : Hp g nwX (ceX g) A s.heap st H locs)  (hl : lv_has ls 4 []) : W p l e rm_X4_askByPlan s m args below meth c H locs 0 0 (MQ below (QV g nwX (ceX g) A st9) args s 0 0 A) (F0 m 39 ls []) := by
  have hx := X.1
  have hb := X.2.1
  unfold X4_askByPlan_39 at h
  exact k_vretW X Y h dX4_askByPlan_39
set_option maxHeartbeats 4000000 in
set_option maxRecDepth 100000 in
theorem w_X4_askByPlan_2b (X : Cx g p s m args meth c cX4_askByPlan 4 RX4 none) {x2 : Int32} {st : Sg} {st9 : Sg} (rc2 : Int32 → Sg → Option Sg) (hrc2 : ∀ (x2 : Int32) (st : Sg) (ls : Array Slot) (H : Heap) (locs : List Loc), rc2 x2 st = some st9 → Hp g nwX (ceX g) A s.heap st H locs → lv_has ls 4 [(0, .ref (g.2.1 25)), (1, .ref (g.2.1 62)), (2, .int x2)] → W p l e rm_X4_askByPlan s m args below meth c H locs 0 0 (MQ below (QV g nwX (ceX g) A st9) args s 0 0 A) (F0 m 2 ls [])) (h : X4_askByPlan_2b rc2 x2 st = some st9) (Y : Hp g nwX (ceX g) A s.heap st H locs)  (hl : lv_has ls 4 [(0, .ref (g.2.1 25)), (1, .ref (g.2.1 62)), (2, .int x2)]) : W p l e rm_X4_askByPlan s m args below meth c H locs 0 0 (MQ below (QV g nwX (ceX g) A st9) args s 0 0 A) (F0 m 2 ls []) := by
  have hx := X.1
  have hb := X.2.1
  unfold X4_askByPlan_2b at h
  refine lv_iload_n hx hb dX4_askByPlan_2 rfl (lv_at hl 2 rfl) ?_
  refine lv_bipush (v := 6) hx hb dX4_askByPlan_3 (by decide) ?_
  refine lv_icmp_ge (tgt := 39) hx hb dX4_askByPlan_5 (by decide) (fun c1 => ?_) (fun c1 => ?_)
  · have h := ite_t h c1
    exact w_X4_askByPlan_39 X  h Y  (lv_sub hl [] rfl)
  · have h := ite_f h c1
    refine lv_iconst (v := 0) hx hb dX4_askByPlan_8 (by decide) ?_
    refine lv_istore_n (lv' := [(3, .int 0), (0, .ref (g.2.1 25)), (1, .ref (g.2.1 62)), (2, .int x2)]) hx hb dX4_askByPlan_9 rfl hl (by decide) rfl (fun ls hl => ?_)
    exact w_X4_askByPlan_10 X rc2 hrc2  FU 0 st _ _ _ h Y (lv_sub hl [1, 2, 3, 0] rfl)
theorem w_X4_askByPlan_2 (X : Cx g p s m args meth c cX4_askByPlan 4 RX4 none)   {st9 : Sg}   : ∀ (k : Nat) (x2 : Int32) (st : Sg) (ls : Array Slot) (H : Heap) (locs : List Loc), X4_askByPlan_2 k x2 st = some st9 → Hp g nwX (ceX g) A s.heap st H locs → lv_has ls 4 [(0, .ref (g.2.1 25)), (1, .ref (g.2.1 62)), (2, .int x2)] → W p l e rm_X4_askByPlan s m args below meth c H locs 0 0 (MQ below (QV g nwX (ceX g) A st9) args s 0 0 A) (F0 m 2 ls []) := by
  intro k
  induction k with
  | zero =>
    intro x2 st ls H locs h
    exact none_s h
  | succ k ih =>
    intro x2 st ls H locs h Y hl
    exact w_X4_askByPlan_2b X  (X4_askByPlan_2 k) ih h Y  hl
set_option maxHeartbeats 4000000 in
set_option maxRecDepth 100000 in
theorem w_X4_askByPlan (X : Cx g p s m args meth c cX4_askByPlan 4 RX4 none)  {st : Sg} {st9 : Sg}  (h : X4_askByPlan st = some st9) (Y : Hp g nwX (ceX g) A s.heap st H locs)  (hl : lv_has ls 4 [(0, .ref (g.2.1 25)), (1, .ref (g.2.1 62))]) : W p l e rm_X4_askByPlan s m args below meth c H locs 0 0 (MQ below (QV g nwX (ceX g) A st9) args s 0 0 A) (F0 m 0 ls []) := by
  have hx := X.1
  have hb := X.2.1
  unfold X4_askByPlan at h
  refine lv_iconst (v := 0) hx hb dX4_askByPlan_0 (by decide) ?_
  refine lv_istore_n (lv' := [(2, .int 0), (0, .ref (g.2.1 25)), (1, .ref (g.2.1 62))]) hx hb dX4_askByPlan_1 rfl hl (by decide) rfl (fun ls hl => ?_)
  exact w_X4_askByPlan_2 X   FU 0 st _ _ _ h Y (lv_sub hl [1, 2, 0] rfl)
theorem c_X4_askByPlan (l : Launch) {g : Gx}  {st : Sg} {st9 : Sg} (h : X4_askByPlan st = some st9) : MetV l yX4_askByPlan cX4_askByPlan 4 none rm_X4_askByPlan g nwX (ceX g) [.ref (g.2.1 25), .ref (g.2.1 62)] st st9 :=
  met_of (Qc := fun A => QV g nwX (ceX g) A st9) (by decide) (Nat.le_of_ble_eq_true rfl) (fun p e s m below meth c A ls X Y hl => w_X4_askByPlan X h Y hl)
def X7_rather_132   (x2 : Int32) (x3 : Int32) (st : Sg) : Option (Int32 × Sg) :=
  some ((100 * x2) + x3, st)
def X7_rather_139  (rc66 : Int32 → Sg → Option (Int32 × Sg)) (rc79 : Int32 → Sg → Option (Int32 × Sg)) (x2 : Int32) (x3 : Int32) (st : Sg) : Option (Int32 × Sg) :=
  nm (x3 + 1) fun v1 =>
  rc79 v1 st
def X7_rather_145  (rc66 : Int32 → Sg → Option (Int32 × Sg)) (x2 : Int32) (st : Sg) : Option (Int32 × Sg) :=
  nm (x2 + 1) fun v1 =>
  rc66 v1 st
def X7_rather_79b  (rc66 : Int32 → Sg → Option (Int32 × Sg)) (rc79 : Int32 → Sg → Option (Int32 × Sg)) (x2 : Int32) (x3 : Int32) (st : Sg) : Option (Int32 × Sg) :=
  if (st.1 1 0) < x3 then
    X7_rather_145 rc66 x2 st
  else
    cix x2 7 <|
    cix x3 13 <|
    if (lg_cmp (st.2 (44 + (x2).toNatClampNeg) x3.toNatClampNeg) 0) ≤ (0 : Int32) then
      X7_rather_139 rc66 rc79 x2 x3 st
    else
      cix x2 7 <|
      cix x3 13 <|
      cix x2 7 <|
      cix x3 13 <|
      if (lg_cmp (st.2 (10 + (x2).toNatClampNeg) x3.toNatClampNeg) (st.2 (27 + (x2).toNatClampNeg) x3.toNatClampNeg)) ≤ (0 : Int32) then
        X7_rather_139 rc66 rc79 x2 x3 st
      else
        X7_rather_132 x2 x3 st
def X7_rather_79  (rc66 : Int32 → Sg → Option (Int32 × Sg)) (x2 : Int32) : Nat → Int32 → Sg → Option (Int32 × Sg)
  | 0, _, _ => none
  | k + 1, x3, st => X7_rather_79b  rc66 (X7_rather_79 rc66 x2 k) x2 x3 st
def X7_rather_151    (st : Sg) : Option (Int32 × Sg) :=
  some ((-6), st)
def X7_rather_66b  (rc66 : Int32 → Sg → Option (Int32 × Sg)) (x2 : Int32) (st : Sg) : Option (Int32 × Sg) :=
  if (st.1 1 1) ≤ x2 then
    X7_rather_151 st
  else
    X7_rather_79 rc66 x2 FU 0 st
def X7_rather_66    : Nat → Int32 → Sg → Option (Int32 × Sg)
  | 0, _, _ => none
  | k + 1, x2, st => X7_rather_66b   (X7_rather_66 k) x2 st
def X7_rather    (st : Sg) : Option (Int32 × Sg) :=
  bnd1 (X7_refusalOf 1 st) fun v2 =>
  if v2 = (0 : Int32) then
    bnd1 (X7_findBest st) fun st5 =>
    bnd1 (X7_findKept st5) fun st7 =>
    bnd1 (X4_askByPlan st7) fun st9 =>
    bnd1 (X4_fillAsked st9) fun st11 =>
    bnd1 (X6_goByPlan 62 0 st11) fun st13 =>
    X7_rather_66 FU 0 st13
  else
    some (v2, st)
abbrev rm_X7_rather : Room := { frames := 5, cells := 0, slots := 0, locals := 115 }
set_option maxHeartbeats 4000000 in
set_option maxRecDepth 100000 in
theorem w_X7_rather_132 (X : Cx g p s m args meth c cX7_rather 4 RX7 (some .int)) {x2 : Int32} {x3 : Int32} {st : Sg} {r9 : Int32} {st9 : Sg}  (h : X7_rather_132 x2 x3 st = some (r9, st9)) (Y : Hp g nwX (ceX g) A s.heap st H locs)  (hl : lv_has ls 4 [(2, .int x2), (3, .int x3)]) : W p l e rm_X7_rather s m args below meth c H locs 0 0 (MQ below (QI g nwX (ceX g) A r9 st9) args s 0 0 A) (F0 m 132 ls []) := by
  have hx := X.1
  have hb := X.2.1
  unfold X7_rather_132 at h
  refine lv_bipush (v := 100) hx hb dX7_rather_132 (by decide) ?_
  refine lv_iload_n hx hb dX7_rather_134 rfl (lv_at hl 0 rfl) ?_
  refine lv_imul hx hb dX7_rather_135 ?_
  refine lv_iload_n hx hb dX7_rather_136 rfl (lv_at hl 1 rfl) ?_
  refine lv_iadd hx hb dX7_rather_137 ?_
  exact k_iretW X Y h dX7_rather_138
set_option maxHeartbeats 4000000 in
set_option maxRecDepth 100000 in
theorem w_X7_rather_139 (X : Cx g p s m args meth c cX7_rather 4 RX7 (some .int)) {x2 : Int32} {x3 : Int32} {st : Sg} {r9 : Int32} {st9 : Sg} (rc66 : Int32 → Sg → Option (Int32 × Sg)) (hrc66 : ∀ (x2 : Int32) (st : Sg) (ls : Array Slot) (H : Heap) (locs : List Loc), rc66 x2 st = some (r9, st9) → Hp g nwX (ceX g) A s.heap st H locs → lv_has ls 4 [(0, .ref (g.2.1 0)), (2, .int x2)] → W p l e rm_X7_rather s m args below meth c H locs 0 0 (MQ below (QI g nwX (ceX g) A r9 st9) args s 0 0 A) (F0 m 66 ls [])) (rc79 : Int32 → Sg → Option (Int32 × Sg)) (hrc79 : ∀ (x3 : Int32) (st : Sg) (ls : Array Slot) (H : Heap) (locs : List Loc), rc79 x3 st = some (r9, st9) → Hp g nwX (ceX g) A s.heap st H locs → lv_has ls 4 [(0, .ref (g.2.1 0)), (2, .int x2), (3, .int x3)] → W p l e rm_X7_rather s m args below meth c H locs 0 0 (MQ below (QI g nwX (ceX g) A r9 st9) args s 0 0 A) (F0 m 79 ls [])) (h : X7_rather_139 rc66 rc79 x2 x3 st = some (r9, st9)) (Y : Hp g nwX (ceX g) A s.heap st H locs)  (hl : lv_has ls 4 [(0, .ref (g.2.1 0)), (2, .int x2), (3, .int x3)]) : W p l e rm_X7_rather s m args below meth c H locs 0 0 (MQ below (QI g nwX (ceX g) A r9 st9) args s 0 0 A) (F0 m 139 ls []) := by
  have hx := X.1
  have hb := X.2.1
  unfold X7_rather_139 at h
  obtain ⟨v1, ev1, h⟩ := nm_s h
  refine lv_iinc (v := v1) (lv' := [(3, .int v1), (0, .ref (g.2.1 0)), (2, .int x2)]) hx hb dX7_rather_139 hl (k := 2) rfl (by rw [ev1]; rfl) (by decide) rfl (fun ls hl => ?_)
  refine lv_goto (tgt := 79) hx hb dX7_rather_142 (by decide) ?_
  exact hrc79 v1 st _ _ _ h Y (lv_sub hl [1, 2, 0] rfl)
set_option maxHeartbeats 4000000 in
set_option maxRecDepth 100000 in
theorem w_X7_rather_145 (X : Cx g p s m args meth c cX7_rather 4 RX7 (some .int)) {x2 : Int32} {st : Sg} {r9 : Int32} {st9 : Sg} (rc66 : Int32 → Sg → Option (Int32 × Sg)) (hrc66 : ∀ (x2 : Int32) (st : Sg) (ls : Array Slot) (H : Heap) (locs : List Loc), rc66 x2 st = some (r9, st9) → Hp g nwX (ceX g) A s.heap st H locs → lv_has ls 4 [(0, .ref (g.2.1 0)), (2, .int x2)] → W p l e rm_X7_rather s m args below meth c H locs 0 0 (MQ below (QI g nwX (ceX g) A r9 st9) args s 0 0 A) (F0 m 66 ls [])) (h : X7_rather_145 rc66 x2 st = some (r9, st9)) (Y : Hp g nwX (ceX g) A s.heap st H locs)  (hl : lv_has ls 4 [(0, .ref (g.2.1 0)), (2, .int x2)]) : W p l e rm_X7_rather s m args below meth c H locs 0 0 (MQ below (QI g nwX (ceX g) A r9 st9) args s 0 0 A) (F0 m 145 ls []) := by
  have hx := X.1
  have hb := X.2.1
  unfold X7_rather_145 at h
  obtain ⟨v1, ev1, h⟩ := nm_s h
  refine lv_iinc (v := v1) (lv' := [(2, .int v1), (0, .ref (g.2.1 0))]) hx hb dX7_rather_145 hl (k := 1) rfl (by rw [ev1]; rfl) (by decide) rfl (fun ls hl => ?_)
  refine lv_goto (tgt := 66) hx hb dX7_rather_148 (by decide) ?_
  exact hrc66 v1 st _ _ _ h Y (lv_sub hl [1, 0] rfl)
set_option maxHeartbeats 4000000 in
set_option maxRecDepth 100000 in
theorem w_X7_rather_79b (X : Cx g p s m args meth c cX7_rather 4 RX7 (some .int)) {x2 : Int32} {x3 : Int32} {st : Sg} {r9 : Int32} {st9 : Sg} (rc66 : Int32 → Sg → Option (Int32 × Sg)) (hrc66 : ∀ (x2 : Int32) (st : Sg) (ls : Array Slot) (H : Heap) (locs : List Loc), rc66 x2 st = some (r9, st9) → Hp g nwX (ceX g) A s.heap st H locs → lv_has ls 4 [(0, .ref (g.2.1 0)), (2, .int x2)] → W p l e rm_X7_rather s m args below meth c H locs 0 0 (MQ below (QI g nwX (ceX g) A r9 st9) args s 0 0 A) (F0 m 66 ls [])) (rc79 : Int32 → Sg → Option (Int32 × Sg)) (hrc79 : ∀ (x3 : Int32) (st : Sg) (ls : Array Slot) (H : Heap) (locs : List Loc), rc79 x3 st = some (r9, st9) → Hp g nwX (ceX g) A s.heap st H locs → lv_has ls 4 [(0, .ref (g.2.1 0)), (2, .int x2), (3, .int x3)] → W p l e rm_X7_rather s m args below meth c H locs 0 0 (MQ below (QI g nwX (ceX g) A r9 st9) args s 0 0 A) (F0 m 79 ls [])) (h : X7_rather_79b rc66 rc79 x2 x3 st = some (r9, st9)) (Y : Hp g nwX (ceX g) A s.heap st H locs)  (hl : lv_has ls 4 [(0, .ref (g.2.1 0)), (2, .int x2), (3, .int x3)]) : W p l e rm_X7_rather s m args below meth c H locs 0 0 (MQ below (QI g nwX (ceX g) A r9 st9) args s 0 0 A) (F0 m 79 ls []) := by
  have hx := X.1
  have hb := X.2.1
  unfold X7_rather_79b at h
  refine lv_iload_n hx hb dX7_rather_79 rfl (lv_at hl 2 rfl) ?_
  refine lv_aload_n hx hb dX7_rather_80 rfl (lv_at hl 0 rfl) ?_
  refine k_get (v := .ref (g.2.1 1)) X Y fl_7_10 0 (Nat.le_of_ble_eq_true rfl) rfl rfl dX7_rather_81 ?_
  refine k_get (v := .int (st.1 1 0)) X Y fl_7_85 1 (Nat.le_of_ble_eq_true rfl) rfl rfl dX7_rather_84 ?_
  refine lv_icmp_gt (tgt := 145) hx hb dX7_rather_87 (by decide) (fun c1 => ?_) (fun c1 => ?_)
  · have h := ite_t h c1
    exact w_X7_rather_145 X rc66 hrc66 h Y  (lv_sub hl [0, 1] rfl)
  · have h := ite_f h c1
    refine lv_aload_n hx hb dX7_rather_90 rfl (lv_at hl 0 rfl) ?_
    refine k_get (v := .ref (g.2.1 42)) X Y fl_7_33 0 (Nat.le_of_ble_eq_true rfl) rfl rfl dX7_rather_91 ?_
    refine k_get (v := .ref (g.2.1 43)) X Y fl_7_158 42 (Nat.le_of_ble_eq_true rfl) rfl rfl dX7_rather_94 ?_
    refine lv_iload_n hx hb dX7_rather_97 rfl (lv_at hl 1 rfl) ?_
    obtain ⟨i2, h⟩ := cix_s h
    refine k_aaldJ (b := 44) X Y 43 (Nat.le_of_ble_eq_true rfl) (fun _ _ => rfl) i2 dX7_rather_98 ?_
    refine lv_iload_n hx hb dX7_rather_99 rfl (lv_at hl 2 rfl) ?_
    obtain ⟨i3, h⟩ := cix_s h
    refine k_lald X Y (44 + (x2).toNatClampNeg) (row_lt i2 (Nat.le_of_ble_eq_true rfl)) (rowX_44 _ (vp_lt i2)) i3 dX7_rather_100 ?_
    refine lv_lconst (v := 0) hx hb dX7_rather_101 (by decide) ?_
    refine W.lcmp hx hb dX7_rather_102 ?_
    refine lv_if_le (tgt := 139) hx hb dX7_rather_103 (by decide) (fun c4 => ?_) (fun c4 => ?_)
    · have h := ite_t h c4
      exact w_X7_rather_139 X rc66 hrc66 rc79 hrc79 h Y  (lv_sub hl [0, 1, 2] rfl)
    · have h := ite_f h c4
      refine lv_aload_n hx hb dX7_rather_106 rfl (lv_at hl 0 rfl) ?_
      refine k_get (v := .ref (g.2.1 8)) X Y fl_7_23 0 (Nat.le_of_ble_eq_true rfl) rfl rfl dX7_rather_107 ?_
      refine k_get (v := .ref (g.2.1 9)) X Y fl_7_172 8 (Nat.le_of_ble_eq_true rfl) rfl rfl dX7_rather_110 ?_
      refine lv_iload_n hx hb dX7_rather_113 rfl (lv_at hl 1 rfl) ?_
      obtain ⟨i5, h⟩ := cix_s h
      refine k_aaldJ (b := 10) X Y 9 (Nat.le_of_ble_eq_true rfl) (fun _ _ => rfl) i5 dX7_rather_114 ?_
      refine lv_iload_n hx hb dX7_rather_115 rfl (lv_at hl 2 rfl) ?_
      obtain ⟨i6, h⟩ := cix_s h
      refine k_lald X Y (10 + (x2).toNatClampNeg) (row_lt i5 (Nat.le_of_ble_eq_true rfl)) (rowX_10 _ (vp_lt i5)) i6 dX7_rather_116 ?_
      refine lv_aload_n hx hb dX7_rather_117 rfl (lv_at hl 0 rfl) ?_
      refine k_get (v := .ref (g.2.1 25)) X Y fl_7_27 0 (Nat.le_of_ble_eq_true rfl) rfl rfl dX7_rather_118 ?_
      refine k_get (v := .ref (g.2.1 26)) X Y fl_7_172 25 (Nat.le_of_ble_eq_true rfl) rfl rfl dX7_rather_121 ?_
      refine lv_iload_n hx hb dX7_rather_124 rfl (lv_at hl 1 rfl) ?_
      obtain ⟨i7, h⟩ := cix_s h
      refine k_aaldJ (b := 27) X Y 26 (Nat.le_of_ble_eq_true rfl) (fun _ _ => rfl) i7 dX7_rather_125 ?_
      refine lv_iload_n hx hb dX7_rather_126 rfl (lv_at hl 2 rfl) ?_
      obtain ⟨i8, h⟩ := cix_s h
      refine k_lald X Y (27 + (x2).toNatClampNeg) (row_lt i7 (Nat.le_of_ble_eq_true rfl)) (rowX_27 _ (vp_lt i7)) i8 dX7_rather_127 ?_
      refine W.lcmp hx hb dX7_rather_128 ?_
      refine lv_if_le (tgt := 139) hx hb dX7_rather_129 (by decide) (fun c9 => ?_) (fun c9 => ?_)
      · have h := ite_t h c9
        exact w_X7_rather_139 X rc66 hrc66 rc79 hrc79 h Y  (lv_sub hl [0, 1, 2] rfl)
      · have h := ite_f h c9
        exact w_X7_rather_132 X  h Y  (lv_sub hl [1, 2] rfl)
theorem w_X7_rather_79 (X : Cx g p s m args meth c cX7_rather 4 RX7 (some .int)) {x2 : Int32}  {r9 : Int32} {st9 : Sg} (rc66 : Int32 → Sg → Option (Int32 × Sg)) (hrc66 : ∀ (x2 : Int32) (st : Sg) (ls : Array Slot) (H : Heap) (locs : List Loc), rc66 x2 st = some (r9, st9) → Hp g nwX (ceX g) A s.heap st H locs → lv_has ls 4 [(0, .ref (g.2.1 0)), (2, .int x2)] → W p l e rm_X7_rather s m args below meth c H locs 0 0 (MQ below (QI g nwX (ceX g) A r9 st9) args s 0 0 A) (F0 m 66 ls []))  : ∀ (k : Nat) (x3 : Int32) (st : Sg) (ls : Array Slot) (H : Heap) (locs : List Loc), X7_rather_79 rc66 x2 k x3 st = some (r9, st9) → Hp g nwX (ceX g) A s.heap st H locs → lv_has ls 4 [(0, .ref (g.2.1 0)), (2, .int x2), (3, .int x3)] → W p l e rm_X7_rather s m args below meth c H locs 0 0 (MQ below (QI g nwX (ceX g) A r9 st9) args s 0 0 A) (F0 m 79 ls []) := by
  intro k
  induction k with
  | zero =>
    intro x3 st ls H locs h
    exact none_s h
  | succ k ih =>
    intro x3 st ls H locs h Y hl
    exact w_X7_rather_79b X rc66 hrc66 (X7_rather_79 rc66 x2 k) ih h Y  hl
set_option maxHeartbeats 4000000 in
set_option maxRecDepth 100000 in
theorem w_X7_rather_151 (X : Cx g p s m args meth c cX7_rather 4 RX7 (some .int))  {st : Sg} {r9 : Int32} {st9 : Sg}  (h : X7_rather_151 st = some (r9, st9)) (Y : Hp g nwX (ceX g) A s.heap st H locs)  (hl : lv_has ls 4 []) : W p l e rm_X7_rather s m args below meth c H locs 0 0 (MQ below (QI g nwX (ceX g) A r9 st9) args s 0 0 A) (F0 m 151 ls []) := by
  have hx := X.1
  have hb := X.2.1
  unfold X7_rather_151 at h
  refine lv_bipush (v := (-6)) hx hb dX7_rather_151 (by decide) ?_
  exact k_iretW X Y h dX7_rather_153
set_option maxHeartbeats 4000000 in
set_option maxRecDepth 100000 in
theorem w_X7_rather_66b (X : Cx g p s m args meth c cX7_rather 4 RX7 (some .int)) {x2 : Int32} {st : Sg} {r9 : Int32} {st9 : Sg} (rc66 : Int32 → Sg → Option (Int32 × Sg)) (hrc66 : ∀ (x2 : Int32) (st : Sg) (ls : Array Slot) (H : Heap) (locs : List Loc), rc66 x2 st = some (r9, st9) → Hp g nwX (ceX g) A s.heap st H locs → lv_has ls 4 [(0, .ref (g.2.1 0)), (2, .int x2)] → W p l e rm_X7_rather s m args below meth c H locs 0 0 (MQ below (QI g nwX (ceX g) A r9 st9) args s 0 0 A) (F0 m 66 ls [])) (h : X7_rather_66b rc66 x2 st = some (r9, st9)) (Y : Hp g nwX (ceX g) A s.heap st H locs)  (hl : lv_has ls 4 [(0, .ref (g.2.1 0)), (2, .int x2)]) : W p l e rm_X7_rather s m args below meth c H locs 0 0 (MQ below (QI g nwX (ceX g) A r9 st9) args s 0 0 A) (F0 m 66 ls []) := by
  have hx := X.1
  have hb := X.2.1
  unfold X7_rather_66b at h
  refine lv_iload_n hx hb dX7_rather_66 rfl (lv_at hl 1 rfl) ?_
  refine lv_aload_n hx hb dX7_rather_67 rfl (lv_at hl 0 rfl) ?_
  refine k_get (v := .ref (g.2.1 1)) X Y fl_7_10 0 (Nat.le_of_ble_eq_true rfl) rfl rfl dX7_rather_68 ?_
  refine k_get (v := .int (st.1 1 1)) X Y fl_7_88 1 (Nat.le_of_ble_eq_true rfl) rfl rfl dX7_rather_71 ?_
  refine lv_icmp_ge (tgt := 151) hx hb dX7_rather_74 (by decide) (fun c1 => ?_) (fun c1 => ?_)
  · have h := ite_t h c1
    exact w_X7_rather_151 X  h Y  (lv_sub hl [] rfl)
  · have h := ite_f h c1
    refine lv_iconst (v := 0) hx hb dX7_rather_77 (by decide) ?_
    refine lv_istore_n (lv' := [(3, .int 0), (0, .ref (g.2.1 0)), (2, .int x2)]) hx hb dX7_rather_78 rfl hl (by decide) rfl (fun ls hl => ?_)
    exact w_X7_rather_79 X rc66 hrc66  FU 0 st _ _ _ h Y (lv_sub hl [1, 2, 0] rfl)
theorem w_X7_rather_66 (X : Cx g p s m args meth c cX7_rather 4 RX7 (some .int))   {r9 : Int32} {st9 : Sg}   : ∀ (k : Nat) (x2 : Int32) (st : Sg) (ls : Array Slot) (H : Heap) (locs : List Loc), X7_rather_66 k x2 st = some (r9, st9) → Hp g nwX (ceX g) A s.heap st H locs → lv_has ls 4 [(0, .ref (g.2.1 0)), (2, .int x2)] → W p l e rm_X7_rather s m args below meth c H locs 0 0 (MQ below (QI g nwX (ceX g) A r9 st9) args s 0 0 A) (F0 m 66 ls []) := by
  intro k
  induction k with
  | zero =>
    intro x2 st ls H locs h
    exact none_s h
  | succ k ih =>
    intro x2 st ls H locs h Y hl
    exact w_X7_rather_66b X  (X7_rather_66 k) ih h Y  hl
set_option maxHeartbeats 4000000 in
set_option maxRecDepth 100000 in
theorem w_X7_rather (X : Cx g p s m args meth c cX7_rather 4 RX7 (some .int))  {st : Sg} {r9 : Int32} {st9 : Sg}  (h : X7_rather st = some (r9, st9)) (Y : Hp g nwX (ceX g) A s.heap st H locs)  (hl : lv_has ls 4 [(0, .ref (g.2.1 0))]) : W p l e rm_X7_rather s m args below meth c H locs 0 0 (MQ below (QI g nwX (ceX g) A r9 st9) args s 0 0 A) (F0 m 0 ls []) := by
  have hx := X.1
  have hb := X.2.1
  unfold X7_rather at h
  refine lv_aload_n hx hb dX7_rather_0 rfl (lv_at hl 0 rfl) ?_
  refine lv_iconst (v := 1) hx hb dX7_rather_1 (by decide) ?_
  obtain ⟨v2, hc1, h⟩ := bnd1_s h
  refine k_cI Y (k_runV (As := [.int 1]) (rest := []) (o := 0) X Y cl_7_136 (c_X7_refusalOf l hc1 _) ⟨rfl, rfl, Nat.le_of_ble_eq_true rfl, Nat.le_of_ble_eq_true rfl⟩ (Nat.le_of_ble_eq_true rfl) rfl rfl hl.1 rfl (Nat.le_of_ble_eq_true rfl) dX7_rather_2 ⟨Nat.zero_le _, Nat.zero_le _⟩) (fun H locs Y => ?_)
  refine lv_istore_n (lv' := [(1, .int v2), (0, .ref (g.2.1 0))]) hx hb dX7_rather_5 rfl hl (by decide) rfl (fun ls hl => ?_)
  refine lv_iload_n hx hb dX7_rather_6 rfl (lv_at hl 0 rfl) ?_
  refine lv_if_eq (tgt := 12) hx hb dX7_rather_7 (by decide) (fun c3 => ?_) (fun c3 => ?_)
  · have h := ite_t h c3
    refine lv_aload_n hx hb dX7_rather_12 rfl (lv_at hl 1 rfl) ?_
    obtain ⟨st5, hc4, h⟩ := bnd1_s h
    refine k_cV Y (k_runV (As := []) (rest := []) (o := 0) X Y cl_7_165 (c_X7_findBest l hc4 _) ⟨rfl, rfl, Nat.le_of_ble_eq_true rfl, Nat.le_of_ble_eq_true rfl⟩ (Nat.le_of_ble_eq_true rfl) rfl rfl hl.1 rfl (Nat.le_of_ble_eq_true rfl) dX7_rather_13 ⟨Nat.zero_le _, Nat.zero_le _⟩) (fun H locs Y => ?_)
    refine lv_aload_n hx hb dX7_rather_16 rfl (lv_at hl 1 rfl) ?_
    obtain ⟨st7, hc6, h⟩ := bnd1_s h
    refine k_cV Y (k_runV (As := []) (rest := []) (o := 0) X Y cl_7_185 (c_X7_findKept l hc6 _) ⟨rfl, rfl, Nat.le_of_ble_eq_true rfl, Nat.le_of_ble_eq_true rfl⟩ (Nat.le_of_ble_eq_true rfl) rfl rfl hl.1 rfl (Nat.le_of_ble_eq_true rfl) dX7_rather_17 ⟨Nat.zero_le _, Nat.zero_le _⟩) (fun H locs Y => ?_)
    refine lv_aload_n hx hb dX7_rather_20 rfl (lv_at hl 1 rfl) ?_
    refine k_get (v := .ref (g.2.1 25)) X Y fl_7_27 0 (Nat.le_of_ble_eq_true rfl) rfl rfl dX7_rather_21 ?_
    refine lv_aload_n hx hb dX7_rather_24 rfl (lv_at hl 1 rfl) ?_
    refine k_get (v := .ref (g.2.1 61)) X Y fl_7_47 0 (Nat.le_of_ble_eq_true rfl) rfl rfl dX7_rather_25 ?_
    refine k_get (v := .ref (g.2.1 62)) X Y fl_7_179 61 (Nat.le_of_ble_eq_true rfl) rfl rfl dX7_rather_28 ?_
    obtain ⟨st9, hc8, h⟩ := bnd1_s h
    refine k_cV Y (k_runV (As := [.ref (g.2.1 62)]) (rest := []) (o := 25) X Y cl_7_188 (c_X4_askByPlan l hc8 _) ⟨rfl, rfl, Nat.le_of_ble_eq_true rfl, Nat.le_of_ble_eq_true rfl⟩ (Nat.le_of_ble_eq_true rfl) rfl rfl hl.1 rfl (Nat.le_of_ble_eq_true rfl) dX7_rather_31 ⟨Nat.zero_le _, Nat.zero_le _⟩) (fun H locs Y => ?_)
    refine lv_aload_n hx hb dX7_rather_34 rfl (lv_at hl 1 rfl) ?_
    refine k_get (v := .ref (g.2.1 25)) X Y fl_7_27 0 (Nat.le_of_ble_eq_true rfl) rfl rfl dX7_rather_35 ?_
    refine lv_aload_n hx hb dX7_rather_38 rfl (lv_at hl 1 rfl) ?_
    refine k_get (v := .ref (g.2.1 1)) X Y fl_7_10 0 (Nat.le_of_ble_eq_true rfl) rfl rfl dX7_rather_39 ?_
    obtain ⟨st11, hc10, h⟩ := bnd1_s h
    refine k_cV Y (k_runV (As := [.ref (g.2.1 1)]) (rest := []) (o := 25) X Y cl_7_192 (c_X4_fillAsked l hc10 _) ⟨rfl, rfl, Nat.le_of_ble_eq_true rfl, Nat.le_of_ble_eq_true rfl⟩ (Nat.le_of_ble_eq_true rfl) rfl rfl hl.1 rfl (Nat.le_of_ble_eq_true rfl) dX7_rather_42 ⟨Nat.zero_le _, Nat.zero_le _⟩) (fun H locs Y => ?_)
    refine lv_aload_n hx hb dX7_rather_45 rfl (lv_at hl 1 rfl) ?_
    refine k_get (v := .ref (g.2.1 42)) X Y fl_7_33 0 (Nat.le_of_ble_eq_true rfl) rfl rfl dX7_rather_46 ?_
    refine lv_aload_n hx hb dX7_rather_49 rfl (lv_at hl 1 rfl) ?_
    refine k_get (v := .ref (g.2.1 1)) X Y fl_7_10 0 (Nat.le_of_ble_eq_true rfl) rfl rfl dX7_rather_50 ?_
    refine lv_aload_n hx hb dX7_rather_53 rfl (lv_at hl 1 rfl) ?_
    refine k_get (v := .ref (g.2.1 61)) X Y fl_7_47 0 (Nat.le_of_ble_eq_true rfl) rfl rfl dX7_rather_54 ?_
    refine k_get (v := .ref (g.2.1 62)) X Y fl_7_179 61 (Nat.le_of_ble_eq_true rfl) rfl rfl dX7_rather_57 ?_
    refine lv_iconst (v := 0) hx hb dX7_rather_60 (by decide) ?_
    obtain ⟨st13, hc12, h⟩ := bnd1_s h
    refine k_cV Y (k_runV (As := [.ref (g.2.1 1), .ref (g.2.1 62), .int 0]) (rest := []) (o := 42) X Y cl_7_142 (c_X6_goByPlan_62 l hc12 _) ⟨rfl, rfl, Nat.le_of_ble_eq_true rfl, Nat.le_of_ble_eq_true rfl⟩ (Nat.le_of_ble_eq_true rfl) rfl rfl hl.1 rfl (Nat.le_of_ble_eq_true rfl) dX7_rather_61 ⟨Nat.zero_le _, Nat.zero_le _⟩) (fun H locs Y => ?_)
    refine lv_iconst (v := 0) hx hb dX7_rather_64 (by decide) ?_
    refine lv_istore_n (lv' := [(2, .int 0), (1, .int v2), (0, .ref (g.2.1 0))]) hx hb dX7_rather_65 rfl hl (by decide) rfl (fun ls hl => ?_)
    exact w_X7_rather_66 X   FU 0 st13 _ _ _ h Y (lv_sub hl [2, 0] rfl)
  · have h := ite_f h c3
    refine lv_iload_n hx hb dX7_rather_10 rfl (lv_at hl 0 rfl) ?_
    exact k_iretW X Y h dX7_rather_11
theorem c_X7_rather (l : Launch) {g : Gx}  {st : Sg} {r9 : Int32} {st9 : Sg} (h : X7_rather st = some (r9, st9)) : MetI l yX7_rather cX7_rather 4 (some .int) rm_X7_rather g nwX (ceX g) [.ref (g.2.1 0)] st r9 st9 :=
  met_of (Qc := fun A => QI g nwX (ceX g) A r9 st9) (by decide) (Nat.le_of_ble_eq_true rfl) (fun p e s m below meth c A ls X Y hl => w_X7_rather X h Y hl)
def X2_readInClause_134    (st : Sg) : Option Sg :=
  some st
def X2_readInClause   (x1 : Int32) (x2 : Int32) (st : Sg) : Option Sg :=
  if x1 = (0 : Int32) then
    cix (st.1 69 1) 6 <|
    nm (sI st 70 (st.1 69 1).toNatClampNeg x2) fun st3 =>
    X2_readInClause_134 st3
  else
    if x1 = (1 : Int32) then
      cix (st.1 69 1) 6 <|
      nm (sI st 71 (st.1 69 1).toNatClampNeg x2) fun st6 =>
      X2_readInClause_134 st6
    else
      if x1 = (2 : Int32) then
        cix (st.1 69 1) 6 <|
        nm (sI st 72 (st.1 69 1).toNatClampNeg (x2 - 48)) fun st9 =>
        X2_readInClause_134 st9
      else
        if x1 = (3 : Int32) then
          bnd1 (X5_isDigit x2) fun v12 =>
          if v12 = (0 : Int32) then
            X2_readInClause_134 st
          else
            cix (st.1 69 1) 6 <|
            cix (st.1 69 1) 6 <|
            nm (sI st 72 (st.1 69 1).toNatClampNeg ((((st.1 72 (st.1 69 1).toNatClampNeg) * 10) + x2) - 48)) fun st16 =>
            X2_readInClause_134 st16
        else
          if x1 = (4 : Int32) then
            X2_readInClause_134 st
          else
            if x1 = (5 : Int32) then
              cix (st.1 69 1) 6 <|
              nm (sI st 73 (st.1 69 1).toNatClampNeg (x2 - 48)) fun st20 =>
              X2_readInClause_134 st20
            else
              X2_readInClause_134 st
abbrev rm_X2_readInClause : Room := { frames := 1, cells := 0, slots := 0, locals := 20 }
set_option maxHeartbeats 4000000 in
set_option maxRecDepth 100000 in
theorem w_X2_readInClause_134 (X : Cx g p s m args meth c cX2_readInClause 3 RX2 none)  {st : Sg} {st9 : Sg}  (h : X2_readInClause_134 st = some st9) (Y : Hp g nwX (ceX g) A s.heap st H locs)  (hl : lv_has ls 3 []) : W p l e rm_X2_readInClause s m args below meth c H locs 0 0 (MQ below (QV g nwX (ceX g) A st9) args s 0 0 A) (F0 m 134 ls []) := by
  have hx := X.1
  have hb := X.2.1
  unfold X2_readInClause_134 at h
  exact k_vretW X Y h dX2_readInClause_134
set_option maxHeartbeats 4000000 in
set_option maxRecDepth 100000 in
theorem w_X2_readInClause (X : Cx g p s m args meth c cX2_readInClause 3 RX2 none) {x1 : Int32} {x2 : Int32} {st : Sg} {st9 : Sg}  (h : X2_readInClause x1 x2 st = some st9) (Y : Hp g nwX (ceX g) A s.heap st H locs)  (hl : lv_has ls 3 [(0, .ref (g.2.1 69)), (1, .int x1), (2, .int x2)]) : W p l e rm_X2_readInClause s m args below meth c H locs 0 0 (MQ below (QV g nwX (ceX g) A st9) args s 0 0 A) (F0 m 0 ls []) := by
  have hx := X.1
  have hb := X.2.1
  unfold X2_readInClause at h
  refine lv_iload_n hx hb dX2_readInClause_0 rfl (lv_at hl 1 rfl) ?_
  by_cases c1 : x1 = (0 : Int32)
  · have h := ite_t h c1
    refine lv_tableIn (tgt := 40) hx hb dX2_readInClause_1 (by rw [c1]; decide) (by rw [c1]; decide) (by rw [c1]; rfl) (by decide) ?_
    refine lv_aload_n hx hb dX2_readInClause_40 rfl (lv_at hl 0 rfl) ?_
    refine k_get (v := .ref (g.2.1 70)) X Y fl_2_19 69 (Nat.le_of_ble_eq_true rfl) rfl rfl dX2_readInClause_41 ?_
    refine lv_aload_n hx hb dX2_readInClause_44 rfl (lv_at hl 0 rfl) ?_
    refine k_get (v := .int (st.1 69 1)) X Y fl_2_15 69 (Nat.le_of_ble_eq_true rfl) rfl rfl dX2_readInClause_45 ?_
    refine lv_iload_n hx hb dX2_readInClause_48 rfl (lv_at hl 2 rfl) ?_
    obtain ⟨i2, h⟩ := cix_s h
    refine k_iast X Y 70 (Nat.le_of_ble_eq_true rfl) (fun _ _ => rfl) i2 dX2_readInClause_49 (fun H locs Y => ?_)
    obtain ⟨st3, est3, h⟩ := nm_s h
    have Y : Hp g nwX (ceX g) A s.heap st3 H locs := by rw [est3]; exact Y
    refine lv_goto (tgt := 134) hx hb dX2_readInClause_50 (by decide) ?_
    exact w_X2_readInClause_134 X  h Y  (lv_sub hl [] rfl)
  · have h := ite_f h c1
    by_cases c4 : x1 = (1 : Int32)
    · have h := ite_t h c4
      refine lv_tableIn (tgt := 53) hx hb dX2_readInClause_1 (by rw [c4]; decide) (by rw [c4]; decide) (by rw [c4]; rfl) (by decide) ?_
      refine lv_aload_n hx hb dX2_readInClause_53 rfl (lv_at hl 0 rfl) ?_
      refine k_get (v := .ref (g.2.1 71)) X Y fl_2_23 69 (Nat.le_of_ble_eq_true rfl) rfl rfl dX2_readInClause_54 ?_
      refine lv_aload_n hx hb dX2_readInClause_57 rfl (lv_at hl 0 rfl) ?_
      refine k_get (v := .int (st.1 69 1)) X Y fl_2_15 69 (Nat.le_of_ble_eq_true rfl) rfl rfl dX2_readInClause_58 ?_
      refine lv_iload_n hx hb dX2_readInClause_61 rfl (lv_at hl 2 rfl) ?_
      obtain ⟨i5, h⟩ := cix_s h
      refine k_iast X Y 71 (Nat.le_of_ble_eq_true rfl) (fun _ _ => rfl) i5 dX2_readInClause_62 (fun H locs Y => ?_)
      obtain ⟨st6, est6, h⟩ := nm_s h
      have Y : Hp g nwX (ceX g) A s.heap st6 H locs := by rw [est6]; exact Y
      refine lv_goto (tgt := 134) hx hb dX2_readInClause_63 (by decide) ?_
      exact w_X2_readInClause_134 X  h Y  (lv_sub hl [] rfl)
    · have h := ite_f h c4
      by_cases c7 : x1 = (2 : Int32)
      · have h := ite_t h c7
        refine lv_tableIn (tgt := 66) hx hb dX2_readInClause_1 (by rw [c7]; decide) (by rw [c7]; decide) (by rw [c7]; rfl) (by decide) ?_
        refine lv_aload_n hx hb dX2_readInClause_66 rfl (lv_at hl 0 rfl) ?_
        refine k_get (v := .ref (g.2.1 72)) X Y fl_2_26 69 (Nat.le_of_ble_eq_true rfl) rfl rfl dX2_readInClause_67 ?_
        refine lv_aload_n hx hb dX2_readInClause_70 rfl (lv_at hl 0 rfl) ?_
        refine k_get (v := .int (st.1 69 1)) X Y fl_2_15 69 (Nat.le_of_ble_eq_true rfl) rfl rfl dX2_readInClause_71 ?_
        refine lv_iload_n hx hb dX2_readInClause_74 rfl (lv_at hl 2 rfl) ?_
        refine lv_bipush (v := 48) hx hb dX2_readInClause_75 (by decide) ?_
        refine lv_isub hx hb dX2_readInClause_77 ?_
        obtain ⟨i8, h⟩ := cix_s h
        refine k_iast X Y 72 (Nat.le_of_ble_eq_true rfl) (fun _ _ => rfl) i8 dX2_readInClause_78 (fun H locs Y => ?_)
        obtain ⟨st9, est9, h⟩ := nm_s h
        have Y : Hp g nwX (ceX g) A s.heap st9 H locs := by rw [est9]; exact Y
        refine lv_goto (tgt := 134) hx hb dX2_readInClause_79 (by decide) ?_
        exact w_X2_readInClause_134 X  h Y  (lv_sub hl [] rfl)
      · have h := ite_f h c7
        by_cases c10 : x1 = (3 : Int32)
        · have h := ite_t h c10
          refine lv_tableIn (tgt := 82) hx hb dX2_readInClause_1 (by rw [c10]; decide) (by rw [c10]; decide) (by rw [c10]; rfl) (by decide) ?_
          refine lv_iload_n hx hb dX2_readInClause_82 rfl (lv_at hl 2 rfl) ?_
          obtain ⟨v12, hc11, h⟩ := bnd1_s h
          refine k_cI Y (k_runS (As := [.int x2]) (rest := []) X Y cl_2_55 (c_X5_isDigit l hc11 _) ⟨rfl, rfl, Nat.le_of_ble_eq_true rfl, Nat.le_of_ble_eq_true rfl⟩ rfl hl.1 rfl (Nat.le_of_ble_eq_true rfl) dX2_readInClause_83 ⟨Nat.zero_le _, Nat.zero_le _⟩) (fun H locs Y => ?_)
          refine lv_if_eq (tgt := 134) hx hb dX2_readInClause_86 (by decide) (fun c13 => ?_) (fun c13 => ?_)
          · have h := ite_t h c13
            exact w_X2_readInClause_134 X  h Y  (lv_sub hl [] rfl)
          · have h := ite_f h c13
            refine lv_aload_n hx hb dX2_readInClause_89 rfl (lv_at hl 0 rfl) ?_
            refine k_get (v := .ref (g.2.1 72)) X Y fl_2_26 69 (Nat.le_of_ble_eq_true rfl) rfl rfl dX2_readInClause_90 ?_
            refine lv_aload_n hx hb dX2_readInClause_93 rfl (lv_at hl 0 rfl) ?_
            refine k_get (v := .int (st.1 69 1)) X Y fl_2_15 69 (Nat.le_of_ble_eq_true rfl) rfl rfl dX2_readInClause_94 ?_
            refine lv_aload_n hx hb dX2_readInClause_97 rfl (lv_at hl 0 rfl) ?_
            refine k_get (v := .ref (g.2.1 72)) X Y fl_2_26 69 (Nat.le_of_ble_eq_true rfl) rfl rfl dX2_readInClause_98 ?_
            refine lv_aload_n hx hb dX2_readInClause_101 rfl (lv_at hl 0 rfl) ?_
            refine k_get (v := .int (st.1 69 1)) X Y fl_2_15 69 (Nat.le_of_ble_eq_true rfl) rfl rfl dX2_readInClause_102 ?_
            obtain ⟨i14, h⟩ := cix_s h
            refine k_iald X Y 72 (Nat.le_of_ble_eq_true rfl) (fun _ _ => rfl) i14 dX2_readInClause_105 ?_
            refine lv_bipush (v := 10) hx hb dX2_readInClause_106 (by decide) ?_
            refine lv_imul hx hb dX2_readInClause_108 ?_
            refine lv_iload_n hx hb dX2_readInClause_109 rfl (lv_at hl 2 rfl) ?_
            refine lv_iadd hx hb dX2_readInClause_110 ?_
            refine lv_bipush (v := 48) hx hb dX2_readInClause_111 (by decide) ?_
            refine lv_isub hx hb dX2_readInClause_113 ?_
            obtain ⟨i15, h⟩ := cix_s h
            refine k_iast X Y 72 (Nat.le_of_ble_eq_true rfl) (fun _ _ => rfl) i15 dX2_readInClause_114 (fun H locs Y => ?_)
            obtain ⟨st16, est16, h⟩ := nm_s h
            have Y : Hp g nwX (ceX g) A s.heap st16 H locs := by rw [est16]; exact Y
            refine lv_goto (tgt := 134) hx hb dX2_readInClause_115 (by decide) ?_
            exact w_X2_readInClause_134 X  h Y  (lv_sub hl [] rfl)
        · have h := ite_f h c10
          by_cases c17 : x1 = (4 : Int32)
          · have h := ite_t h c17
            refine lv_tableIn (tgt := 134) hx hb dX2_readInClause_1 (by rw [c17]; decide) (by rw [c17]; decide) (by rw [c17]; rfl) (by decide) ?_
            exact w_X2_readInClause_134 X  h Y  (lv_sub hl [] rfl)
          · have h := ite_f h c17
            by_cases c18 : x1 = (5 : Int32)
            · have h := ite_t h c18
              refine lv_tableIn (tgt := 118) hx hb dX2_readInClause_1 (by rw [c18]; decide) (by rw [c18]; decide) (by rw [c18]; rfl) (by decide) ?_
              refine lv_aload_n hx hb dX2_readInClause_118 rfl (lv_at hl 0 rfl) ?_
              refine k_get (v := .ref (g.2.1 73)) X Y fl_2_29 69 (Nat.le_of_ble_eq_true rfl) rfl rfl dX2_readInClause_119 ?_
              refine lv_aload_n hx hb dX2_readInClause_122 rfl (lv_at hl 0 rfl) ?_
              refine k_get (v := .int (st.1 69 1)) X Y fl_2_15 69 (Nat.le_of_ble_eq_true rfl) rfl rfl dX2_readInClause_123 ?_
              refine lv_iload_n hx hb dX2_readInClause_126 rfl (lv_at hl 2 rfl) ?_
              refine lv_bipush (v := 48) hx hb dX2_readInClause_127 (by decide) ?_
              refine lv_isub hx hb dX2_readInClause_129 ?_
              obtain ⟨i19, h⟩ := cix_s h
              refine k_iast X Y 73 (Nat.le_of_ble_eq_true rfl) (fun _ _ => rfl) i19 dX2_readInClause_130 (fun H locs Y => ?_)
              obtain ⟨st20, est20, h⟩ := nm_s h
              have Y : Hp g nwX (ceX g) A s.heap st20 H locs := by rw [est20]; exact Y
              refine lv_goto (tgt := 134) hx hb dX2_readInClause_131 (by decide) ?_
              exact w_X2_readInClause_134 X  h Y  (lv_sub hl [] rfl)
            · have h := ite_f h c18
              refine lv_tableOut (tgt := 134) hx hb dX2_readInClause_1 (by have q0 := lv_neT c1 (a := 0) (by decide); have q1 := lv_neT c4 (a := 1) (by decide); have q2 := lv_neT c7 (a := 2) (by decide); have q3 := lv_neT c10 (a := 3) (by decide); have q4 := lv_neT c17 (a := 4) (by decide); have q5 := lv_neT c18 (a := 5) (by decide); omega) (by decide) ?_
              exact w_X2_readInClause_134 X  h Y  (lv_sub hl [] rfl)
theorem c_X2_readInClause (l : Launch) {g : Gx} {x1 : Int32} {x2 : Int32} {st : Sg} {st9 : Sg} (h : X2_readInClause x1 x2 st = some st9) : MetV l yX2_readInClause cX2_readInClause 3 none rm_X2_readInClause g nwX (ceX g) [.ref (g.2.1 69), .int x1, .int x2] st st9 :=
  met_of (Qc := fun A => QV g nwX (ceX g) A st9) (by decide) (Nat.le_of_ble_eq_true rfl) (fun p e s m below meth c A ls X Y hl => w_X2_readInClause X h Y hl)
def X2_read_89  (rc14 : Int32 → Int32 → Sg → Option Sg) (x2 : Int32) (x3 : Int32) (x4 : Int32) (st : Sg) : Option Sg :=
  bnd1 (X5_follow x2 x4) fun v2 =>
  nm (x3 + 1) fun v3 =>
  rc14 v2 v3 st
def X2_read_54  (rc14 : Int32 → Int32 → Sg → Option Sg) (x2 : Int32) (x3 : Int32) (x4 : Int32) (st : Sg) : Option Sg :=
  if x2 = (6 : Int32) then
    nm (sI st 69 1 ((st.1 69 1) + 1)) fun st5 =>
    X2_read_89 rc14 x2 x3 x4 st5
  else
    if (6 : Int32) ≤ (st.1 69 1) then
      X2_read_89 rc14 x2 x3 x4 st
    else
      bnd1 (X2_readInClause x2 x4 st) fun st4 =>
      X2_read_89 rc14 x2 x3 x4 st4
def X2_read_102    (st : Sg) : Option Sg :=
  some st
def X2_read_14b  (rc14 : Int32 → Int32 → Sg → Option Sg) (x2 : Int32) (x3 : Int32) (st : Sg) : Option Sg :=
  if (st.1 67 1) ≤ x3 then
    X2_read_102 st
  else
    cix x3 40 <|
    nm (st.1 68 x3.toNatClampNeg) fun v3 =>
    if x2 = (0 : Int32) then
      bnd1 (X5_isFact v3) fun v6 =>
      if v6 = (0 : Int32) then
        nm (sI st 69 6 (v3 - 48)) fun st8 =>
        X2_read_89 rc14 x2 x3 v3 st8
      else
        X2_read_54 rc14 x2 x3 v3 st
    else
      X2_read_54 rc14 x2 x3 v3 st
def X2_read_14    : Nat → Int32 → Int32 → Sg → Option Sg
  | 0, _, _, _ => none
  | k + 1, x2, x3, st => X2_read_14b   (X2_read_14 k) x2 x3 st
def X2_read    (st : Sg) : Option Sg :=
  nm (sI st 69 0 1) fun st1 =>
  nm (sI st1 69 1 0) fun st2 =>
  X2_read_14 FU 0 0 st2
abbrev rm_X2_read : Room := { frames := 2, cells := 0, slots := 0, locals := 42 }
set_option maxHeartbeats 4000000 in
set_option maxRecDepth 100000 in
theorem w_X2_read_89 (X : Cx g p s m args meth c cX2_read 5 RX2 none) {x2 : Int32} {x3 : Int32} {x4 : Int32} {st : Sg} {st9 : Sg} (rc14 : Int32 → Int32 → Sg → Option Sg) (hrc14 : ∀ (x2 : Int32) (x3 : Int32) (st : Sg) (ls : Array Slot) (H : Heap) (locs : List Loc), rc14 x2 x3 st = some st9 → Hp g nwX (ceX g) A s.heap st H locs → lv_has ls 5 [(0, .ref (g.2.1 69)), (1, .ref (g.2.1 67)), (2, .int x2), (3, .int x3)] → W p l e rm_X2_read s m args below meth c H locs 0 0 (MQ below (QV g nwX (ceX g) A st9) args s 0 0 A) (F0 m 14 ls [])) (h : X2_read_89 rc14 x2 x3 x4 st = some st9) (Y : Hp g nwX (ceX g) A s.heap st H locs)  (hl : lv_has ls 5 [(0, .ref (g.2.1 69)), (1, .ref (g.2.1 67)), (2, .int x2), (3, .int x3), (4, .int x4)]) : W p l e rm_X2_read s m args below meth c H locs 0 0 (MQ below (QV g nwX (ceX g) A st9) args s 0 0 A) (F0 m 89 ls []) := by
  have hx := X.1
  have hb := X.2.1
  unfold X2_read_89 at h
  refine lv_iload_n hx hb dX2_read_89 rfl (lv_at hl 2 rfl) ?_
  refine lv_iload hx hb dX2_read_90 (lv_at hl 4 rfl) ?_
  obtain ⟨v2, hc1, h⟩ := bnd1_s h
  refine k_cI Y (k_runS (As := [.int x2, .int x4]) (rest := []) X Y cl_2_51 (c_X5_follow l hc1 _) ⟨rfl, rfl, Nat.le_of_ble_eq_true rfl, Nat.le_of_ble_eq_true rfl⟩ rfl hl.1 rfl (Nat.le_of_ble_eq_true rfl) dX2_read_92 ⟨Nat.zero_le _, Nat.zero_le _⟩) (fun H locs Y => ?_)
  refine lv_istore_n (lv' := [(2, .int v2), (0, .ref (g.2.1 69)), (1, .ref (g.2.1 67)), (3, .int x3), (4, .int x4)]) hx hb dX2_read_95 rfl hl (by decide) rfl (fun ls hl => ?_)
  obtain ⟨v3, ev3, h⟩ := nm_s h
  refine lv_iinc (v := v3) (lv' := [(3, .int v3), (2, .int v2), (0, .ref (g.2.1 69)), (1, .ref (g.2.1 67)), (4, .int x4)]) hx hb dX2_read_96 hl (k := 3) rfl (by rw [ev3]; rfl) (by decide) rfl (fun ls hl => ?_)
  refine lv_goto (tgt := 14) hx hb dX2_read_99 (by decide) ?_
  exact hrc14 v2 v3 st _ _ _ h Y (lv_sub hl [2, 3, 1, 0] rfl)
set_option maxHeartbeats 4000000 in
set_option maxRecDepth 100000 in
theorem w_X2_read_54 (X : Cx g p s m args meth c cX2_read 5 RX2 none) {x2 : Int32} {x3 : Int32} {x4 : Int32} {st : Sg} {st9 : Sg} (rc14 : Int32 → Int32 → Sg → Option Sg) (hrc14 : ∀ (x2 : Int32) (x3 : Int32) (st : Sg) (ls : Array Slot) (H : Heap) (locs : List Loc), rc14 x2 x3 st = some st9 → Hp g nwX (ceX g) A s.heap st H locs → lv_has ls 5 [(0, .ref (g.2.1 69)), (1, .ref (g.2.1 67)), (2, .int x2), (3, .int x3)] → W p l e rm_X2_read s m args below meth c H locs 0 0 (MQ below (QV g nwX (ceX g) A st9) args s 0 0 A) (F0 m 14 ls [])) (h : X2_read_54 rc14 x2 x3 x4 st = some st9) (Y : Hp g nwX (ceX g) A s.heap st H locs)  (hl : lv_has ls 5 [(0, .ref (g.2.1 69)), (1, .ref (g.2.1 67)), (2, .int x2), (3, .int x3), (4, .int x4)]) : W p l e rm_X2_read s m args below meth c H locs 0 0 (MQ below (QV g nwX (ceX g) A st9) args s 0 0 A) (F0 m 54 ls []) := by
  have hx := X.1
  have hb := X.2.1
  unfold X2_read_54 at h
  refine lv_iload_n hx hb dX2_read_54 rfl (lv_at hl 2 rfl) ?_
  refine lv_bipush (v := 6) hx hb dX2_read_55 (by decide) ?_
  refine lv_icmp_ne (tgt := 73) hx hb dX2_read_57 (by decide) (fun c1 => ?_) (fun c1 => ?_)
  · have h := ite_f h c1
    refine lv_aload_n hx hb dX2_read_73 rfl (lv_at hl 0 rfl) ?_
    refine k_get (v := .int (st.1 69 1)) X Y fl_2_15 69 (Nat.le_of_ble_eq_true rfl) rfl rfl dX2_read_74 ?_
    refine lv_bipush (v := 6) hx hb dX2_read_77 (by decide) ?_
    refine lv_icmp_ge (tgt := 89) hx hb dX2_read_79 (by decide) (fun c2 => ?_) (fun c2 => ?_)
    · have h := ite_t h c2
      exact w_X2_read_89 X rc14 hrc14 h Y  (lv_sub hl [0, 1, 2, 3, 4] rfl)
    · have h := ite_f h c2
      refine lv_aload_n hx hb dX2_read_82 rfl (lv_at hl 0 rfl) ?_
      refine lv_iload_n hx hb dX2_read_83 rfl (lv_at hl 2 rfl) ?_
      refine lv_iload hx hb dX2_read_84 (lv_at hl 4 rfl) ?_
      obtain ⟨st4, hc3, h⟩ := bnd1_s h
      refine k_cV Y (k_runV (As := [.int x2, .int x4]) (rest := []) (o := 69) X Y cl_2_47 (c_X2_readInClause l hc3 _) ⟨rfl, rfl, Nat.le_of_ble_eq_true rfl, Nat.le_of_ble_eq_true rfl⟩ (Nat.le_of_ble_eq_true rfl) rfl rfl hl.1 rfl (Nat.le_of_ble_eq_true rfl) dX2_read_86 ⟨Nat.zero_le _, Nat.zero_le _⟩) (fun H locs Y => ?_)
      exact w_X2_read_89 X rc14 hrc14 h Y  (lv_sub hl [0, 1, 2, 3, 4] rfl)
  · have h := ite_t h c1
    refine lv_aload_n hx hb dX2_read_60 rfl (lv_at hl 0 rfl) ?_
    refine lv_dup hx hb dX2_read_61 rfl ?_
    refine k_get (v := .int (st.1 69 1)) X Y fl_2_15 69 (Nat.le_of_ble_eq_true rfl) rfl rfl dX2_read_62 ?_
    refine lv_iconst (v := 1) hx hb dX2_read_65 (by decide) ?_
    refine lv_iadd hx hb dX2_read_66 ?_
    refine k_putI X Y fl_2_15 69 (Nat.le_of_ble_eq_true rfl) rfl rfl rfl (Nat.le_of_ble_eq_true rfl) rfl dX2_read_67 (fun H locs Y => ?_)
    obtain ⟨st5, est5, h⟩ := nm_s h
    have Y : Hp g nwX (ceX g) A s.heap st5 H locs := by rw [est5]; exact Y
    refine lv_goto (tgt := 89) hx hb dX2_read_70 (by decide) ?_
    exact w_X2_read_89 X rc14 hrc14 h Y  (lv_sub hl [0, 1, 2, 3, 4] rfl)
set_option maxHeartbeats 4000000 in
set_option maxRecDepth 100000 in
theorem w_X2_read_102 (X : Cx g p s m args meth c cX2_read 5 RX2 none)  {st : Sg} {st9 : Sg}  (h : X2_read_102 st = some st9) (Y : Hp g nwX (ceX g) A s.heap st H locs)  (hl : lv_has ls 5 []) : W p l e rm_X2_read s m args below meth c H locs 0 0 (MQ below (QV g nwX (ceX g) A st9) args s 0 0 A) (F0 m 102 ls []) := by
  have hx := X.1
  have hb := X.2.1
  unfold X2_read_102 at h
  exact k_vretW X Y h dX2_read_102
set_option maxHeartbeats 4000000 in
set_option maxRecDepth 100000 in
theorem w_X2_read_14b (X : Cx g p s m args meth c cX2_read 5 RX2 none) {x2 : Int32} {x3 : Int32} {st : Sg} {st9 : Sg} (rc14 : Int32 → Int32 → Sg → Option Sg) (hrc14 : ∀ (x2 : Int32) (x3 : Int32) (st : Sg) (ls : Array Slot) (H : Heap) (locs : List Loc), rc14 x2 x3 st = some st9 → Hp g nwX (ceX g) A s.heap st H locs → lv_has ls 5 [(0, .ref (g.2.1 69)), (1, .ref (g.2.1 67)), (2, .int x2), (3, .int x3)] → W p l e rm_X2_read s m args below meth c H locs 0 0 (MQ below (QV g nwX (ceX g) A st9) args s 0 0 A) (F0 m 14 ls [])) (h : X2_read_14b rc14 x2 x3 st = some st9) (Y : Hp g nwX (ceX g) A s.heap st H locs)  (hl : lv_has ls 5 [(0, .ref (g.2.1 69)), (1, .ref (g.2.1 67)), (2, .int x2), (3, .int x3)]) : W p l e rm_X2_read s m args below meth c H locs 0 0 (MQ below (QV g nwX (ceX g) A st9) args s 0 0 A) (F0 m 14 ls []) := by
  have hx := X.1
  have hb := X.2.1
  unfold X2_read_14b at h
  refine lv_iload_n hx hb dX2_read_14 rfl (lv_at hl 3 rfl) ?_
  refine lv_aload_n hx hb dX2_read_15 rfl (lv_at hl 1 rfl) ?_
  refine k_get (v := .int (st.1 67 1)) X Y fl_2_37 67 (Nat.le_of_ble_eq_true rfl) rfl rfl dX2_read_16 ?_
  refine lv_icmp_ge (tgt := 102) hx hb dX2_read_19 (by decide) (fun c1 => ?_) (fun c1 => ?_)
  · have h := ite_t h c1
    exact w_X2_read_102 X  h Y  (lv_sub hl [] rfl)
  · have h := ite_f h c1
    refine lv_aload_n hx hb dX2_read_22 rfl (lv_at hl 1 rfl) ?_
    refine k_get (v := .ref (g.2.1 68)) X Y fl_2_40 67 (Nat.le_of_ble_eq_true rfl) rfl rfl dX2_read_23 ?_
    refine lv_iload_n hx hb dX2_read_26 rfl (lv_at hl 3 rfl) ?_
    obtain ⟨i2, h⟩ := cix_s h
    refine k_iald X Y 68 (Nat.le_of_ble_eq_true rfl) (fun _ _ => rfl) i2 dX2_read_27 ?_
    obtain ⟨v3, ev3, h⟩ := nm_s h
    refine k_nmI ev3 ?_
    refine lv_istore (lv' := [(4, .int v3), (0, .ref (g.2.1 69)), (1, .ref (g.2.1 67)), (2, .int x2), (3, .int x3)]) hx hb dX2_read_28 hl (by decide) rfl (fun ls hl => ?_)
    refine lv_iload_n hx hb dX2_read_30 rfl (lv_at hl 3 rfl) ?_
    refine lv_if_ne (tgt := 54) hx hb dX2_read_31 (by decide) (fun c4 => ?_) (fun c4 => ?_)
    · have h := ite_f h c4
      exact w_X2_read_54 X rc14 hrc14 h Y  (lv_sub hl [1, 2, 3, 4, 0] rfl)
    · have h := ite_t h c4
      refine lv_iload hx hb dX2_read_34 (lv_at hl 0 rfl) ?_
      obtain ⟨v6, hc5, h⟩ := bnd1_s h
      refine k_cI Y (k_runS (As := [.int v3]) (rest := []) X Y cl_2_43 (c_X5_isFact l hc5 _) ⟨rfl, rfl, Nat.le_of_ble_eq_true rfl, Nat.le_of_ble_eq_true rfl⟩ rfl hl.1 rfl (Nat.le_of_ble_eq_true rfl) dX2_read_36 ⟨Nat.zero_le _, Nat.zero_le _⟩) (fun H locs Y => ?_)
      refine lv_if_ne (tgt := 54) hx hb dX2_read_39 (by decide) (fun c7 => ?_) (fun c7 => ?_)
      · have h := ite_f h c7
        exact w_X2_read_54 X rc14 hrc14 h Y  (lv_sub hl [1, 2, 3, 4, 0] rfl)
      · have h := ite_t h c7
        refine lv_aload_n hx hb dX2_read_42 rfl (lv_at hl 1 rfl) ?_
        refine lv_iload hx hb dX2_read_43 (lv_at hl 0 rfl) ?_
        refine lv_bipush (v := 48) hx hb dX2_read_45 (by decide) ?_
        refine lv_isub hx hb dX2_read_47 ?_
        refine k_putI X Y fl_2_32 69 (Nat.le_of_ble_eq_true rfl) rfl rfl rfl (Nat.le_of_ble_eq_true rfl) rfl dX2_read_48 (fun H locs Y => ?_)
        obtain ⟨st8, est8, h⟩ := nm_s h
        have Y : Hp g nwX (ceX g) A s.heap st8 H locs := by rw [est8]; exact Y
        refine lv_goto (tgt := 89) hx hb dX2_read_51 (by decide) ?_
        exact w_X2_read_89 X rc14 hrc14 h Y  (lv_sub hl [1, 2, 3, 4, 0] rfl)
theorem w_X2_read_14 (X : Cx g p s m args meth c cX2_read 5 RX2 none)   {st9 : Sg}   : ∀ (k : Nat) (x2 : Int32) (x3 : Int32) (st : Sg) (ls : Array Slot) (H : Heap) (locs : List Loc), X2_read_14 k x2 x3 st = some st9 → Hp g nwX (ceX g) A s.heap st H locs → lv_has ls 5 [(0, .ref (g.2.1 69)), (1, .ref (g.2.1 67)), (2, .int x2), (3, .int x3)] → W p l e rm_X2_read s m args below meth c H locs 0 0 (MQ below (QV g nwX (ceX g) A st9) args s 0 0 A) (F0 m 14 ls []) := by
  intro k
  induction k with
  | zero =>
    intro x2 x3 st ls H locs h
    exact none_s h
  | succ k ih =>
    intro x2 x3 st ls H locs h Y hl
    exact w_X2_read_14b X  (X2_read_14 k) ih h Y  hl
set_option maxHeartbeats 4000000 in
set_option maxRecDepth 100000 in
theorem w_X2_read (X : Cx g p s m args meth c cX2_read 5 RX2 none)  {st : Sg} {st9 : Sg}  (h : X2_read st = some st9) (Y : Hp g nwX (ceX g) A s.heap st H locs)  (hl : lv_has ls 5 [(0, .ref (g.2.1 69)), (1, .ref (g.2.1 67))]) : W p l e rm_X2_read s m args below meth c H locs 0 0 (MQ below (QV g nwX (ceX g) A st9) args s 0 0 A) (F0 m 0 ls []) := by
  have hx := X.1
  have hb := X.2.1
  unfold X2_read at h
  refine lv_aload_n hx hb dX2_read_0 rfl (lv_at hl 0 rfl) ?_
  refine lv_iconst (v := 1) hx hb dX2_read_1 (by decide) ?_
  refine k_putI X Y fl_2_9 69 (Nat.le_of_ble_eq_true rfl) rfl rfl rfl (Nat.le_of_ble_eq_true rfl) rfl dX2_read_2 (fun H locs Y => ?_)
  obtain ⟨st1, est1, h⟩ := nm_s h
  have Y : Hp g nwX (ceX g) A s.heap st1 H locs := by rw [est1]; exact Y
  refine lv_aload_n hx hb dX2_read_5 rfl (lv_at hl 0 rfl) ?_
  refine lv_iconst (v := 0) hx hb dX2_read_6 (by decide) ?_
  refine k_putI X Y fl_2_15 69 (Nat.le_of_ble_eq_true rfl) rfl rfl rfl (Nat.le_of_ble_eq_true rfl) rfl dX2_read_7 (fun H locs Y => ?_)
  obtain ⟨st2, est2, h⟩ := nm_s h
  have Y : Hp g nwX (ceX g) A s.heap st2 H locs := by rw [est2]; exact Y
  refine lv_iconst (v := 0) hx hb dX2_read_10 (by decide) ?_
  refine lv_istore_n (lv' := [(2, .int 0), (0, .ref (g.2.1 69)), (1, .ref (g.2.1 67))]) hx hb dX2_read_11 rfl hl (by decide) rfl (fun ls hl => ?_)
  refine lv_iconst (v := 0) hx hb dX2_read_12 (by decide) ?_
  refine lv_istore_n (lv' := [(3, .int 0), (2, .int 0), (0, .ref (g.2.1 69)), (1, .ref (g.2.1 67))]) hx hb dX2_read_13 rfl hl (by decide) rfl (fun ls hl => ?_)
  exact w_X2_read_14 X   FU 0 0 st2 _ _ _ h Y (lv_sub hl [2, 3, 1, 0] rfl)
theorem c_X2_read (l : Launch) {g : Gx}  {st : Sg} {st9 : Sg} (h : X2_read st = some st9) : MetV l yX2_read cX2_read 5 none rm_X2_read g nwX (ceX g) [.ref (g.2.1 69), .ref (g.2.1 67)] st st9 :=
  met_of (Qc := fun A => QV g nwX (ceX g) A st9) (by decide) (Nat.le_of_ble_eq_true rfl) (fun p e s m below meth c A ls X Y hl => w_X2_read X h Y hl)
def X7_rule    (st : Sg) : Option (Int32 × Sg) :=
  bnd1 (X5_faultPlace st) fun v2 =>
  if v2 = ((-6) : Int32) then
    bnd1 (X2_read st) fun st5 =>
    nm (sI st5 67 1 0) fun st6 =>
    some (st6.1 69 1, st6)
  else
    some ((-5), st)
abbrev rm_X7_rule : Room := { frames := 3, cells := 0, slots := 0, locals := 66 }
set_option maxHeartbeats 4000000 in
set_option maxRecDepth 100000 in
theorem w_X7_rule (X : Cx g p s m args meth c cX7_rule 1 RX7 (some .int))  {st : Sg} {r9 : Int32} {st9 : Sg}  (h : X7_rule st = some (r9, st9)) (Y : Hp g nwX (ceX g) A s.heap st H locs)  (hl : lv_has ls 1 [(0, .ref (g.2.1 0))]) : W p l e rm_X7_rule s m args below meth c H locs 0 0 (MQ below (QI g nwX (ceX g) A r9 st9) args s 0 0 A) (F0 m 0 ls []) := by
  have hx := X.1
  have hb := X.2.1
  unfold X7_rule at h
  refine lv_aload_n hx hb dX7_rule_0 rfl (lv_at hl 0 rfl) ?_
  refine k_get (v := .ref (g.2.1 67)) X Y fl_7_60 0 (Nat.le_of_ble_eq_true rfl) rfl rfl dX7_rule_1 ?_
  obtain ⟨v2, hc1, h⟩ := bnd1_s h
  refine k_cI Y (k_runV (As := []) (rest := []) (o := 67) X Y cl_7_209 (c_X5_faultPlace l hc1 _) ⟨rfl, rfl, Nat.le_of_ble_eq_true rfl, Nat.le_of_ble_eq_true rfl⟩ (Nat.le_of_ble_eq_true rfl) rfl rfl hl.1 rfl (Nat.le_of_ble_eq_true rfl) dX7_rule_4 ⟨Nat.zero_le _, Nat.zero_le _⟩) (fun H locs Y => ?_)
  refine lv_bipush (v := (-6)) hx hb dX7_rule_7 (by decide) ?_
  refine lv_icmp_eq (tgt := 15) hx hb dX7_rule_9 (by decide) (fun c3 => ?_) (fun c3 => ?_)
  · have h := ite_t h c3
    refine lv_aload_n hx hb dX7_rule_15 rfl (lv_at hl 0 rfl) ?_
    refine k_get (v := .ref (g.2.1 69)) X Y fl_7_67 0 (Nat.le_of_ble_eq_true rfl) rfl rfl dX7_rule_16 ?_
    refine lv_aload_n hx hb dX7_rule_19 rfl (lv_at hl 0 rfl) ?_
    refine k_get (v := .ref (g.2.1 67)) X Y fl_7_60 0 (Nat.le_of_ble_eq_true rfl) rfl rfl dX7_rule_20 ?_
    obtain ⟨st5, hc4, h⟩ := bnd1_s h
    refine k_cV Y (k_runV (As := [.ref (g.2.1 67)]) (rest := []) (o := 69) X Y cl_7_213 (c_X2_read l hc4 _) ⟨rfl, rfl, Nat.le_of_ble_eq_true rfl, Nat.le_of_ble_eq_true rfl⟩ (Nat.le_of_ble_eq_true rfl) rfl rfl hl.1 rfl (Nat.le_of_ble_eq_true rfl) dX7_rule_23 ⟨Nat.zero_le _, Nat.zero_le _⟩) (fun H locs Y => ?_)
    refine lv_aload_n hx hb dX7_rule_26 rfl (lv_at hl 0 rfl) ?_
    refine k_get (v := .ref (g.2.1 67)) X Y fl_7_60 0 (Nat.le_of_ble_eq_true rfl) rfl rfl dX7_rule_27 ?_
    refine lv_iconst (v := 0) hx hb dX7_rule_30 (by decide) ?_
    refine k_putI X Y fl_7_203 67 (Nat.le_of_ble_eq_true rfl) rfl rfl rfl (Nat.le_of_ble_eq_true rfl) rfl dX7_rule_31 (fun H locs Y => ?_)
    obtain ⟨st6, est6, h⟩ := nm_s h
    have Y : Hp g nwX (ceX g) A s.heap st6 H locs := by rw [est6]; exact Y
    refine lv_aload_n hx hb dX7_rule_34 rfl (lv_at hl 0 rfl) ?_
    refine k_get (v := .ref (g.2.1 69)) X Y fl_7_67 0 (Nat.le_of_ble_eq_true rfl) rfl rfl dX7_rule_35 ?_
    refine k_get (v := .int (st6.1 69 1)) X Y fl_7_217 69 (Nat.le_of_ble_eq_true rfl) rfl rfl dX7_rule_38 ?_
    exact k_iretW X Y h dX7_rule_41
  · have h := ite_f h c3
    refine lv_bipush (v := (-5)) hx hb dX7_rule_12 (by decide) ?_
    exact k_iretW X Y h dX7_rule_14
theorem c_X7_rule (l : Launch) {g : Gx}  {st : Sg} {r9 : Int32} {st9 : Sg} (h : X7_rule st = some (r9, st9)) : MetI l yX7_rule cX7_rule 1 (some .int) rm_X7_rule g nwX (ceX g) [.ref (g.2.1 0)] st r9 st9 :=
  met_of (Qc := fun A => QI g nwX (ceX g) A r9 st9) (by decide) (Nat.le_of_ble_eq_true rfl) (fun p e s m below meth c A ls X Y hl => w_X7_rule X h Y hl)
def X7_say   (x1 : Int32) (st : Sg) : Option (Int32 × Sg) :=
  bnd1 (X7_isWithin x1 33 126) fun v2 =>
  if v2 = (0 : Int32) then
    some ((-2), st)
  else
    if (st.1 67 1) < (40 : Int32) then
      cix (st.1 67 1) 40 <|
      nm (sI st 68 (st.1 67 1).toNatClampNeg x1) fun st6 =>
      nm (sI st6 67 1 ((st6.1 67 1) + 1)) fun st7 =>
      some (st7.1 67 1, st7)
    else
      some ((-4), st)
abbrev rm_X7_say : Room := { frames := 1, cells := 0, slots := 0, locals := 22 }
set_option maxHeartbeats 4000000 in
set_option maxRecDepth 100000 in
theorem w_X7_say (X : Cx g p s m args meth c cX7_say 2 RX7 (some .int)) {x1 : Int32} {st : Sg} {r9 : Int32} {st9 : Sg}  (h : X7_say x1 st = some (r9, st9)) (Y : Hp g nwX (ceX g) A s.heap st H locs)  (hl : lv_has ls 2 [(0, .ref (g.2.1 0)), (1, .int x1)]) : W p l e rm_X7_say s m args below meth c H locs 0 0 (MQ below (QI g nwX (ceX g) A r9 st9) args s 0 0 A) (F0 m 0 ls []) := by
  have hx := X.1
  have hb := X.2.1
  unfold X7_say at h
  refine lv_iload_n hx hb dX7_say_0 rfl (lv_at hl 1 rfl) ?_
  refine lv_bipush (v := 33) hx hb dX7_say_1 (by decide) ?_
  refine lv_bipush (v := 126) hx hb dX7_say_3 (by decide) ?_
  obtain ⟨v2, hc1, h⟩ := bnd1_s h
  refine k_cI Y (k_runS (As := [.int x1, .int 33, .int 126]) (rest := []) X Y cl_7_81 (c_X7_isWithin l hc1 _) ⟨rfl, rfl, Nat.le_of_ble_eq_true rfl, Nat.le_of_ble_eq_true rfl⟩ rfl hl.1 rfl (Nat.le_of_ble_eq_true rfl) dX7_say_5 ⟨Nat.zero_le _, Nat.zero_le _⟩) (fun H locs Y => ?_)
  refine lv_if_ne (tgt := 14) hx hb dX7_say_8 (by decide) (fun c3 => ?_) (fun c3 => ?_)
  · have h := ite_f h c3
    refine lv_aload_n hx hb dX7_say_14 rfl (lv_at hl 0 rfl) ?_
    refine k_get (v := .ref (g.2.1 67)) X Y fl_7_60 0 (Nat.le_of_ble_eq_true rfl) rfl rfl dX7_say_15 ?_
    refine k_get (v := .int (st.1 67 1)) X Y fl_7_203 67 (Nat.le_of_ble_eq_true rfl) rfl rfl dX7_say_18 ?_
    refine lv_bipush (v := 40) hx hb dX7_say_21 (by decide) ?_
    refine lv_icmp_lt (tgt := 29) hx hb dX7_say_23 (by decide) (fun c4 => ?_) (fun c4 => ?_)
    · have h := ite_t h c4
      refine lv_aload_n hx hb dX7_say_29 rfl (lv_at hl 0 rfl) ?_
      refine k_get (v := .ref (g.2.1 67)) X Y fl_7_60 0 (Nat.le_of_ble_eq_true rfl) rfl rfl dX7_say_30 ?_
      refine k_get (v := .ref (g.2.1 68)) X Y fl_7_206 67 (Nat.le_of_ble_eq_true rfl) rfl rfl dX7_say_33 ?_
      refine lv_aload_n hx hb dX7_say_36 rfl (lv_at hl 0 rfl) ?_
      refine k_get (v := .ref (g.2.1 67)) X Y fl_7_60 0 (Nat.le_of_ble_eq_true rfl) rfl rfl dX7_say_37 ?_
      refine k_get (v := .int (st.1 67 1)) X Y fl_7_203 67 (Nat.le_of_ble_eq_true rfl) rfl rfl dX7_say_40 ?_
      refine lv_iload_n hx hb dX7_say_43 rfl (lv_at hl 1 rfl) ?_
      obtain ⟨i5, h⟩ := cix_s h
      refine k_iast X Y 68 (Nat.le_of_ble_eq_true rfl) (fun _ _ => rfl) i5 dX7_say_44 (fun H locs Y => ?_)
      obtain ⟨st6, est6, h⟩ := nm_s h
      have Y : Hp g nwX (ceX g) A s.heap st6 H locs := by rw [est6]; exact Y
      refine lv_aload_n hx hb dX7_say_45 rfl (lv_at hl 0 rfl) ?_
      refine k_get (v := .ref (g.2.1 67)) X Y fl_7_60 0 (Nat.le_of_ble_eq_true rfl) rfl rfl dX7_say_46 ?_
      refine lv_dup hx hb dX7_say_49 rfl ?_
      refine k_get (v := .int (st6.1 67 1)) X Y fl_7_203 67 (Nat.le_of_ble_eq_true rfl) rfl rfl dX7_say_50 ?_
      refine lv_iconst (v := 1) hx hb dX7_say_53 (by decide) ?_
      refine lv_iadd hx hb dX7_say_54 ?_
      refine k_putI X Y fl_7_203 67 (Nat.le_of_ble_eq_true rfl) rfl rfl rfl (Nat.le_of_ble_eq_true rfl) rfl dX7_say_55 (fun H locs Y => ?_)
      obtain ⟨st7, est7, h⟩ := nm_s h
      have Y : Hp g nwX (ceX g) A s.heap st7 H locs := by rw [est7]; exact Y
      refine lv_aload_n hx hb dX7_say_58 rfl (lv_at hl 0 rfl) ?_
      refine k_get (v := .ref (g.2.1 67)) X Y fl_7_60 0 (Nat.le_of_ble_eq_true rfl) rfl rfl dX7_say_59 ?_
      refine k_get (v := .int (st7.1 67 1)) X Y fl_7_203 67 (Nat.le_of_ble_eq_true rfl) rfl rfl dX7_say_62 ?_
      exact k_iretW X Y h dX7_say_65
    · have h := ite_f h c4
      refine lv_bipush (v := (-4)) hx hb dX7_say_26 (by decide) ?_
      exact k_iretW X Y h dX7_say_28
  · have h := ite_t h c3
    refine lv_bipush (v := (-2)) hx hb dX7_say_11 (by decide) ?_
    exact k_iretW X Y h dX7_say_13
theorem c_X7_say (l : Launch) {g : Gx} {x1 : Int32} {st : Sg} {r9 : Int32} {st9 : Sg} (h : X7_say x1 st = some (r9, st9)) : MetI l yX7_say cX7_say 2 (some .int) rm_X7_say g nwX (ceX g) [.ref (g.2.1 0), .int x1] st r9 st9 :=
  met_of (Qc := fun A => QI g nwX (ceX g) A r9 st9) (by decide) (Nat.le_of_ble_eq_true rfl) (fun p e s m below meth c A ls X Y hl => w_X7_say X h Y hl)
def X7_set_101    (st : Sg) : Option (Int32 × Sg) :=
  some ((-2), st)
def X7_set_104   (x3 : Int32) (st : Sg) : Option (Int32 × Sg) :=
  nm (sI st 1 10 ((st.1 1 10) + 1)) fun st1 =>
  some (x3, st1)
def X7_set_67   (x1 : Int32) (x2 : Int32) (st : Sg) : Option (Int32 × Sg) :=
  if x1 = (2 : Int32) then
    bnd1 (X7_isWithin x2 0 99) fun v3 =>
    if v3 = (0 : Int32) then
      X7_set_101 st
    else
      nm (st.1 1 2) fun v5 =>
      nm (sI st 1 2 x2) fun st6 =>
      X7_set_104 v5 st6
  else
    X7_set_101 st
def X7_set_33   (x1 : Int32) (x2 : Int32) (st : Sg) : Option (Int32 × Sg) :=
  if x1 = (1 : Int32) then
    bnd1 (X7_isWithin x2 1 6) fun v3 =>
    if v3 = (0 : Int32) then
      X7_set_67 x1 x2 st
    else
      nm (st.1 1 1) fun v5 =>
      nm (sI st 1 1 x2) fun st6 =>
      X7_set_104 v5 st6
  else
    X7_set_67 x1 x2 st
def X7_set   (x1 : Int32) (x2 : Int32) (st : Sg) : Option (Int32 × Sg) :=
  if x1 = (0 : Int32) then
    bnd1 (X7_isWithin x2 0 12) fun v3 =>
    if v3 = (0 : Int32) then
      X7_set_33 x1 x2 st
    else
      nm (st.1 1 0) fun v5 =>
      nm (sI st 1 0 x2) fun st6 =>
      X7_set_104 v5 st6
  else
    X7_set_33 x1 x2 st
abbrev rm_X7_set : Room := { frames := 1, cells := 0, slots := 0, locals := 22 }
set_option maxHeartbeats 4000000 in
set_option maxRecDepth 100000 in
theorem w_X7_set_101 (X : Cx g p s m args meth c cX7_set 4 RX7 (some .int))  {st : Sg} {r9 : Int32} {st9 : Sg}  (h : X7_set_101 st = some (r9, st9)) (Y : Hp g nwX (ceX g) A s.heap st H locs)  (hl : lv_has ls 4 []) : W p l e rm_X7_set s m args below meth c H locs 0 0 (MQ below (QI g nwX (ceX g) A r9 st9) args s 0 0 A) (F0 m 101 ls []) := by
  have hx := X.1
  have hb := X.2.1
  unfold X7_set_101 at h
  refine lv_bipush (v := (-2)) hx hb dX7_set_101 (by decide) ?_
  exact k_iretW X Y h dX7_set_103
set_option maxHeartbeats 4000000 in
set_option maxRecDepth 100000 in
theorem w_X7_set_104 (X : Cx g p s m args meth c cX7_set 4 RX7 (some .int)) {x3 : Int32} {st : Sg} {r9 : Int32} {st9 : Sg}  (h : X7_set_104 x3 st = some (r9, st9)) (Y : Hp g nwX (ceX g) A s.heap st H locs)  (hl : lv_has ls 4 [(0, .ref (g.2.1 0)), (3, .int x3)]) : W p l e rm_X7_set s m args below meth c H locs 0 0 (MQ below (QI g nwX (ceX g) A r9 st9) args s 0 0 A) (F0 m 104 ls []) := by
  have hx := X.1
  have hb := X.2.1
  unfold X7_set_104 at h
  refine lv_aload_n hx hb dX7_set_104 rfl (lv_at hl 0 rfl) ?_
  refine k_get (v := .ref (g.2.1 1)) X Y fl_7_10 0 (Nat.le_of_ble_eq_true rfl) rfl rfl dX7_set_105 ?_
  refine lv_dup hx hb dX7_set_108 rfl ?_
  refine k_get (v := .int (st.1 1 10)) X Y fl_7_94 1 (Nat.le_of_ble_eq_true rfl) rfl rfl dX7_set_109 ?_
  refine lv_iconst (v := 1) hx hb dX7_set_112 (by decide) ?_
  refine lv_iadd hx hb dX7_set_113 ?_
  refine k_putI X Y fl_7_94 1 (Nat.le_of_ble_eq_true rfl) rfl rfl rfl (Nat.le_of_ble_eq_true rfl) rfl dX7_set_114 (fun H locs Y => ?_)
  obtain ⟨st1, est1, h⟩ := nm_s h
  have Y : Hp g nwX (ceX g) A s.heap st1 H locs := by rw [est1]; exact Y
  refine lv_iload_n hx hb dX7_set_117 rfl (lv_at hl 1 rfl) ?_
  exact k_iretW X Y h dX7_set_118
set_option maxHeartbeats 4000000 in
set_option maxRecDepth 100000 in
theorem w_X7_set_67 (X : Cx g p s m args meth c cX7_set 4 RX7 (some .int)) {x1 : Int32} {x2 : Int32} {st : Sg} {r9 : Int32} {st9 : Sg}  (h : X7_set_67 x1 x2 st = some (r9, st9)) (Y : Hp g nwX (ceX g) A s.heap st H locs)  (hl : lv_has ls 4 [(0, .ref (g.2.1 0)), (1, .int x1), (2, .int x2)]) : W p l e rm_X7_set s m args below meth c H locs 0 0 (MQ below (QI g nwX (ceX g) A r9 st9) args s 0 0 A) (F0 m 67 ls []) := by
  have hx := X.1
  have hb := X.2.1
  unfold X7_set_67 at h
  refine lv_iload_n hx hb dX7_set_67 rfl (lv_at hl 1 rfl) ?_
  refine lv_iconst (v := 2) hx hb dX7_set_68 (by decide) ?_
  refine lv_icmp_ne (tgt := 101) hx hb dX7_set_69 (by decide) (fun c1 => ?_) (fun c1 => ?_)
  · have h := ite_f h c1
    exact w_X7_set_101 X  h Y  (lv_sub hl [] rfl)
  · have h := ite_t h c1
    refine lv_iload_n hx hb dX7_set_72 rfl (lv_at hl 2 rfl) ?_
    refine lv_iconst (v := 0) hx hb dX7_set_73 (by decide) ?_
    refine lv_bipush (v := 99) hx hb dX7_set_74 (by decide) ?_
    obtain ⟨v3, hc2, h⟩ := bnd1_s h
    refine k_cI Y (k_runS (As := [.int x2, .int 0, .int 99]) (rest := []) X Y cl_7_81 (c_X7_isWithin l hc2 _) ⟨rfl, rfl, Nat.le_of_ble_eq_true rfl, Nat.le_of_ble_eq_true rfl⟩ rfl hl.1 rfl (Nat.le_of_ble_eq_true rfl) dX7_set_76 ⟨Nat.zero_le _, Nat.zero_le _⟩) (fun H locs Y => ?_)
    refine lv_if_eq (tgt := 101) hx hb dX7_set_79 (by decide) (fun c4 => ?_) (fun c4 => ?_)
    · have h := ite_t h c4
      exact w_X7_set_101 X  h Y  (lv_sub hl [] rfl)
    · have h := ite_f h c4
      refine lv_aload_n hx hb dX7_set_82 rfl (lv_at hl 0 rfl) ?_
      refine k_get (v := .ref (g.2.1 1)) X Y fl_7_10 0 (Nat.le_of_ble_eq_true rfl) rfl rfl dX7_set_83 ?_
      refine k_get (v := .int (st.1 1 2)) X Y fl_7_91 1 (Nat.le_of_ble_eq_true rfl) rfl rfl dX7_set_86 ?_
      obtain ⟨v5, ev5, h⟩ := nm_s h
      refine k_nmI ev5 ?_
      refine lv_istore_n (lv' := [(3, .int v5), (0, .ref (g.2.1 0)), (1, .int x1), (2, .int x2)]) hx hb dX7_set_89 rfl hl (by decide) rfl (fun ls hl => ?_)
      refine lv_aload_n hx hb dX7_set_90 rfl (lv_at hl 1 rfl) ?_
      refine k_get (v := .ref (g.2.1 1)) X Y fl_7_10 0 (Nat.le_of_ble_eq_true rfl) rfl rfl dX7_set_91 ?_
      refine lv_iload_n hx hb dX7_set_94 rfl (lv_at hl 3 rfl) ?_
      refine k_putI X Y fl_7_91 1 (Nat.le_of_ble_eq_true rfl) rfl rfl rfl (Nat.le_of_ble_eq_true rfl) rfl dX7_set_95 (fun H locs Y => ?_)
      obtain ⟨st6, est6, h⟩ := nm_s h
      have Y : Hp g nwX (ceX g) A s.heap st6 H locs := by rw [est6]; exact Y
      refine lv_goto (tgt := 104) hx hb dX7_set_98 (by decide) ?_
      exact w_X7_set_104 X  h Y  (lv_sub hl [1, 0] rfl)
set_option maxHeartbeats 4000000 in
set_option maxRecDepth 100000 in
theorem w_X7_set_33 (X : Cx g p s m args meth c cX7_set 4 RX7 (some .int)) {x1 : Int32} {x2 : Int32} {st : Sg} {r9 : Int32} {st9 : Sg}  (h : X7_set_33 x1 x2 st = some (r9, st9)) (Y : Hp g nwX (ceX g) A s.heap st H locs)  (hl : lv_has ls 4 [(0, .ref (g.2.1 0)), (1, .int x1), (2, .int x2)]) : W p l e rm_X7_set s m args below meth c H locs 0 0 (MQ below (QI g nwX (ceX g) A r9 st9) args s 0 0 A) (F0 m 33 ls []) := by
  have hx := X.1
  have hb := X.2.1
  unfold X7_set_33 at h
  refine lv_iload_n hx hb dX7_set_33 rfl (lv_at hl 1 rfl) ?_
  refine lv_iconst (v := 1) hx hb dX7_set_34 (by decide) ?_
  refine lv_icmp_ne (tgt := 67) hx hb dX7_set_35 (by decide) (fun c1 => ?_) (fun c1 => ?_)
  · have h := ite_f h c1
    exact w_X7_set_67 X  h Y  (lv_sub hl [0, 1, 2] rfl)
  · have h := ite_t h c1
    refine lv_iload_n hx hb dX7_set_38 rfl (lv_at hl 2 rfl) ?_
    refine lv_iconst (v := 1) hx hb dX7_set_39 (by decide) ?_
    refine lv_bipush (v := 6) hx hb dX7_set_40 (by decide) ?_
    obtain ⟨v3, hc2, h⟩ := bnd1_s h
    refine k_cI Y (k_runS (As := [.int x2, .int 1, .int 6]) (rest := []) X Y cl_7_81 (c_X7_isWithin l hc2 _) ⟨rfl, rfl, Nat.le_of_ble_eq_true rfl, Nat.le_of_ble_eq_true rfl⟩ rfl hl.1 rfl (Nat.le_of_ble_eq_true rfl) dX7_set_42 ⟨Nat.zero_le _, Nat.zero_le _⟩) (fun H locs Y => ?_)
    refine lv_if_eq (tgt := 67) hx hb dX7_set_45 (by decide) (fun c4 => ?_) (fun c4 => ?_)
    · have h := ite_t h c4
      exact w_X7_set_67 X  h Y  (lv_sub hl [0, 1, 2] rfl)
    · have h := ite_f h c4
      refine lv_aload_n hx hb dX7_set_48 rfl (lv_at hl 0 rfl) ?_
      refine k_get (v := .ref (g.2.1 1)) X Y fl_7_10 0 (Nat.le_of_ble_eq_true rfl) rfl rfl dX7_set_49 ?_
      refine k_get (v := .int (st.1 1 1)) X Y fl_7_88 1 (Nat.le_of_ble_eq_true rfl) rfl rfl dX7_set_52 ?_
      obtain ⟨v5, ev5, h⟩ := nm_s h
      refine k_nmI ev5 ?_
      refine lv_istore_n (lv' := [(3, .int v5), (0, .ref (g.2.1 0)), (1, .int x1), (2, .int x2)]) hx hb dX7_set_55 rfl hl (by decide) rfl (fun ls hl => ?_)
      refine lv_aload_n hx hb dX7_set_56 rfl (lv_at hl 1 rfl) ?_
      refine k_get (v := .ref (g.2.1 1)) X Y fl_7_10 0 (Nat.le_of_ble_eq_true rfl) rfl rfl dX7_set_57 ?_
      refine lv_iload_n hx hb dX7_set_60 rfl (lv_at hl 3 rfl) ?_
      refine k_putI X Y fl_7_88 1 (Nat.le_of_ble_eq_true rfl) rfl rfl rfl (Nat.le_of_ble_eq_true rfl) rfl dX7_set_61 (fun H locs Y => ?_)
      obtain ⟨st6, est6, h⟩ := nm_s h
      have Y : Hp g nwX (ceX g) A s.heap st6 H locs := by rw [est6]; exact Y
      refine lv_goto (tgt := 104) hx hb dX7_set_64 (by decide) ?_
      exact w_X7_set_104 X  h Y  (lv_sub hl [1, 0] rfl)
set_option maxHeartbeats 4000000 in
set_option maxRecDepth 100000 in
theorem w_X7_set (X : Cx g p s m args meth c cX7_set 4 RX7 (some .int)) {x1 : Int32} {x2 : Int32} {st : Sg} {r9 : Int32} {st9 : Sg}  (h : X7_set x1 x2 st = some (r9, st9)) (Y : Hp g nwX (ceX g) A s.heap st H locs)  (hl : lv_has ls 4 [(0, .ref (g.2.1 0)), (1, .int x1), (2, .int x2)]) : W p l e rm_X7_set s m args below meth c H locs 0 0 (MQ below (QI g nwX (ceX g) A r9 st9) args s 0 0 A) (F0 m 0 ls []) := by
  have hx := X.1
  have hb := X.2.1
  unfold X7_set at h
  refine lv_iload_n hx hb dX7_set_0 rfl (lv_at hl 1 rfl) ?_
  refine lv_if_ne (tgt := 33) hx hb dX7_set_1 (by decide) (fun c1 => ?_) (fun c1 => ?_)
  · have h := ite_f h c1
    exact w_X7_set_33 X  h Y  (lv_sub hl [0, 1, 2] rfl)
  · have h := ite_t h c1
    refine lv_iload_n hx hb dX7_set_4 rfl (lv_at hl 2 rfl) ?_
    refine lv_iconst (v := 0) hx hb dX7_set_5 (by decide) ?_
    refine lv_bipush (v := 12) hx hb dX7_set_6 (by decide) ?_
    obtain ⟨v3, hc2, h⟩ := bnd1_s h
    refine k_cI Y (k_runS (As := [.int x2, .int 0, .int 12]) (rest := []) X Y cl_7_81 (c_X7_isWithin l hc2 _) ⟨rfl, rfl, Nat.le_of_ble_eq_true rfl, Nat.le_of_ble_eq_true rfl⟩ rfl hl.1 rfl (Nat.le_of_ble_eq_true rfl) dX7_set_8 ⟨Nat.zero_le _, Nat.zero_le _⟩) (fun H locs Y => ?_)
    refine lv_if_eq (tgt := 33) hx hb dX7_set_11 (by decide) (fun c4 => ?_) (fun c4 => ?_)
    · have h := ite_t h c4
      exact w_X7_set_33 X  h Y  (lv_sub hl [0, 1, 2] rfl)
    · have h := ite_f h c4
      refine lv_aload_n hx hb dX7_set_14 rfl (lv_at hl 0 rfl) ?_
      refine k_get (v := .ref (g.2.1 1)) X Y fl_7_10 0 (Nat.le_of_ble_eq_true rfl) rfl rfl dX7_set_15 ?_
      refine k_get (v := .int (st.1 1 0)) X Y fl_7_85 1 (Nat.le_of_ble_eq_true rfl) rfl rfl dX7_set_18 ?_
      obtain ⟨v5, ev5, h⟩ := nm_s h
      refine k_nmI ev5 ?_
      refine lv_istore_n (lv' := [(3, .int v5), (0, .ref (g.2.1 0)), (1, .int x1), (2, .int x2)]) hx hb dX7_set_21 rfl hl (by decide) rfl (fun ls hl => ?_)
      refine lv_aload_n hx hb dX7_set_22 rfl (lv_at hl 1 rfl) ?_
      refine k_get (v := .ref (g.2.1 1)) X Y fl_7_10 0 (Nat.le_of_ble_eq_true rfl) rfl rfl dX7_set_23 ?_
      refine lv_iload_n hx hb dX7_set_26 rfl (lv_at hl 3 rfl) ?_
      refine k_putI X Y fl_7_85 1 (Nat.le_of_ble_eq_true rfl) rfl rfl rfl (Nat.le_of_ble_eq_true rfl) rfl dX7_set_27 (fun H locs Y => ?_)
      obtain ⟨st6, est6, h⟩ := nm_s h
      have Y : Hp g nwX (ceX g) A s.heap st6 H locs := by rw [est6]; exact Y
      refine lv_goto (tgt := 104) hx hb dX7_set_30 (by decide) ?_
      exact w_X7_set_104 X  h Y  (lv_sub hl [1, 0] rfl)
theorem c_X7_set (l : Launch) {g : Gx} {x1 : Int32} {x2 : Int32} {st : Sg} {r9 : Int32} {st9 : Sg} (h : X7_set x1 x2 st = some (r9, st9)) : MetI l yX7_set cX7_set 4 (some .int) rm_X7_set g nwX (ceX g) [.ref (g.2.1 0), .int x1, .int x2] st r9 st9 :=
  met_of (Qc := fun A => QI g nwX (ceX g) A r9 st9) (by decide) (Nat.le_of_ble_eq_true rfl) (fun p e s m below meth c A ls X Y hl => w_X7_set X h Y hl)
def X7_sort_29    (st : Sg) : Option (Int32 × Sg) :=
  some ((-2), st)
def X7_sort   (x1 : Int32) (x2 : Int32) (x3 : Int32) (st : Sg) : Option (Int32 × Sg) :=
  bnd1 (X7_isWithin x1 0 4) fun v2 =>
  if v2 = (0 : Int32) then
    X7_sort_29 st
  else
    bnd1 (X7_isWithin x2 0 99) fun v5 =>
    if v5 = (0 : Int32) then
      X7_sort_29 st
    else
      bnd1 (X7_isWithin x3 0 30) fun v8 =>
      if v8 = (0 : Int32) then
        X7_sort_29 st
      else
        nm (st.1 1 9) fun v10 =>
        if v10 < (3 : Int32) then
          cix v10 3 <|
          nm (sI st 3 v10.toNatClampNeg x1) fun st13 =>
          cix v10 3 <|
          nm (sI st13 4 v10.toNatClampNeg x2) fun st15 =>
          cix v10 3 <|
          nm (sI st15 5 v10.toNatClampNeg x3) fun st17 =>
          cix v10 3 <|
          nm (sI st17 6 v10.toNatClampNeg (-1)) fun st19 =>
          nm (sI st19 1 9 ((st19.1 1 9) + 1)) fun st20 =>
          nm (sI st20 1 10 ((st20.1 1 10) + 1)) fun st21 =>
          some (v10, st21)
        else
          some ((-4), st)
abbrev rm_X7_sort : Room := { frames := 1, cells := 0, slots := 0, locals := 22 }
set_option maxHeartbeats 4000000 in
set_option maxRecDepth 100000 in
theorem w_X7_sort_29 (X : Cx g p s m args meth c cX7_sort 5 RX7 (some .int))  {st : Sg} {r9 : Int32} {st9 : Sg}  (h : X7_sort_29 st = some (r9, st9)) (Y : Hp g nwX (ceX g) A s.heap st H locs)  (hl : lv_has ls 5 []) : W p l e rm_X7_sort s m args below meth c H locs 0 0 (MQ below (QI g nwX (ceX g) A r9 st9) args s 0 0 A) (F0 m 29 ls []) := by
  have hx := X.1
  have hb := X.2.1
  unfold X7_sort_29 at h
  refine lv_bipush (v := (-2)) hx hb dX7_sort_29 (by decide) ?_
  exact k_iretW X Y h dX7_sort_31
set_option maxHeartbeats 4000000 in
set_option maxRecDepth 100000 in
theorem w_X7_sort (X : Cx g p s m args meth c cX7_sort 5 RX7 (some .int)) {x1 : Int32} {x2 : Int32} {x3 : Int32} {st : Sg} {r9 : Int32} {st9 : Sg}  (h : X7_sort x1 x2 x3 st = some (r9, st9)) (Y : Hp g nwX (ceX g) A s.heap st H locs)  (hl : lv_has ls 5 [(0, .ref (g.2.1 0)), (1, .int x1), (2, .int x2), (3, .int x3)]) : W p l e rm_X7_sort s m args below meth c H locs 0 0 (MQ below (QI g nwX (ceX g) A r9 st9) args s 0 0 A) (F0 m 0 ls []) := by
  have hx := X.1
  have hb := X.2.1
  unfold X7_sort at h
  refine lv_iload_n hx hb dX7_sort_0 rfl (lv_at hl 1 rfl) ?_
  refine lv_iconst (v := 0) hx hb dX7_sort_1 (by decide) ?_
  refine lv_iconst (v := 4) hx hb dX7_sort_2 (by decide) ?_
  obtain ⟨v2, hc1, h⟩ := bnd1_s h
  refine k_cI Y (k_runS (As := [.int x1, .int 0, .int 4]) (rest := []) X Y cl_7_81 (c_X7_isWithin l hc1 _) ⟨rfl, rfl, Nat.le_of_ble_eq_true rfl, Nat.le_of_ble_eq_true rfl⟩ rfl hl.1 rfl (Nat.le_of_ble_eq_true rfl) dX7_sort_3 ⟨Nat.zero_le _, Nat.zero_le _⟩) (fun H locs Y => ?_)
  refine lv_if_eq (tgt := 29) hx hb dX7_sort_6 (by decide) (fun c3 => ?_) (fun c3 => ?_)
  · have h := ite_t h c3
    exact w_X7_sort_29 X  h Y  (lv_sub hl [] rfl)
  · have h := ite_f h c3
    refine lv_iload_n hx hb dX7_sort_9 rfl (lv_at hl 2 rfl) ?_
    refine lv_iconst (v := 0) hx hb dX7_sort_10 (by decide) ?_
    refine lv_bipush (v := 99) hx hb dX7_sort_11 (by decide) ?_
    obtain ⟨v5, hc4, h⟩ := bnd1_s h
    refine k_cI Y (k_runS (As := [.int x2, .int 0, .int 99]) (rest := []) X Y cl_7_81 (c_X7_isWithin l hc4 _) ⟨rfl, rfl, Nat.le_of_ble_eq_true rfl, Nat.le_of_ble_eq_true rfl⟩ rfl hl.1 rfl (Nat.le_of_ble_eq_true rfl) dX7_sort_13 ⟨Nat.zero_le _, Nat.zero_le _⟩) (fun H locs Y => ?_)
    refine lv_if_eq (tgt := 29) hx hb dX7_sort_16 (by decide) (fun c6 => ?_) (fun c6 => ?_)
    · have h := ite_t h c6
      exact w_X7_sort_29 X  h Y  (lv_sub hl [] rfl)
    · have h := ite_f h c6
      refine lv_iload_n hx hb dX7_sort_19 rfl (lv_at hl 3 rfl) ?_
      refine lv_iconst (v := 0) hx hb dX7_sort_20 (by decide) ?_
      refine lv_bipush (v := 30) hx hb dX7_sort_21 (by decide) ?_
      obtain ⟨v8, hc7, h⟩ := bnd1_s h
      refine k_cI Y (k_runS (As := [.int x3, .int 0, .int 30]) (rest := []) X Y cl_7_81 (c_X7_isWithin l hc7 _) ⟨rfl, rfl, Nat.le_of_ble_eq_true rfl, Nat.le_of_ble_eq_true rfl⟩ rfl hl.1 rfl (Nat.le_of_ble_eq_true rfl) dX7_sort_23 ⟨Nat.zero_le _, Nat.zero_le _⟩) (fun H locs Y => ?_)
      refine lv_if_ne (tgt := 32) hx hb dX7_sort_26 (by decide) (fun c9 => ?_) (fun c9 => ?_)
      · have h := ite_f h c9
        refine lv_aload_n hx hb dX7_sort_32 rfl (lv_at hl 0 rfl) ?_
        refine k_get (v := .ref (g.2.1 1)) X Y fl_7_10 0 (Nat.le_of_ble_eq_true rfl) rfl rfl dX7_sort_33 ?_
        refine k_get (v := .int (st.1 1 9)) X Y fl_7_103 1 (Nat.le_of_ble_eq_true rfl) rfl rfl dX7_sort_36 ?_
        obtain ⟨v10, ev10, h⟩ := nm_s h
        refine k_nmI ev10 ?_
        refine lv_istore (lv' := [(4, .int v10), (0, .ref (g.2.1 0)), (1, .int x1), (2, .int x2), (3, .int x3)]) hx hb dX7_sort_39 hl (by decide) rfl (fun ls hl => ?_)
        refine lv_iload hx hb dX7_sort_41 (lv_at hl 0 rfl) ?_
        refine lv_iconst (v := 3) hx hb dX7_sort_43 (by decide) ?_
        refine lv_icmp_lt (tgt := 50) hx hb dX7_sort_44 (by decide) (fun c11 => ?_) (fun c11 => ?_)
        · have h := ite_t h c11
          refine lv_aload_n hx hb dX7_sort_50 rfl (lv_at hl 1 rfl) ?_
          refine k_get (v := .ref (g.2.1 1)) X Y fl_7_10 0 (Nat.le_of_ble_eq_true rfl) rfl rfl dX7_sort_51 ?_
          refine k_get (v := .ref (g.2.1 3)) X Y fl_7_106 1 (Nat.le_of_ble_eq_true rfl) rfl rfl dX7_sort_54 ?_
          refine lv_iload hx hb dX7_sort_57 (lv_at hl 0 rfl) ?_
          refine lv_iload_n hx hb dX7_sort_59 rfl (lv_at hl 2 rfl) ?_
          obtain ⟨i12, h⟩ := cix_s h
          refine k_iast X Y 3 (Nat.le_of_ble_eq_true rfl) (fun _ _ => rfl) i12 dX7_sort_60 (fun H locs Y => ?_)
          obtain ⟨st13, est13, h⟩ := nm_s h
          have Y : Hp g nwX (ceX g) A s.heap st13 H locs := by rw [est13]; exact Y
          refine lv_aload_n hx hb dX7_sort_61 rfl (lv_at hl 1 rfl) ?_
          refine k_get (v := .ref (g.2.1 1)) X Y fl_7_10 0 (Nat.le_of_ble_eq_true rfl) rfl rfl dX7_sort_62 ?_
          refine k_get (v := .ref (g.2.1 4)) X Y fl_7_109 1 (Nat.le_of_ble_eq_true rfl) rfl rfl dX7_sort_65 ?_
          refine lv_iload hx hb dX7_sort_68 (lv_at hl 0 rfl) ?_
          refine lv_iload_n hx hb dX7_sort_70 rfl (lv_at hl 3 rfl) ?_
          obtain ⟨i14, h⟩ := cix_s h
          refine k_iast X Y 4 (Nat.le_of_ble_eq_true rfl) (fun _ _ => rfl) i14 dX7_sort_71 (fun H locs Y => ?_)
          obtain ⟨st15, est15, h⟩ := nm_s h
          have Y : Hp g nwX (ceX g) A s.heap st15 H locs := by rw [est15]; exact Y
          refine lv_aload_n hx hb dX7_sort_72 rfl (lv_at hl 1 rfl) ?_
          refine k_get (v := .ref (g.2.1 1)) X Y fl_7_10 0 (Nat.le_of_ble_eq_true rfl) rfl rfl dX7_sort_73 ?_
          refine k_get (v := .ref (g.2.1 5)) X Y fl_7_112 1 (Nat.le_of_ble_eq_true rfl) rfl rfl dX7_sort_76 ?_
          refine lv_iload hx hb dX7_sort_79 (lv_at hl 0 rfl) ?_
          refine lv_iload_n hx hb dX7_sort_81 rfl (lv_at hl 4 rfl) ?_
          obtain ⟨i16, h⟩ := cix_s h
          refine k_iast X Y 5 (Nat.le_of_ble_eq_true rfl) (fun _ _ => rfl) i16 dX7_sort_82 (fun H locs Y => ?_)
          obtain ⟨st17, est17, h⟩ := nm_s h
          have Y : Hp g nwX (ceX g) A s.heap st17 H locs := by rw [est17]; exact Y
          refine lv_aload_n hx hb dX7_sort_83 rfl (lv_at hl 1 rfl) ?_
          refine k_get (v := .ref (g.2.1 1)) X Y fl_7_10 0 (Nat.le_of_ble_eq_true rfl) rfl rfl dX7_sort_84 ?_
          refine k_get (v := .ref (g.2.1 6)) X Y fl_7_115 1 (Nat.le_of_ble_eq_true rfl) rfl rfl dX7_sort_87 ?_
          refine lv_iload hx hb dX7_sort_90 (lv_at hl 0 rfl) ?_
          refine lv_iconst (v := (-1)) hx hb dX7_sort_92 (by decide) ?_
          obtain ⟨i18, h⟩ := cix_s h
          refine k_iast X Y 6 (Nat.le_of_ble_eq_true rfl) (fun _ _ => rfl) i18 dX7_sort_93 (fun H locs Y => ?_)
          obtain ⟨st19, est19, h⟩ := nm_s h
          have Y : Hp g nwX (ceX g) A s.heap st19 H locs := by rw [est19]; exact Y
          refine lv_aload_n hx hb dX7_sort_94 rfl (lv_at hl 1 rfl) ?_
          refine k_get (v := .ref (g.2.1 1)) X Y fl_7_10 0 (Nat.le_of_ble_eq_true rfl) rfl rfl dX7_sort_95 ?_
          refine lv_dup hx hb dX7_sort_98 rfl ?_
          refine k_get (v := .int (st19.1 1 9)) X Y fl_7_103 1 (Nat.le_of_ble_eq_true rfl) rfl rfl dX7_sort_99 ?_
          refine lv_iconst (v := 1) hx hb dX7_sort_102 (by decide) ?_
          refine lv_iadd hx hb dX7_sort_103 ?_
          refine k_putI X Y fl_7_103 1 (Nat.le_of_ble_eq_true rfl) rfl rfl rfl (Nat.le_of_ble_eq_true rfl) rfl dX7_sort_104 (fun H locs Y => ?_)
          obtain ⟨st20, est20, h⟩ := nm_s h
          have Y : Hp g nwX (ceX g) A s.heap st20 H locs := by rw [est20]; exact Y
          refine lv_aload_n hx hb dX7_sort_107 rfl (lv_at hl 1 rfl) ?_
          refine k_get (v := .ref (g.2.1 1)) X Y fl_7_10 0 (Nat.le_of_ble_eq_true rfl) rfl rfl dX7_sort_108 ?_
          refine lv_dup hx hb dX7_sort_111 rfl ?_
          refine k_get (v := .int (st20.1 1 10)) X Y fl_7_94 1 (Nat.le_of_ble_eq_true rfl) rfl rfl dX7_sort_112 ?_
          refine lv_iconst (v := 1) hx hb dX7_sort_115 (by decide) ?_
          refine lv_iadd hx hb dX7_sort_116 ?_
          refine k_putI X Y fl_7_94 1 (Nat.le_of_ble_eq_true rfl) rfl rfl rfl (Nat.le_of_ble_eq_true rfl) rfl dX7_sort_117 (fun H locs Y => ?_)
          obtain ⟨st21, est21, h⟩ := nm_s h
          have Y : Hp g nwX (ceX g) A s.heap st21 H locs := by rw [est21]; exact Y
          refine lv_iload hx hb dX7_sort_120 (lv_at hl 0 rfl) ?_
          exact k_iretW X Y h dX7_sort_122
        · have h := ite_f h c11
          refine lv_bipush (v := (-4)) hx hb dX7_sort_47 (by decide) ?_
          exact k_iretW X Y h dX7_sort_49
      · have h := ite_t h c9
        exact w_X7_sort_29 X  h Y  (lv_sub hl [] rfl)
theorem c_X7_sort (l : Launch) {g : Gx} {x1 : Int32} {x2 : Int32} {x3 : Int32} {st : Sg} {r9 : Int32} {st9 : Sg} (h : X7_sort x1 x2 x3 st = some (r9, st9)) : MetI l yX7_sort cX7_sort 5 (some .int) rm_X7_sort g nwX (ceX g) [.ref (g.2.1 0), .int x1, .int x2, .int x3] st r9 st9 :=
  met_of (Qc := fun A => QI g nwX (ceX g) A r9 st9) (by decide) (Nat.le_of_ble_eq_true rfl) (fun p e s m below meth c A ls X Y hl => w_X7_sort X h Y hl)
def X7_state_43   (k1 : Int32) (x1 : Int32) (x2 : Int32) (x3 : Int32) (st : Sg) : Option (Int64 × Sg) :=
  bnd1 (X7_refusalOf k1 st) fun v2 =>
  if v2 = (0 : Int32) then
    bnd1 (X7_findBest st) fun st5 =>
    cix x1 7 <|
    cix x2 13 <|
    bnd1 (X3_scale ((st5.1 1 1) - x1) st5) fun v9 =>
    bnd1 (X7_partOf (st5.2 (10 + (x1).toNatClampNeg) x2.toNatClampNeg) v9 x3) fun v11 =>
    some (v11, st5)
  else
    some ((-1000000000000000000) + (v2.toInt64), st)
def X7_state_42   (x1 : Int32) (x2 : Int32) (x3 : Int32) (st : Sg) : Option (Int64 × Sg) :=
  X7_state_43 0 x1 x2 x3 st
def X7_state   (x1 : Int32) (x2 : Int32) (x3 : Int32) (st : Sg) : Option (Int64 × Sg) :=
  bnd1 (X7_isWithin x1 0 (st.1 1 1)) fun v2 =>
  if v2 = (0 : Int32) then
    X7_state_42 x1 x2 x3 st
  else
    bnd1 (X7_isWithin x2 0 (st.1 1 0)) fun v5 =>
    if v5 = (0 : Int32) then
      X7_state_42 x1 x2 x3 st
    else
      bnd1 (X7_isPart x3) fun v8 =>
      if v8 = (0 : Int32) then
        X7_state_42 x1 x2 x3 st
      else
        X7_state_43 1 x1 x2 x3 st
abbrev rm_X7_state : Room := { frames := 5, cells := 0, slots := 0, locals := 115 }
set_option maxHeartbeats 4000000 in
set_option maxRecDepth 100000 in
theorem w_X7_state_43 (X : Cx g p s m args meth c cX7_state 5 RX7 (some .long)) {k1 : Int32} {x1 : Int32} {x2 : Int32} {x3 : Int32} {st : Sg} {r9 : Int64} {st9 : Sg}  (h : X7_state_43 k1 x1 x2 x3 st = some (r9, st9)) (Y : Hp g nwX (ceX g) A s.heap st H locs)  (hl : lv_has ls 5 [(0, .ref (g.2.1 0)), (1, .int x1), (2, .int x2), (3, .int x3)]) : W p l e rm_X7_state s m args below meth c H locs 0 0 (MQ below (QJ g nwX (ceX g) A r9 st9) args s 0 0 A) (F0 m 43 ls [.int k1, .ref (g.2.1 0)]) := by
  have hx := X.1
  have hb := X.2.1
  unfold X7_state_43 at h
  obtain ⟨v2, hc1, h⟩ := bnd1_s h
  refine k_cI Y (k_runV (As := [.int k1]) (rest := []) (o := 0) X Y cl_7_136 (c_X7_refusalOf l hc1 _) ⟨rfl, rfl, Nat.le_of_ble_eq_true rfl, Nat.le_of_ble_eq_true rfl⟩ (Nat.le_of_ble_eq_true rfl) rfl rfl hl.1 rfl (Nat.le_of_ble_eq_true rfl) dX7_state_43 ⟨Nat.zero_le _, Nat.zero_le _⟩) (fun H locs Y => ?_)
  refine lv_istore (lv' := [(4, .int v2), (0, .ref (g.2.1 0)), (1, .int x1), (2, .int x2), (3, .int x3)]) hx hb dX7_state_46 hl (by decide) rfl (fun ls hl => ?_)
  refine lv_iload hx hb dX7_state_48 (lv_at hl 0 rfl) ?_
  refine lv_if_eq (tgt := 61) hx hb dX7_state_50 (by decide) (fun c3 => ?_) (fun c3 => ?_)
  · have h := ite_t h c3
    refine lv_aload_n hx hb dX7_state_61 rfl (lv_at hl 1 rfl) ?_
    obtain ⟨st5, hc4, h⟩ := bnd1_s h
    refine k_cV Y (k_runV (As := []) (rest := []) (o := 0) X Y cl_7_165 (c_X7_findBest l hc4 _) ⟨rfl, rfl, Nat.le_of_ble_eq_true rfl, Nat.le_of_ble_eq_true rfl⟩ (Nat.le_of_ble_eq_true rfl) rfl rfl hl.1 rfl (Nat.le_of_ble_eq_true rfl) dX7_state_62 ⟨Nat.zero_le _, Nat.zero_le _⟩) (fun H locs Y => ?_)
    refine lv_aload_n hx hb dX7_state_65 rfl (lv_at hl 1 rfl) ?_
    refine k_get (v := .ref (g.2.1 8)) X Y fl_7_23 0 (Nat.le_of_ble_eq_true rfl) rfl rfl dX7_state_66 ?_
    refine k_get (v := .ref (g.2.1 9)) X Y fl_7_172 8 (Nat.le_of_ble_eq_true rfl) rfl rfl dX7_state_69 ?_
    refine lv_iload_n hx hb dX7_state_72 rfl (lv_at hl 2 rfl) ?_
    obtain ⟨i6, h⟩ := cix_s h
    refine k_aaldJ (b := 10) X Y 9 (Nat.le_of_ble_eq_true rfl) (fun _ _ => rfl) i6 dX7_state_73 ?_
    refine lv_iload_n hx hb dX7_state_74 rfl (lv_at hl 3 rfl) ?_
    obtain ⟨i7, h⟩ := cix_s h
    refine k_lald X Y (10 + (x1).toNatClampNeg) (row_lt i6 (Nat.le_of_ble_eq_true rfl)) (rowX_10 _ (vp_lt i6)) i7 dX7_state_75 ?_
    refine lv_aload_n hx hb dX7_state_76 rfl (lv_at hl 1 rfl) ?_
    refine k_get (v := .ref (g.2.1 1)) X Y fl_7_10 0 (Nat.le_of_ble_eq_true rfl) rfl rfl dX7_state_77 ?_
    refine lv_aload_n hx hb dX7_state_80 rfl (lv_at hl 1 rfl) ?_
    refine k_get (v := .ref (g.2.1 1)) X Y fl_7_10 0 (Nat.le_of_ble_eq_true rfl) rfl rfl dX7_state_81 ?_
    refine k_get (v := .int (st5.1 1 1)) X Y fl_7_88 1 (Nat.le_of_ble_eq_true rfl) rfl rfl dX7_state_84 ?_
    refine lv_iload_n hx hb dX7_state_87 rfl (lv_at hl 2 rfl) ?_
    refine lv_isub hx hb dX7_state_88 ?_
    obtain ⟨v9, hc8, h⟩ := bnd1_s h
    refine k_cJ Y (k_runV (As := [.int ((st5.1 1 1) - x1)]) (rest := [.long (st5.2 (10 + (x1).toNatClampNeg) x2.toNatClampNeg)]) (o := 1) X Y cl_7_150 (c_X3_scale l hc8 _) ⟨rfl, rfl, Nat.le_of_ble_eq_true rfl, Nat.le_of_ble_eq_true rfl⟩ (Nat.le_of_ble_eq_true rfl) rfl rfl hl.1 rfl (Nat.le_of_ble_eq_true rfl) dX7_state_89 ⟨Nat.zero_le _, Nat.zero_le _⟩) (fun H locs Y => ?_)
    refine lv_iload_n hx hb dX7_state_92 rfl (lv_at hl 4 rfl) ?_
    obtain ⟨v11, hc10, h⟩ := bnd1_s h
    refine k_cJ Y (k_runS (As := [.long (st5.2 (10 + (x1).toNatClampNeg) x2.toNatClampNeg), .long v9, .int x3]) (rest := []) X Y cl_7_154 (c_X7_partOf l hc10 _) ⟨rfl, rfl, Nat.le_of_ble_eq_true rfl, Nat.le_of_ble_eq_true rfl⟩ rfl hl.1 rfl (Nat.le_of_ble_eq_true rfl) dX7_state_93 ⟨Nat.zero_le _, Nat.zero_le _⟩) (fun H locs Y => ?_)
    exact k_lretW X Y h dX7_state_96
  · have h := ite_f h c3
    refine k_ldc2 X lg_7_140 dX7_state_53 ?_
    refine lv_iload hx hb dX7_state_56 (lv_at hl 0 rfl) ?_
    refine lv_i2l hx hb dX7_state_58 rfl ?_
    refine lv_ladd hx hb dX7_state_59 ?_
    exact k_lretW X Y h dX7_state_60
set_option maxHeartbeats 4000000 in
set_option maxRecDepth 100000 in
theorem w_X7_state_42 (X : Cx g p s m args meth c cX7_state 5 RX7 (some .long)) {x1 : Int32} {x2 : Int32} {x3 : Int32} {st : Sg} {r9 : Int64} {st9 : Sg}  (h : X7_state_42 x1 x2 x3 st = some (r9, st9)) (Y : Hp g nwX (ceX g) A s.heap st H locs)  (hl : lv_has ls 5 [(0, .ref (g.2.1 0)), (1, .int x1), (2, .int x2), (3, .int x3)]) : W p l e rm_X7_state s m args below meth c H locs 0 0 (MQ below (QJ g nwX (ceX g) A r9 st9) args s 0 0 A) (F0 m 42 ls [.ref (g.2.1 0)]) := by
  have hx := X.1
  have hb := X.2.1
  unfold X7_state_42 at h
  refine lv_iconst (v := 0) hx hb dX7_state_42 (by decide) ?_
  exact w_X7_state_43 X  h Y  (lv_sub hl [0, 1, 2, 3] rfl)
set_option maxHeartbeats 4000000 in
set_option maxRecDepth 100000 in
theorem w_X7_state (X : Cx g p s m args meth c cX7_state 5 RX7 (some .long)) {x1 : Int32} {x2 : Int32} {x3 : Int32} {st : Sg} {r9 : Int64} {st9 : Sg}  (h : X7_state x1 x2 x3 st = some (r9, st9)) (Y : Hp g nwX (ceX g) A s.heap st H locs)  (hl : lv_has ls 5 [(0, .ref (g.2.1 0)), (1, .int x1), (2, .int x2), (3, .int x3)]) : W p l e rm_X7_state s m args below meth c H locs 0 0 (MQ below (QJ g nwX (ceX g) A r9 st9) args s 0 0 A) (F0 m 0 ls []) := by
  have hx := X.1
  have hb := X.2.1
  unfold X7_state at h
  refine lv_aload_n hx hb dX7_state_0 rfl (lv_at hl 0 rfl) ?_
  refine lv_iload_n hx hb dX7_state_1 rfl (lv_at hl 1 rfl) ?_
  refine lv_iconst (v := 0) hx hb dX7_state_2 (by decide) ?_
  refine lv_aload_n hx hb dX7_state_3 rfl (lv_at hl 0 rfl) ?_
  refine k_get (v := .ref (g.2.1 1)) X Y fl_7_10 0 (Nat.le_of_ble_eq_true rfl) rfl rfl dX7_state_4 ?_
  refine k_get (v := .int (st.1 1 1)) X Y fl_7_88 1 (Nat.le_of_ble_eq_true rfl) rfl rfl dX7_state_7 ?_
  obtain ⟨v2, hc1, h⟩ := bnd1_s h
  refine k_cI Y (k_runS (As := [.int x1, .int 0, .int (st.1 1 1)]) (rest := [.ref (g.2.1 0)]) X Y cl_7_81 (c_X7_isWithin l hc1 _) ⟨rfl, rfl, Nat.le_of_ble_eq_true rfl, Nat.le_of_ble_eq_true rfl⟩ rfl hl.1 rfl (Nat.le_of_ble_eq_true rfl) dX7_state_10 ⟨Nat.zero_le _, Nat.zero_le _⟩) (fun H locs Y => ?_)
  refine lv_if_eq (tgt := 42) hx hb dX7_state_13 (by decide) (fun c3 => ?_) (fun c3 => ?_)
  · have h := ite_t h c3
    exact w_X7_state_42 X  h Y  (lv_sub hl [0, 1, 2, 3] rfl)
  · have h := ite_f h c3
    refine lv_iload_n hx hb dX7_state_16 rfl (lv_at hl 2 rfl) ?_
    refine lv_iconst (v := 0) hx hb dX7_state_17 (by decide) ?_
    refine lv_aload_n hx hb dX7_state_18 rfl (lv_at hl 0 rfl) ?_
    refine k_get (v := .ref (g.2.1 1)) X Y fl_7_10 0 (Nat.le_of_ble_eq_true rfl) rfl rfl dX7_state_19 ?_
    refine k_get (v := .int (st.1 1 0)) X Y fl_7_85 1 (Nat.le_of_ble_eq_true rfl) rfl rfl dX7_state_22 ?_
    obtain ⟨v5, hc4, h⟩ := bnd1_s h
    refine k_cI Y (k_runS (As := [.int x2, .int 0, .int (st.1 1 0)]) (rest := [.ref (g.2.1 0)]) X Y cl_7_81 (c_X7_isWithin l hc4 _) ⟨rfl, rfl, Nat.le_of_ble_eq_true rfl, Nat.le_of_ble_eq_true rfl⟩ rfl hl.1 rfl (Nat.le_of_ble_eq_true rfl) dX7_state_25 ⟨Nat.zero_le _, Nat.zero_le _⟩) (fun H locs Y => ?_)
    refine lv_if_eq (tgt := 42) hx hb dX7_state_28 (by decide) (fun c6 => ?_) (fun c6 => ?_)
    · have h := ite_t h c6
      exact w_X7_state_42 X  h Y  (lv_sub hl [0, 1, 2, 3] rfl)
    · have h := ite_f h c6
      refine lv_iload_n hx hb dX7_state_31 rfl (lv_at hl 3 rfl) ?_
      obtain ⟨v8, hc7, h⟩ := bnd1_s h
      refine k_cI Y (k_runS (As := [.int x3]) (rest := [.ref (g.2.1 0)]) X Y cl_7_133 (c_X7_isPart l hc7 _) ⟨rfl, rfl, Nat.le_of_ble_eq_true rfl, Nat.le_of_ble_eq_true rfl⟩ rfl hl.1 rfl (Nat.le_of_ble_eq_true rfl) dX7_state_32 ⟨Nat.zero_le _, Nat.zero_le _⟩) (fun H locs Y => ?_)
      refine lv_if_eq (tgt := 42) hx hb dX7_state_35 (by decide) (fun c9 => ?_) (fun c9 => ?_)
      · have h := ite_t h c9
        exact w_X7_state_42 X  h Y  (lv_sub hl [0, 1, 2, 3] rfl)
      · have h := ite_f h c9
        refine lv_iconst (v := 1) hx hb dX7_state_38 (by decide) ?_
        refine lv_goto (tgt := 43) hx hb dX7_state_39 (by decide) ?_
        exact w_X7_state_43 X  h Y  (lv_sub hl [0, 1, 2, 3] rfl)
theorem c_X7_state (l : Launch) {g : Gx} {x1 : Int32} {x2 : Int32} {x3 : Int32} {st : Sg} {r9 : Int64} {st9 : Sg} (h : X7_state x1 x2 x3 st = some (r9, st9)) : MetJ l yX7_state cX7_state 5 (some .long) rm_X7_state g nwX (ceX g) [.ref (g.2.1 0), .int x1, .int x2, .int x3] st r9 st9 :=
  met_of (Qc := fun A => QJ g nwX (ceX g) A r9 st9) (by decide) (Nat.le_of_ble_eq_true rfl) (fun p e s m below meth c A ls X Y hl => w_X7_state X h Y hl)
def X7_told_63   (k0 : Int32) (st : Sg) : Option Int32 :=
  some k0
def X7_told_105   (k0 : Int32) (st : Sg) : Option Int32 :=
  some k0
def X7_told   (x1 : Int32) (st : Sg) : Option Int32 :=
  bnd1 (X7_isWithin x1 10 15) fun v2 =>
  if v2 = (0 : Int32) then
    bnd1 (X7_isWithin x1 20 24) fun v5 =>
    if v5 = (0 : Int32) then
      bnd1 (X7_isWithin x1 30 32) fun v8 =>
      if v8 = (0 : Int32) then
        if x1 = (0 : Int32) then
          some (st.1 1 0)
        else
          if x1 = (1 : Int32) then
            some (st.1 1 1)
          else
            if x1 = (2 : Int32) then
              some (st.1 1 2)
            else
              if x1 = (3 : Int32) then
                some (st.1 1 4)
              else
                if x1 = (4 : Int32) then
                  some (st.1 1 9)
                else
                  if x1 = (5 : Int32) then
                    some (st.1 67 1)
                  else
                    some (-2)
      else
        bnd1 (X3_isSort (x1 - 30) st) fun v17 =>
        if v17 = (0 : Int32) then
          X7_told_105 (-6) st
        else
          bnd1 (X3_waitTold (x1 - 30) st) fun v20 =>
          X7_told_105 v20 st
    else
      bnd1 (X3_isPrice (x1 - 20) st) fun v22 =>
      if v22 = (0 : Int32) then
        X7_told_63 (-6) st
      else
        cix (x1 - 20) 5 <|
        X7_told_63 (st.1 2 (x1 - 20).toNatClampNeg) st
  else
    cix (x1 - 10) 6 <|
    some (st.1 7 (x1 - 10).toNatClampNeg)
abbrev rm_X7_told : Room := { frames := 2, cells := 0, slots := 0, locals := 42 }
set_option maxHeartbeats 4000000 in
set_option maxRecDepth 100000 in
theorem w_X7_told_63 (X : Cx g p s m args meth c cX7_told 2 RX7 (some .int)) {k0 : Int32} {st : Sg} {r9 : Int32}  (h : X7_told_63 k0 st = some r9) (Y : Hp g nwX (ceX g) A s.heap st H locs)  (hl : lv_has ls 2 []) : W p l e rm_X7_told s m args below meth c H locs 0 0 (MQ below (QI g nwX (ceX g) A r9 st) args s 0 0 A) (F0 m 63 ls [.int k0]) := by
  have hx := X.1
  have hb := X.2.1
  unfold X7_told_63 at h
  exact k_iretR X Y h dX7_told_63
set_option maxHeartbeats 4000000 in
set_option maxRecDepth 100000 in
theorem w_X7_told_105 (X : Cx g p s m args meth c cX7_told 2 RX7 (some .int)) {k0 : Int32} {st : Sg} {r9 : Int32}  (h : X7_told_105 k0 st = some r9) (Y : Hp g nwX (ceX g) A s.heap st H locs)  (hl : lv_has ls 2 []) : W p l e rm_X7_told s m args below meth c H locs 0 0 (MQ below (QI g nwX (ceX g) A r9 st) args s 0 0 A) (F0 m 105 ls [.int k0]) := by
  have hx := X.1
  have hb := X.2.1
  unfold X7_told_105 at h
  exact k_iretR X Y h dX7_told_105
set_option maxHeartbeats 4000000 in
set_option maxRecDepth 100000 in
theorem w_X7_told (X : Cx g p s m args meth c cX7_told 2 RX7 (some .int)) {x1 : Int32} {st : Sg} {r9 : Int32}  (h : X7_told x1 st = some r9) (Y : Hp g nwX (ceX g) A s.heap st H locs)  (hl : lv_has ls 2 [(0, .ref (g.2.1 0)), (1, .int x1)]) : W p l e rm_X7_told s m args below meth c H locs 0 0 (MQ below (QI g nwX (ceX g) A r9 st) args s 0 0 A) (F0 m 0 ls []) := by
  have hx := X.1
  have hb := X.2.1
  unfold X7_told at h
  refine lv_iload_n hx hb dX7_told_0 rfl (lv_at hl 1 rfl) ?_
  refine lv_bipush (v := 10) hx hb dX7_told_1 (by decide) ?_
  refine lv_bipush (v := 15) hx hb dX7_told_3 (by decide) ?_
  obtain ⟨v2, hc1, h⟩ := bnd1_s h
  refine k_cI Y (k_runS (As := [.int x1, .int 10, .int 15]) (rest := []) X Y cl_7_81 (c_X7_isWithin l hc1 _) ⟨rfl, rfl, Nat.le_of_ble_eq_true rfl, Nat.le_of_ble_eq_true rfl⟩ rfl hl.1 rfl (Nat.le_of_ble_eq_true rfl) dX7_told_5 ⟨Nat.zero_le _, Nat.zero_le _⟩) (fun H locs Y => ?_)
  refine lv_if_eq (tgt := 21) hx hb dX7_told_8 (by decide) (fun c3 => ?_) (fun c3 => ?_)
  · have h := ite_t h c3
    refine lv_iload_n hx hb dX7_told_21 rfl (lv_at hl 1 rfl) ?_
    refine lv_bipush (v := 20) hx hb dX7_told_22 (by decide) ?_
    refine lv_bipush (v := 24) hx hb dX7_told_24 (by decide) ?_
    obtain ⟨v5, hc4, h⟩ := bnd1_s h
    refine k_cI Y (k_runS (As := [.int x1, .int 20, .int 24]) (rest := []) X Y cl_7_81 (c_X7_isWithin l hc4 _) ⟨rfl, rfl, Nat.le_of_ble_eq_true rfl, Nat.le_of_ble_eq_true rfl⟩ rfl hl.1 rfl (Nat.le_of_ble_eq_true rfl) dX7_told_26 ⟨Nat.zero_le _, Nat.zero_le _⟩) (fun H locs Y => ?_)
    refine lv_if_eq (tgt := 64) hx hb dX7_told_29 (by decide) (fun c6 => ?_) (fun c6 => ?_)
    · have h := ite_t h c6
      refine lv_iload_n hx hb dX7_told_64 rfl (lv_at hl 1 rfl) ?_
      refine lv_bipush (v := 30) hx hb dX7_told_65 (by decide) ?_
      refine lv_bipush (v := 32) hx hb dX7_told_67 (by decide) ?_
      obtain ⟨v8, hc7, h⟩ := bnd1_s h
      refine k_cI Y (k_runS (As := [.int x1, .int 30, .int 32]) (rest := []) X Y cl_7_81 (c_X7_isWithin l hc7 _) ⟨rfl, rfl, Nat.le_of_ble_eq_true rfl, Nat.le_of_ble_eq_true rfl⟩ rfl hl.1 rfl (Nat.le_of_ble_eq_true rfl) dX7_told_69 ⟨Nat.zero_le _, Nat.zero_le _⟩) (fun H locs Y => ?_)
      refine lv_if_eq (tgt := 106) hx hb dX7_told_72 (by decide) (fun c9 => ?_) (fun c9 => ?_)
      · have h := ite_t h c9
        refine lv_iload_n hx hb dX7_told_106 rfl (lv_at hl 1 rfl) ?_
        by_cases c10 : x1 = (0 : Int32)
        · have h := ite_t h c10
          refine lv_tableIn (tgt := 144) hx hb dX7_told_107 (by rw [c10]; decide) (by rw [c10]; decide) (by rw [c10]; rfl) (by decide) ?_
          refine lv_aload_n hx hb dX7_told_144 rfl (lv_at hl 0 rfl) ?_
          refine k_get (v := .ref (g.2.1 1)) X Y fl_7_10 0 (Nat.le_of_ble_eq_true rfl) rfl rfl dX7_told_145 ?_
          refine k_get (v := .int (st.1 1 0)) X Y fl_7_85 1 (Nat.le_of_ble_eq_true rfl) rfl rfl dX7_told_148 ?_
          exact k_iretR X Y h dX7_told_151
        · have h := ite_f h c10
          by_cases c11 : x1 = (1 : Int32)
          · have h := ite_t h c11
            refine lv_tableIn (tgt := 152) hx hb dX7_told_107 (by rw [c11]; decide) (by rw [c11]; decide) (by rw [c11]; rfl) (by decide) ?_
            refine lv_aload_n hx hb dX7_told_152 rfl (lv_at hl 0 rfl) ?_
            refine k_get (v := .ref (g.2.1 1)) X Y fl_7_10 0 (Nat.le_of_ble_eq_true rfl) rfl rfl dX7_told_153 ?_
            refine k_get (v := .int (st.1 1 1)) X Y fl_7_88 1 (Nat.le_of_ble_eq_true rfl) rfl rfl dX7_told_156 ?_
            exact k_iretR X Y h dX7_told_159
          · have h := ite_f h c11
            by_cases c12 : x1 = (2 : Int32)
            · have h := ite_t h c12
              refine lv_tableIn (tgt := 160) hx hb dX7_told_107 (by rw [c12]; decide) (by rw [c12]; decide) (by rw [c12]; rfl) (by decide) ?_
              refine lv_aload_n hx hb dX7_told_160 rfl (lv_at hl 0 rfl) ?_
              refine k_get (v := .ref (g.2.1 1)) X Y fl_7_10 0 (Nat.le_of_ble_eq_true rfl) rfl rfl dX7_told_161 ?_
              refine k_get (v := .int (st.1 1 2)) X Y fl_7_91 1 (Nat.le_of_ble_eq_true rfl) rfl rfl dX7_told_164 ?_
              exact k_iretR X Y h dX7_told_167
            · have h := ite_f h c12
              by_cases c13 : x1 = (3 : Int32)
              · have h := ite_t h c13
                refine lv_tableIn (tgt := 168) hx hb dX7_told_107 (by rw [c13]; decide) (by rw [c13]; decide) (by rw [c13]; rfl) (by decide) ?_
                refine lv_aload_n hx hb dX7_told_168 rfl (lv_at hl 0 rfl) ?_
                refine k_get (v := .ref (g.2.1 1)) X Y fl_7_10 0 (Nat.le_of_ble_eq_true rfl) rfl rfl dX7_told_169 ?_
                refine k_get (v := .int (st.1 1 4)) X Y fl_7_97 1 (Nat.le_of_ble_eq_true rfl) rfl rfl dX7_told_172 ?_
                exact k_iretR X Y h dX7_told_175
              · have h := ite_f h c13
                by_cases c14 : x1 = (4 : Int32)
                · have h := ite_t h c14
                  refine lv_tableIn (tgt := 176) hx hb dX7_told_107 (by rw [c14]; decide) (by rw [c14]; decide) (by rw [c14]; rfl) (by decide) ?_
                  refine lv_aload_n hx hb dX7_told_176 rfl (lv_at hl 0 rfl) ?_
                  refine k_get (v := .ref (g.2.1 1)) X Y fl_7_10 0 (Nat.le_of_ble_eq_true rfl) rfl rfl dX7_told_177 ?_
                  refine k_get (v := .int (st.1 1 9)) X Y fl_7_103 1 (Nat.le_of_ble_eq_true rfl) rfl rfl dX7_told_180 ?_
                  exact k_iretR X Y h dX7_told_183
                · have h := ite_f h c14
                  by_cases c15 : x1 = (5 : Int32)
                  · have h := ite_t h c15
                    refine lv_tableIn (tgt := 184) hx hb dX7_told_107 (by rw [c15]; decide) (by rw [c15]; decide) (by rw [c15]; rfl) (by decide) ?_
                    refine lv_aload_n hx hb dX7_told_184 rfl (lv_at hl 0 rfl) ?_
                    refine k_get (v := .ref (g.2.1 67)) X Y fl_7_60 0 (Nat.le_of_ble_eq_true rfl) rfl rfl dX7_told_185 ?_
                    refine k_get (v := .int (st.1 67 1)) X Y fl_7_203 67 (Nat.le_of_ble_eq_true rfl) rfl rfl dX7_told_188 ?_
                    exact k_iretR X Y h dX7_told_191
                  · have h := ite_f h c15
                    refine lv_tableOut (tgt := 192) hx hb dX7_told_107 (by have q0 := lv_neT c10 (a := 0) (by decide); have q1 := lv_neT c11 (a := 1) (by decide); have q2 := lv_neT c12 (a := 2) (by decide); have q3 := lv_neT c13 (a := 3) (by decide); have q4 := lv_neT c14 (a := 4) (by decide); have q5 := lv_neT c15 (a := 5) (by decide); omega) (by decide) ?_
                    refine lv_bipush (v := (-2)) hx hb dX7_told_192 (by decide) ?_
                    exact k_iretR X Y h dX7_told_194
      · have h := ite_f h c9
        refine lv_aload_n hx hb dX7_told_75 rfl (lv_at hl 0 rfl) ?_
        refine k_get (v := .ref (g.2.1 1)) X Y fl_7_10 0 (Nat.le_of_ble_eq_true rfl) rfl rfl dX7_told_76 ?_
        refine lv_iload_n hx hb dX7_told_79 rfl (lv_at hl 1 rfl) ?_
        refine lv_bipush (v := 30) hx hb dX7_told_80 (by decide) ?_
        refine lv_isub hx hb dX7_told_82 ?_
        obtain ⟨v17, hc16, h⟩ := bnd1_s h
        refine k_cI Y (k_runV (As := [.int (x1 - 30)]) (rest := []) (o := 1) X Y cl_7_118 (c_X3_isSort l hc16 _) ⟨rfl, rfl, Nat.le_of_ble_eq_true rfl, Nat.le_of_ble_eq_true rfl⟩ (Nat.le_of_ble_eq_true rfl) rfl rfl hl.1 rfl (Nat.le_of_ble_eq_true rfl) dX7_told_83 ⟨Nat.zero_le _, Nat.zero_le _⟩) (fun H locs Y => ?_)
        refine lv_if_eq (tgt := 103) hx hb dX7_told_86 (by decide) (fun c18 => ?_) (fun c18 => ?_)
        · have h := ite_t h c18
          refine lv_bipush (v := (-6)) hx hb dX7_told_103 (by decide) ?_
          exact w_X7_told_105 X  h Y  (lv_sub hl [] rfl)
        · have h := ite_f h c18
          refine lv_aload_n hx hb dX7_told_89 rfl (lv_at hl 0 rfl) ?_
          refine k_get (v := .ref (g.2.1 1)) X Y fl_7_10 0 (Nat.le_of_ble_eq_true rfl) rfl rfl dX7_told_90 ?_
          refine lv_iload_n hx hb dX7_told_93 rfl (lv_at hl 1 rfl) ?_
          refine lv_bipush (v := 30) hx hb dX7_told_94 (by decide) ?_
          refine lv_isub hx hb dX7_told_96 ?_
          obtain ⟨v20, hc19, h⟩ := bnd1_s h
          refine k_cI Y (k_runV (As := [.int (x1 - 30)]) (rest := []) (o := 1) X Y cl_7_122 (c_X3_waitTold l hc19 _) ⟨rfl, rfl, Nat.le_of_ble_eq_true rfl, Nat.le_of_ble_eq_true rfl⟩ (Nat.le_of_ble_eq_true rfl) rfl rfl hl.1 rfl (Nat.le_of_ble_eq_true rfl) dX7_told_97 ⟨Nat.zero_le _, Nat.zero_le _⟩) (fun H locs Y => ?_)
          refine lv_goto (tgt := 105) hx hb dX7_told_100 (by decide) ?_
          exact w_X7_told_105 X  h Y  (lv_sub hl [] rfl)
    · have h := ite_f h c6
      refine lv_aload_n hx hb dX7_told_32 rfl (lv_at hl 0 rfl) ?_
      refine k_get (v := .ref (g.2.1 1)) X Y fl_7_10 0 (Nat.le_of_ble_eq_true rfl) rfl rfl dX7_told_33 ?_
      refine lv_iload_n hx hb dX7_told_36 rfl (lv_at hl 1 rfl) ?_
      refine lv_bipush (v := 20) hx hb dX7_told_37 (by decide) ?_
      refine lv_isub hx hb dX7_told_39 ?_
      obtain ⟨v22, hc21, h⟩ := bnd1_s h
      refine k_cI Y (k_runV (As := [.int (x1 - 20)]) (rest := []) (o := 1) X Y cl_7_130 (c_X3_isPrice l hc21 _) ⟨rfl, rfl, Nat.le_of_ble_eq_true rfl, Nat.le_of_ble_eq_true rfl⟩ (Nat.le_of_ble_eq_true rfl) rfl rfl hl.1 rfl (Nat.le_of_ble_eq_true rfl) dX7_told_40 ⟨Nat.zero_le _, Nat.zero_le _⟩) (fun H locs Y => ?_)
      refine lv_if_eq (tgt := 61) hx hb dX7_told_43 (by decide) (fun c23 => ?_) (fun c23 => ?_)
      · have h := ite_t h c23
        refine lv_bipush (v := (-6)) hx hb dX7_told_61 (by decide) ?_
        exact w_X7_told_63 X  h Y  (lv_sub hl [] rfl)
      · have h := ite_f h c23
        refine lv_aload_n hx hb dX7_told_46 rfl (lv_at hl 0 rfl) ?_
        refine k_get (v := .ref (g.2.1 1)) X Y fl_7_10 0 (Nat.le_of_ble_eq_true rfl) rfl rfl dX7_told_47 ?_
        refine k_get (v := .ref (g.2.1 2)) X Y fl_7_100 1 (Nat.le_of_ble_eq_true rfl) rfl rfl dX7_told_50 ?_
        refine lv_iload_n hx hb dX7_told_53 rfl (lv_at hl 1 rfl) ?_
        refine lv_bipush (v := 20) hx hb dX7_told_54 (by decide) ?_
        refine lv_isub hx hb dX7_told_56 ?_
        obtain ⟨i24, h⟩ := cix_s h
        refine k_iald X Y 2 (Nat.le_of_ble_eq_true rfl) (fun _ _ => rfl) i24 dX7_told_57 ?_
        refine lv_goto (tgt := 63) hx hb dX7_told_58 (by decide) ?_
        exact w_X7_told_63 X  h Y  (lv_sub hl [] rfl)
  · have h := ite_f h c3
    refine lv_aload_n hx hb dX7_told_11 rfl (lv_at hl 0 rfl) ?_
    refine k_get (v := .ref (g.2.1 7)) X Y fl_7_16 0 (Nat.le_of_ble_eq_true rfl) rfl rfl dX7_told_12 ?_
    refine lv_iload_n hx hb dX7_told_15 rfl (lv_at hl 1 rfl) ?_
    refine lv_bipush (v := 10) hx hb dX7_told_16 (by decide) ?_
    refine lv_isub hx hb dX7_told_18 ?_
    obtain ⟨i25, h⟩ := cix_s h
    refine k_iald X Y 7 (Nat.le_of_ble_eq_true rfl) (fun _ _ => rfl) i25 dX7_told_19 ?_
    exact k_iretR X Y h dX7_told_20
theorem c_X7_told (l : Launch) {g : Gx} {x1 : Int32} {st : Sg} {r9 : Int32} (h : X7_told x1 st = some r9) : MetI l yX7_told cX7_told 2 (some .int) rm_X7_told g nwX (ceX g) [.ref (g.2.1 0), .int x1] st r9 st :=
  met_of (Qc := fun A => QI g nwX (ceX g) A r9 st) (by decide) (Nat.le_of_ble_eq_true rfl) (fun p e s m below meth c A ls X Y hl => w_X7_told X h Y hl)
end LIFT
