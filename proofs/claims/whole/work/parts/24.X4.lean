/-! lifted by program: SaturdaySale$Walk.goWaiting, SaturdaySale.findMet, SaturdaySale.promiseMean, SaturdaySale.keeps, SaturdaySale.promised, SaturdaySale.kept, SaturdaySale.left, SaturdaySale.made, SaturdaySale.picks, SaturdaySale$Sale.isPrice, SaturdaySale.plan, SaturdaySale.price -/
section LIFT
variable {p : Program} {l : Launch} {e : Env} {s : State} {m : MethodId} {args : Array Value} {below : List Frame} {meth : Method} {c : Code} {g : Gx} {A : Nat → Prop} {H : Heap} {locs : List Loc} {ls : Array Slot}
def X6_goWaiting_52 (q : Nat) (rc13 : Int32 → Sg → Option Sg) (x3 : Int32) (st : Sg) : Option Sg :=
  nm (x3 + 1) fun v1 =>
  rc13 v1 st
def X6_goWaiting_29b (q : Nat) (rc13 : Int32 → Sg → Option Sg) (rc29 : Int32 → Sg → Option Sg) (x3 : Int32) (x4 : Int32) (st : Sg) : Option Sg :=
  if x3 < x4 then
    X6_goWaiting_52 q rc13 x3 st
  else
    cix x3 6 <|
    bnd1 (X6_passThoseOf x4 x3 (st.1 q x3.toNatClampNeg) st) fun st4 =>
    nm (x4 + 1) fun v5 =>
    rc29 v5 st4
def X6_goWaiting_29 (q : Nat) (rc13 : Int32 → Sg → Option Sg) (x3 : Int32) : Nat → Int32 → Sg → Option Sg
  | 0, _, _ => none
  | k + 1, x4, st => X6_goWaiting_29b q rc13 (X6_goWaiting_29 q rc13 x3 k) x3 x4 st
def X6_goWaiting_58 (q : Nat)   (st : Sg) : Option Sg :=
  some st
def X6_goWaiting_13b (q : Nat) (rc13 : Int32 → Sg → Option Sg) (x3 : Int32) (st : Sg) : Option Sg :=
  if (st.1 1 1) ≤ x3 then
    X6_goWaiting_58 q st
  else
    bnd1 (X6_openDay x3 st) fun st3 =>
    X6_goWaiting_29 q rc13 x3 FU 0 st3
def X6_goWaiting_13 (q : Nat)   : Nat → Int32 → Sg → Option Sg
  | 0, _, _ => none
  | k + 1, x3, st => X6_goWaiting_13b q  (X6_goWaiting_13 q k) x3 st
def X6_goWaiting (q : Nat)   (st : Sg) : Option Sg :=
  bnd1 (X6_begin st) fun st2 =>
  bnd1 (X6_pickAll q st2) fun st4 =>
  X6_goWaiting_13 q FU 0 st4
abbrev rm_X6_goWaiting : Room := { frames := 3, cells := 0, slots := 0, locals := 74 }
set_option maxHeartbeats 4000000 in
set_option maxRecDepth 100000 in
theorem w_X6_goWaiting_52_7 (X : Cx g p s m args meth c cX6_goWaiting 5 RX6 none) {x3 : Int32} {st : Sg} {st9 : Sg} (rc13 : Int32 → Sg → Option Sg) (hrc13 : ∀ (x3 : Int32) (st : Sg) (ls : Array Slot) (H : Heap) (locs : List Loc), rc13 x3 st = some st9 → Hp g nwX (ceX g) A s.heap st H locs → lv_has ls 5 [(0, .ref (g.2.1 42)), (1, .ref (g.2.1 1)), (2, .ref (g.2.1 7)), (3, .int x3)] → W p l e rm_X6_goWaiting s m args below meth c H locs 0 0 (MQ below (QV g nwX (ceX g) A st9) args s 0 0 A) (F0 m 13 ls [])) (h : X6_goWaiting_52 7 rc13 x3 st = some st9) (Y : Hp g nwX (ceX g) A s.heap st H locs)  (hl : lv_has ls 5 [(0, .ref (g.2.1 42)), (1, .ref (g.2.1 1)), (2, .ref (g.2.1 7)), (3, .int x3)]) : W p l e rm_X6_goWaiting s m args below meth c H locs 0 0 (MQ below (QV g nwX (ceX g) A st9) args s 0 0 A) (F0 m 52 ls []) := by
  have hx := X.1
  have hb := X.2.1
  unfold X6_goWaiting_52 at h
  obtain ⟨v1, ev1, h⟩ := nm_s h
  refine lv_iinc (v := v1) (lv' := [(3, .int v1), (0, .ref (g.2.1 42)), (1, .ref (g.2.1 1)), (2, .ref (g.2.1 7))]) hx hb dX6_goWaiting_52 hl (k := 3) rfl (by rw [ev1]; rfl) (by decide) rfl (fun ls hl => ?_)
  refine lv_goto (tgt := 13) hx hb dX6_goWaiting_55 (by decide) ?_
  exact hrc13 v1 st _ _ _ h Y (lv_sub hl [1, 2, 3, 0] rfl)
set_option maxHeartbeats 4000000 in
set_option maxRecDepth 100000 in
theorem w_X6_goWaiting_29b_7 (X : Cx g p s m args meth c cX6_goWaiting 5 RX6 none) {x3 : Int32} {x4 : Int32} {st : Sg} {st9 : Sg} (rc13 : Int32 → Sg → Option Sg) (hrc13 : ∀ (x3 : Int32) (st : Sg) (ls : Array Slot) (H : Heap) (locs : List Loc), rc13 x3 st = some st9 → Hp g nwX (ceX g) A s.heap st H locs → lv_has ls 5 [(0, .ref (g.2.1 42)), (1, .ref (g.2.1 1)), (2, .ref (g.2.1 7)), (3, .int x3)] → W p l e rm_X6_goWaiting s m args below meth c H locs 0 0 (MQ below (QV g nwX (ceX g) A st9) args s 0 0 A) (F0 m 13 ls [])) (rc29 : Int32 → Sg → Option Sg) (hrc29 : ∀ (x4 : Int32) (st : Sg) (ls : Array Slot) (H : Heap) (locs : List Loc), rc29 x4 st = some st9 → Hp g nwX (ceX g) A s.heap st H locs → lv_has ls 5 [(0, .ref (g.2.1 42)), (1, .ref (g.2.1 1)), (2, .ref (g.2.1 7)), (3, .int x3), (4, .int x4)] → W p l e rm_X6_goWaiting s m args below meth c H locs 0 0 (MQ below (QV g nwX (ceX g) A st9) args s 0 0 A) (F0 m 29 ls [])) (h : X6_goWaiting_29b 7 rc13 rc29 x3 x4 st = some st9) (Y : Hp g nwX (ceX g) A s.heap st H locs)  (hl : lv_has ls 5 [(0, .ref (g.2.1 42)), (1, .ref (g.2.1 1)), (2, .ref (g.2.1 7)), (3, .int x3), (4, .int x4)]) : W p l e rm_X6_goWaiting s m args below meth c H locs 0 0 (MQ below (QV g nwX (ceX g) A st9) args s 0 0 A) (F0 m 29 ls []) := by
  have hx := X.1
  have hb := X.2.1
  unfold X6_goWaiting_29b at h
  refine lv_iload hx hb dX6_goWaiting_29 (lv_at hl 4 rfl) ?_
  refine lv_iload_n hx hb dX6_goWaiting_31 rfl (lv_at hl 3 rfl) ?_
  refine lv_icmp_gt (tgt := 52) hx hb dX6_goWaiting_32 (by decide) (fun c1 => ?_) (fun c1 => ?_)
  · have h := ite_t h c1
    exact w_X6_goWaiting_52_7 X rc13 hrc13 h Y  (lv_sub hl [0, 1, 2, 3] rfl)
  · have h := ite_f h c1
    refine lv_aload_n hx hb dX6_goWaiting_35 rfl (lv_at hl 0 rfl) ?_
    refine lv_iload hx hb dX6_goWaiting_36 (lv_at hl 4 rfl) ?_
    refine lv_aload_n hx hb dX6_goWaiting_38 rfl (lv_at hl 1 rfl) ?_
    refine lv_iload_n hx hb dX6_goWaiting_39 rfl (lv_at hl 3 rfl) ?_
    refine lv_aload_n hx hb dX6_goWaiting_40 rfl (lv_at hl 2 rfl) ?_
    refine lv_iload_n hx hb dX6_goWaiting_41 rfl (lv_at hl 3 rfl) ?_
    obtain ⟨i2, h⟩ := cix_s h
    refine k_iald X Y 7 (Nat.le_of_ble_eq_true rfl) (fun _ _ => rfl) i2 dX6_goWaiting_42 ?_
    obtain ⟨st4, hc3, h⟩ := bnd1_s h
    refine k_cV Y (k_runV (As := [.int x4, .ref (g.2.1 1), .int x3, .int (st.1 7 x3.toNatClampNeg)]) (rest := []) (o := 42) X Y cl_6_58 (c_X6_passThoseOf l hc3 _) ⟨rfl, rfl, Nat.le_of_ble_eq_true rfl, Nat.le_of_ble_eq_true rfl⟩ (Nat.le_of_ble_eq_true rfl) rfl rfl hl.1 rfl (Nat.le_of_ble_eq_true rfl) dX6_goWaiting_43 ⟨Nat.zero_le _, Nat.zero_le _⟩) (fun H locs Y => ?_)
    obtain ⟨v5, ev5, h⟩ := nm_s h
    refine lv_iinc (v := v5) (lv' := [(4, .int v5), (0, .ref (g.2.1 42)), (1, .ref (g.2.1 1)), (2, .ref (g.2.1 7)), (3, .int x3)]) hx hb dX6_goWaiting_46 hl (k := 4) rfl (by rw [ev5]; rfl) (by decide) rfl (fun ls hl => ?_)
    refine lv_goto (tgt := 29) hx hb dX6_goWaiting_49 (by decide) ?_
    exact hrc29 v5 st4 _ _ _ h Y (lv_sub hl [1, 2, 3, 4, 0] rfl)
theorem w_X6_goWaiting_29_7 (X : Cx g p s m args meth c cX6_goWaiting 5 RX6 none) {x3 : Int32}  {st9 : Sg} (rc13 : Int32 → Sg → Option Sg) (hrc13 : ∀ (x3 : Int32) (st : Sg) (ls : Array Slot) (H : Heap) (locs : List Loc), rc13 x3 st = some st9 → Hp g nwX (ceX g) A s.heap st H locs → lv_has ls 5 [(0, .ref (g.2.1 42)), (1, .ref (g.2.1 1)), (2, .ref (g.2.1 7)), (3, .int x3)] → W p l e rm_X6_goWaiting s m args below meth c H locs 0 0 (MQ below (QV g nwX (ceX g) A st9) args s 0 0 A) (F0 m 13 ls []))  : ∀ (k : Nat) (x4 : Int32) (st : Sg) (ls : Array Slot) (H : Heap) (locs : List Loc), X6_goWaiting_29 7 rc13 x3 k x4 st = some st9 → Hp g nwX (ceX g) A s.heap st H locs → lv_has ls 5 [(0, .ref (g.2.1 42)), (1, .ref (g.2.1 1)), (2, .ref (g.2.1 7)), (3, .int x3), (4, .int x4)] → W p l e rm_X6_goWaiting s m args below meth c H locs 0 0 (MQ below (QV g nwX (ceX g) A st9) args s 0 0 A) (F0 m 29 ls []) := by
  intro k
  induction k with
  | zero =>
    intro x4 st ls H locs h
    exact none_s h
  | succ k ih =>
    intro x4 st ls H locs h Y hl
    exact w_X6_goWaiting_29b_7 X rc13 hrc13 (X6_goWaiting_29 7 rc13 x3 k) ih h Y  hl
set_option maxHeartbeats 4000000 in
set_option maxRecDepth 100000 in
theorem w_X6_goWaiting_58_7 (X : Cx g p s m args meth c cX6_goWaiting 5 RX6 none)  {st : Sg} {st9 : Sg}  (h : X6_goWaiting_58 7 st = some st9) (Y : Hp g nwX (ceX g) A s.heap st H locs)  (hl : lv_has ls 5 []) : W p l e rm_X6_goWaiting s m args below meth c H locs 0 0 (MQ below (QV g nwX (ceX g) A st9) args s 0 0 A) (F0 m 58 ls []) := by
  have hx := X.1
  have hb := X.2.1
  unfold X6_goWaiting_58 at h
  exact k_vretW X Y h dX6_goWaiting_58
set_option maxHeartbeats 4000000 in
set_option maxRecDepth 100000 in
theorem w_X6_goWaiting_13b_7 (X : Cx g p s m args meth c cX6_goWaiting 5 RX6 none) {x3 : Int32} {st : Sg} {st9 : Sg} (rc13 : Int32 → Sg → Option Sg) (hrc13 : ∀ (x3 : Int32) (st : Sg) (ls : Array Slot) (H : Heap) (locs : List Loc), rc13 x3 st = some st9 → Hp g nwX (ceX g) A s.heap st H locs → lv_has ls 5 [(0, .ref (g.2.1 42)), (1, .ref (g.2.1 1)), (2, .ref (g.2.1 7)), (3, .int x3)] → W p l e rm_X6_goWaiting s m args below meth c H locs 0 0 (MQ below (QV g nwX (ceX g) A st9) args s 0 0 A) (F0 m 13 ls [])) (h : X6_goWaiting_13b 7 rc13 x3 st = some st9) (Y : Hp g nwX (ceX g) A s.heap st H locs)  (hl : lv_has ls 5 [(0, .ref (g.2.1 42)), (1, .ref (g.2.1 1)), (2, .ref (g.2.1 7)), (3, .int x3)]) : W p l e rm_X6_goWaiting s m args below meth c H locs 0 0 (MQ below (QV g nwX (ceX g) A st9) args s 0 0 A) (F0 m 13 ls []) := by
  have hx := X.1
  have hb := X.2.1
  unfold X6_goWaiting_13b at h
  refine lv_iload_n hx hb dX6_goWaiting_13 rfl (lv_at hl 3 rfl) ?_
  refine lv_aload_n hx hb dX6_goWaiting_14 rfl (lv_at hl 1 rfl) ?_
  refine k_get (v := .int (st.1 1 1)) X Y fl_6_29 1 (Nat.le_of_ble_eq_true rfl) rfl rfl dX6_goWaiting_15 ?_
  refine lv_icmp_ge (tgt := 58) hx hb dX6_goWaiting_18 (by decide) (fun c1 => ?_) (fun c1 => ?_)
  · have h := ite_t h c1
    exact w_X6_goWaiting_58_7 X  h Y  (lv_sub hl [] rfl)
  · have h := ite_f h c1
    refine lv_aload_n hx hb dX6_goWaiting_21 rfl (lv_at hl 0 rfl) ?_
    refine lv_iload_n hx hb dX6_goWaiting_22 rfl (lv_at hl 3 rfl) ?_
    obtain ⟨st3, hc2, h⟩ := bnd1_s h
    refine k_cV Y (k_runV (As := [.int x3]) (rest := []) (o := 42) X Y cl_6_35 (c_X6_openDay l hc2 _) ⟨rfl, rfl, Nat.le_of_ble_eq_true rfl, Nat.le_of_ble_eq_true rfl⟩ (Nat.le_of_ble_eq_true rfl) rfl rfl hl.1 rfl (Nat.le_of_ble_eq_true rfl) dX6_goWaiting_23 ⟨Nat.zero_le _, Nat.zero_le _⟩) (fun H locs Y => ?_)
    refine lv_iconst (v := 0) hx hb dX6_goWaiting_26 (by decide) ?_
    refine lv_istore (lv' := [(4, .int 0), (0, .ref (g.2.1 42)), (1, .ref (g.2.1 1)), (2, .ref (g.2.1 7)), (3, .int x3)]) hx hb dX6_goWaiting_27 hl (by decide) rfl (fun ls hl => ?_)
    exact w_X6_goWaiting_29_7 X rc13 hrc13  FU 0 st3 _ _ _ h Y (lv_sub hl [1, 2, 3, 4, 0] rfl)
theorem w_X6_goWaiting_13_7 (X : Cx g p s m args meth c cX6_goWaiting 5 RX6 none)   {st9 : Sg}   : ∀ (k : Nat) (x3 : Int32) (st : Sg) (ls : Array Slot) (H : Heap) (locs : List Loc), X6_goWaiting_13 7 k x3 st = some st9 → Hp g nwX (ceX g) A s.heap st H locs → lv_has ls 5 [(0, .ref (g.2.1 42)), (1, .ref (g.2.1 1)), (2, .ref (g.2.1 7)), (3, .int x3)] → W p l e rm_X6_goWaiting s m args below meth c H locs 0 0 (MQ below (QV g nwX (ceX g) A st9) args s 0 0 A) (F0 m 13 ls []) := by
  intro k
  induction k with
  | zero =>
    intro x3 st ls H locs h
    exact none_s h
  | succ k ih =>
    intro x3 st ls H locs h Y hl
    exact w_X6_goWaiting_13b_7 X  (X6_goWaiting_13 7 k) ih h Y  hl
set_option maxHeartbeats 4000000 in
set_option maxRecDepth 100000 in
theorem w_X6_goWaiting_7 (X : Cx g p s m args meth c cX6_goWaiting 5 RX6 none)  {st : Sg} {st9 : Sg}  (h : X6_goWaiting 7 st = some st9) (Y : Hp g nwX (ceX g) A s.heap st H locs)  (hl : lv_has ls 5 [(0, .ref (g.2.1 42)), (1, .ref (g.2.1 1)), (2, .ref (g.2.1 7))]) : W p l e rm_X6_goWaiting s m args below meth c H locs 0 0 (MQ below (QV g nwX (ceX g) A st9) args s 0 0 A) (F0 m 0 ls []) := by
  have hx := X.1
  have hb := X.2.1
  unfold X6_goWaiting at h
  refine lv_aload_n hx hb dX6_goWaiting_0 rfl (lv_at hl 0 rfl) ?_
  refine lv_aload_n hx hb dX6_goWaiting_1 rfl (lv_at hl 1 rfl) ?_
  obtain ⟨st2, hc1, h⟩ := bnd1_s h
  refine k_cV Y (k_runV (As := [.ref (g.2.1 1)]) (rest := []) (o := 42) X Y cl_6_25 (c_X6_begin l hc1 _) ⟨rfl, rfl, Nat.le_of_ble_eq_true rfl, Nat.le_of_ble_eq_true rfl⟩ (Nat.le_of_ble_eq_true rfl) rfl rfl hl.1 rfl (Nat.le_of_ble_eq_true rfl) dX6_goWaiting_2 ⟨Nat.zero_le _, Nat.zero_le _⟩) (fun H locs Y => ?_)
  refine lv_aload_n hx hb dX6_goWaiting_5 rfl (lv_at hl 0 rfl) ?_
  refine lv_aload_n hx hb dX6_goWaiting_6 rfl (lv_at hl 1 rfl) ?_
  refine lv_aload_n hx hb dX6_goWaiting_7 rfl (lv_at hl 2 rfl) ?_
  obtain ⟨st4, hc3, h⟩ := bnd1_s h
  refine k_cV Y (k_runV (As := [.ref (g.2.1 1), .ref (g.2.1 7)]) (rest := []) (o := 42) X Y cl_6_54 (c_X6_pickAll_7 l hc3 _) ⟨rfl, rfl, Nat.le_of_ble_eq_true rfl, Nat.le_of_ble_eq_true rfl⟩ (Nat.le_of_ble_eq_true rfl) rfl rfl hl.1 rfl (Nat.le_of_ble_eq_true rfl) dX6_goWaiting_8 ⟨Nat.zero_le _, Nat.zero_le _⟩) (fun H locs Y => ?_)
  refine lv_iconst (v := 0) hx hb dX6_goWaiting_11 (by decide) ?_
  refine lv_istore_n (lv' := [(3, .int 0), (0, .ref (g.2.1 42)), (1, .ref (g.2.1 1)), (2, .ref (g.2.1 7))]) hx hb dX6_goWaiting_12 rfl hl (by decide) rfl (fun ls hl => ?_)
  exact w_X6_goWaiting_13_7 X   FU 0 st4 _ _ _ h Y (lv_sub hl [1, 2, 3, 0] rfl)
theorem c_X6_goWaiting_7 (l : Launch) {g : Gx}  {st : Sg} {st9 : Sg} (h : X6_goWaiting 7 st = some st9) : MetV l yX6_goWaiting cX6_goWaiting 5 none rm_X6_goWaiting g nwX (ceX g) [.ref (g.2.1 42), .ref (g.2.1 1), .ref (g.2.1 7)] st st9 :=
  met_of (Qc := fun A => QV g nwX (ceX g) A st9) (by decide) (Nat.le_of_ble_eq_true rfl) (fun p e s m below meth c A ls X Y hl => w_X6_goWaiting_7 X h Y hl)
set_option maxHeartbeats 4000000 in
set_option maxRecDepth 100000 in
theorem w_X6_goWaiting_52_60 (X : Cx g p s m args meth c cX6_goWaiting 5 RX6 none) {x3 : Int32} {st : Sg} {st9 : Sg} (rc13 : Int32 → Sg → Option Sg) (hrc13 : ∀ (x3 : Int32) (st : Sg) (ls : Array Slot) (H : Heap) (locs : List Loc), rc13 x3 st = some st9 → Hp g nwX (ceX g) A s.heap st H locs → lv_has ls 5 [(0, .ref (g.2.1 42)), (1, .ref (g.2.1 1)), (2, .ref (g.2.1 60)), (3, .int x3)] → W p l e rm_X6_goWaiting s m args below meth c H locs 0 0 (MQ below (QV g nwX (ceX g) A st9) args s 0 0 A) (F0 m 13 ls [])) (h : X6_goWaiting_52 60 rc13 x3 st = some st9) (Y : Hp g nwX (ceX g) A s.heap st H locs)  (hl : lv_has ls 5 [(0, .ref (g.2.1 42)), (1, .ref (g.2.1 1)), (2, .ref (g.2.1 60)), (3, .int x3)]) : W p l e rm_X6_goWaiting s m args below meth c H locs 0 0 (MQ below (QV g nwX (ceX g) A st9) args s 0 0 A) (F0 m 52 ls []) := by
  have hx := X.1
  have hb := X.2.1
  unfold X6_goWaiting_52 at h
  obtain ⟨v1, ev1, h⟩ := nm_s h
  refine lv_iinc (v := v1) (lv' := [(3, .int v1), (0, .ref (g.2.1 42)), (1, .ref (g.2.1 1)), (2, .ref (g.2.1 60))]) hx hb dX6_goWaiting_52 hl (k := 3) rfl (by rw [ev1]; rfl) (by decide) rfl (fun ls hl => ?_)
  refine lv_goto (tgt := 13) hx hb dX6_goWaiting_55 (by decide) ?_
  exact hrc13 v1 st _ _ _ h Y (lv_sub hl [1, 2, 3, 0] rfl)
set_option maxHeartbeats 4000000 in
set_option maxRecDepth 100000 in
theorem w_X6_goWaiting_29b_60 (X : Cx g p s m args meth c cX6_goWaiting 5 RX6 none) {x3 : Int32} {x4 : Int32} {st : Sg} {st9 : Sg} (rc13 : Int32 → Sg → Option Sg) (hrc13 : ∀ (x3 : Int32) (st : Sg) (ls : Array Slot) (H : Heap) (locs : List Loc), rc13 x3 st = some st9 → Hp g nwX (ceX g) A s.heap st H locs → lv_has ls 5 [(0, .ref (g.2.1 42)), (1, .ref (g.2.1 1)), (2, .ref (g.2.1 60)), (3, .int x3)] → W p l e rm_X6_goWaiting s m args below meth c H locs 0 0 (MQ below (QV g nwX (ceX g) A st9) args s 0 0 A) (F0 m 13 ls [])) (rc29 : Int32 → Sg → Option Sg) (hrc29 : ∀ (x4 : Int32) (st : Sg) (ls : Array Slot) (H : Heap) (locs : List Loc), rc29 x4 st = some st9 → Hp g nwX (ceX g) A s.heap st H locs → lv_has ls 5 [(0, .ref (g.2.1 42)), (1, .ref (g.2.1 1)), (2, .ref (g.2.1 60)), (3, .int x3), (4, .int x4)] → W p l e rm_X6_goWaiting s m args below meth c H locs 0 0 (MQ below (QV g nwX (ceX g) A st9) args s 0 0 A) (F0 m 29 ls [])) (h : X6_goWaiting_29b 60 rc13 rc29 x3 x4 st = some st9) (Y : Hp g nwX (ceX g) A s.heap st H locs)  (hl : lv_has ls 5 [(0, .ref (g.2.1 42)), (1, .ref (g.2.1 1)), (2, .ref (g.2.1 60)), (3, .int x3), (4, .int x4)]) : W p l e rm_X6_goWaiting s m args below meth c H locs 0 0 (MQ below (QV g nwX (ceX g) A st9) args s 0 0 A) (F0 m 29 ls []) := by
  have hx := X.1
  have hb := X.2.1
  unfold X6_goWaiting_29b at h
  refine lv_iload hx hb dX6_goWaiting_29 (lv_at hl 4 rfl) ?_
  refine lv_iload_n hx hb dX6_goWaiting_31 rfl (lv_at hl 3 rfl) ?_
  refine lv_icmp_gt (tgt := 52) hx hb dX6_goWaiting_32 (by decide) (fun c1 => ?_) (fun c1 => ?_)
  · have h := ite_t h c1
    exact w_X6_goWaiting_52_60 X rc13 hrc13 h Y  (lv_sub hl [0, 1, 2, 3] rfl)
  · have h := ite_f h c1
    refine lv_aload_n hx hb dX6_goWaiting_35 rfl (lv_at hl 0 rfl) ?_
    refine lv_iload hx hb dX6_goWaiting_36 (lv_at hl 4 rfl) ?_
    refine lv_aload_n hx hb dX6_goWaiting_38 rfl (lv_at hl 1 rfl) ?_
    refine lv_iload_n hx hb dX6_goWaiting_39 rfl (lv_at hl 3 rfl) ?_
    refine lv_aload_n hx hb dX6_goWaiting_40 rfl (lv_at hl 2 rfl) ?_
    refine lv_iload_n hx hb dX6_goWaiting_41 rfl (lv_at hl 3 rfl) ?_
    obtain ⟨i2, h⟩ := cix_s h
    refine k_iald X Y 60 (Nat.le_of_ble_eq_true rfl) (fun _ _ => rfl) i2 dX6_goWaiting_42 ?_
    obtain ⟨st4, hc3, h⟩ := bnd1_s h
    refine k_cV Y (k_runV (As := [.int x4, .ref (g.2.1 1), .int x3, .int (st.1 60 x3.toNatClampNeg)]) (rest := []) (o := 42) X Y cl_6_58 (c_X6_passThoseOf l hc3 _) ⟨rfl, rfl, Nat.le_of_ble_eq_true rfl, Nat.le_of_ble_eq_true rfl⟩ (Nat.le_of_ble_eq_true rfl) rfl rfl hl.1 rfl (Nat.le_of_ble_eq_true rfl) dX6_goWaiting_43 ⟨Nat.zero_le _, Nat.zero_le _⟩) (fun H locs Y => ?_)
    obtain ⟨v5, ev5, h⟩ := nm_s h
    refine lv_iinc (v := v5) (lv' := [(4, .int v5), (0, .ref (g.2.1 42)), (1, .ref (g.2.1 1)), (2, .ref (g.2.1 60)), (3, .int x3)]) hx hb dX6_goWaiting_46 hl (k := 4) rfl (by rw [ev5]; rfl) (by decide) rfl (fun ls hl => ?_)
    refine lv_goto (tgt := 29) hx hb dX6_goWaiting_49 (by decide) ?_
    exact hrc29 v5 st4 _ _ _ h Y (lv_sub hl [1, 2, 3, 4, 0] rfl)
theorem w_X6_goWaiting_29_60 (X : Cx g p s m args meth c cX6_goWaiting 5 RX6 none) {x3 : Int32}  {st9 : Sg} (rc13 : Int32 → Sg → Option Sg) (hrc13 : ∀ (x3 : Int32) (st : Sg) (ls : Array Slot) (H : Heap) (locs : List Loc), rc13 x3 st = some st9 → Hp g nwX (ceX g) A s.heap st H locs → lv_has ls 5 [(0, .ref (g.2.1 42)), (1, .ref (g.2.1 1)), (2, .ref (g.2.1 60)), (3, .int x3)] → W p l e rm_X6_goWaiting s m args below meth c H locs 0 0 (MQ below (QV g nwX (ceX g) A st9) args s 0 0 A) (F0 m 13 ls []))  : ∀ (k : Nat) (x4 : Int32) (st : Sg) (ls : Array Slot) (H : Heap) (locs : List Loc), X6_goWaiting_29 60 rc13 x3 k x4 st = some st9 → Hp g nwX (ceX g) A s.heap st H locs → lv_has ls 5 [(0, .ref (g.2.1 42)), (1, .ref (g.2.1 1)), (2, .ref (g.2.1 60)), (3, .int x3), (4, .int x4)] → W p l e rm_X6_goWaiting s m args below meth c H locs 0 0 (MQ below (QV g nwX (ceX g) A st9) args s 0 0 A) (F0 m 29 ls []) := by
  intro k
  induction k with
  | zero =>
    intro x4 st ls H locs h
    exact none_s h
  | succ k ih =>
    intro x4 st ls H locs h Y hl
    exact w_X6_goWaiting_29b_60 X rc13 hrc13 (X6_goWaiting_29 60 rc13 x3 k) ih h Y  hl
set_option maxHeartbeats 4000000 in
set_option maxRecDepth 100000 in
theorem w_X6_goWaiting_58_60 (X : Cx g p s m args meth c cX6_goWaiting 5 RX6 none)  {st : Sg} {st9 : Sg}  (h : X6_goWaiting_58 60 st = some st9) (Y : Hp g nwX (ceX g) A s.heap st H locs)  (hl : lv_has ls 5 []) : W p l e rm_X6_goWaiting s m args below meth c H locs 0 0 (MQ below (QV g nwX (ceX g) A st9) args s 0 0 A) (F0 m 58 ls []) := by
  have hx := X.1
  have hb := X.2.1
  unfold X6_goWaiting_58 at h
  exact k_vretW X Y h dX6_goWaiting_58
set_option maxHeartbeats 4000000 in
set_option maxRecDepth 100000 in
theorem w_X6_goWaiting_13b_60 (X : Cx g p s m args meth c cX6_goWaiting 5 RX6 none) {x3 : Int32} {st : Sg} {st9 : Sg} (rc13 : Int32 → Sg → Option Sg) (hrc13 : ∀ (x3 : Int32) (st : Sg) (ls : Array Slot) (H : Heap) (locs : List Loc), rc13 x3 st = some st9 → Hp g nwX (ceX g) A s.heap st H locs → lv_has ls 5 [(0, .ref (g.2.1 42)), (1, .ref (g.2.1 1)), (2, .ref (g.2.1 60)), (3, .int x3)] → W p l e rm_X6_goWaiting s m args below meth c H locs 0 0 (MQ below (QV g nwX (ceX g) A st9) args s 0 0 A) (F0 m 13 ls [])) (h : X6_goWaiting_13b 60 rc13 x3 st = some st9) (Y : Hp g nwX (ceX g) A s.heap st H locs)  (hl : lv_has ls 5 [(0, .ref (g.2.1 42)), (1, .ref (g.2.1 1)), (2, .ref (g.2.1 60)), (3, .int x3)]) : W p l e rm_X6_goWaiting s m args below meth c H locs 0 0 (MQ below (QV g nwX (ceX g) A st9) args s 0 0 A) (F0 m 13 ls []) := by
  have hx := X.1
  have hb := X.2.1
  unfold X6_goWaiting_13b at h
  refine lv_iload_n hx hb dX6_goWaiting_13 rfl (lv_at hl 3 rfl) ?_
  refine lv_aload_n hx hb dX6_goWaiting_14 rfl (lv_at hl 1 rfl) ?_
  refine k_get (v := .int (st.1 1 1)) X Y fl_6_29 1 (Nat.le_of_ble_eq_true rfl) rfl rfl dX6_goWaiting_15 ?_
  refine lv_icmp_ge (tgt := 58) hx hb dX6_goWaiting_18 (by decide) (fun c1 => ?_) (fun c1 => ?_)
  · have h := ite_t h c1
    exact w_X6_goWaiting_58_60 X  h Y  (lv_sub hl [] rfl)
  · have h := ite_f h c1
    refine lv_aload_n hx hb dX6_goWaiting_21 rfl (lv_at hl 0 rfl) ?_
    refine lv_iload_n hx hb dX6_goWaiting_22 rfl (lv_at hl 3 rfl) ?_
    obtain ⟨st3, hc2, h⟩ := bnd1_s h
    refine k_cV Y (k_runV (As := [.int x3]) (rest := []) (o := 42) X Y cl_6_35 (c_X6_openDay l hc2 _) ⟨rfl, rfl, Nat.le_of_ble_eq_true rfl, Nat.le_of_ble_eq_true rfl⟩ (Nat.le_of_ble_eq_true rfl) rfl rfl hl.1 rfl (Nat.le_of_ble_eq_true rfl) dX6_goWaiting_23 ⟨Nat.zero_le _, Nat.zero_le _⟩) (fun H locs Y => ?_)
    refine lv_iconst (v := 0) hx hb dX6_goWaiting_26 (by decide) ?_
    refine lv_istore (lv' := [(4, .int 0), (0, .ref (g.2.1 42)), (1, .ref (g.2.1 1)), (2, .ref (g.2.1 60)), (3, .int x3)]) hx hb dX6_goWaiting_27 hl (by decide) rfl (fun ls hl => ?_)
    exact w_X6_goWaiting_29_60 X rc13 hrc13  FU 0 st3 _ _ _ h Y (lv_sub hl [1, 2, 3, 4, 0] rfl)
theorem w_X6_goWaiting_13_60 (X : Cx g p s m args meth c cX6_goWaiting 5 RX6 none)   {st9 : Sg}   : ∀ (k : Nat) (x3 : Int32) (st : Sg) (ls : Array Slot) (H : Heap) (locs : List Loc), X6_goWaiting_13 60 k x3 st = some st9 → Hp g nwX (ceX g) A s.heap st H locs → lv_has ls 5 [(0, .ref (g.2.1 42)), (1, .ref (g.2.1 1)), (2, .ref (g.2.1 60)), (3, .int x3)] → W p l e rm_X6_goWaiting s m args below meth c H locs 0 0 (MQ below (QV g nwX (ceX g) A st9) args s 0 0 A) (F0 m 13 ls []) := by
  intro k
  induction k with
  | zero =>
    intro x3 st ls H locs h
    exact none_s h
  | succ k ih =>
    intro x3 st ls H locs h Y hl
    exact w_X6_goWaiting_13b_60 X  (X6_goWaiting_13 60 k) ih h Y  hl
set_option maxHeartbeats 4000000 in
set_option maxRecDepth 100000 in
theorem w_X6_goWaiting_60 (X : Cx g p s m args meth c cX6_goWaiting 5 RX6 none)  {st : Sg} {st9 : Sg}  (h : X6_goWaiting 60 st = some st9) (Y : Hp g nwX (ceX g) A s.heap st H locs)  (hl : lv_has ls 5 [(0, .ref (g.2.1 42)), (1, .ref (g.2.1 1)), (2, .ref (g.2.1 60))]) : W p l e rm_X6_goWaiting s m args below meth c H locs 0 0 (MQ below (QV g nwX (ceX g) A st9) args s 0 0 A) (F0 m 0 ls []) := by
  have hx := X.1
  have hb := X.2.1
  unfold X6_goWaiting at h
  refine lv_aload_n hx hb dX6_goWaiting_0 rfl (lv_at hl 0 rfl) ?_
  refine lv_aload_n hx hb dX6_goWaiting_1 rfl (lv_at hl 1 rfl) ?_
  obtain ⟨st2, hc1, h⟩ := bnd1_s h
  refine k_cV Y (k_runV (As := [.ref (g.2.1 1)]) (rest := []) (o := 42) X Y cl_6_25 (c_X6_begin l hc1 _) ⟨rfl, rfl, Nat.le_of_ble_eq_true rfl, Nat.le_of_ble_eq_true rfl⟩ (Nat.le_of_ble_eq_true rfl) rfl rfl hl.1 rfl (Nat.le_of_ble_eq_true rfl) dX6_goWaiting_2 ⟨Nat.zero_le _, Nat.zero_le _⟩) (fun H locs Y => ?_)
  refine lv_aload_n hx hb dX6_goWaiting_5 rfl (lv_at hl 0 rfl) ?_
  refine lv_aload_n hx hb dX6_goWaiting_6 rfl (lv_at hl 1 rfl) ?_
  refine lv_aload_n hx hb dX6_goWaiting_7 rfl (lv_at hl 2 rfl) ?_
  obtain ⟨st4, hc3, h⟩ := bnd1_s h
  refine k_cV Y (k_runV (As := [.ref (g.2.1 1), .ref (g.2.1 60)]) (rest := []) (o := 42) X Y cl_6_54 (c_X6_pickAll_60 l hc3 _) ⟨rfl, rfl, Nat.le_of_ble_eq_true rfl, Nat.le_of_ble_eq_true rfl⟩ (Nat.le_of_ble_eq_true rfl) rfl rfl hl.1 rfl (Nat.le_of_ble_eq_true rfl) dX6_goWaiting_8 ⟨Nat.zero_le _, Nat.zero_le _⟩) (fun H locs Y => ?_)
  refine lv_iconst (v := 0) hx hb dX6_goWaiting_11 (by decide) ?_
  refine lv_istore_n (lv' := [(3, .int 0), (0, .ref (g.2.1 42)), (1, .ref (g.2.1 1)), (2, .ref (g.2.1 60))]) hx hb dX6_goWaiting_12 rfl hl (by decide) rfl (fun ls hl => ?_)
  exact w_X6_goWaiting_13_60 X   FU 0 st4 _ _ _ h Y (lv_sub hl [1, 2, 3, 0] rfl)
theorem c_X6_goWaiting_60 (l : Launch) {g : Gx}  {st : Sg} {st9 : Sg} (h : X6_goWaiting 60 st = some st9) : MetV l yX6_goWaiting cX6_goWaiting 5 none rm_X6_goWaiting g nwX (ceX g) [.ref (g.2.1 42), .ref (g.2.1 1), .ref (g.2.1 60)] st st9 :=
  met_of (Qc := fun A => QV g nwX (ceX g) A st9) (by decide) (Nat.le_of_ble_eq_true rfl) (fun p e s m below meth c A ls X Y hl => w_X6_goWaiting_60 X h Y hl)
def X7_findMet_116    (st : Sg) : Option Sg :=
  nm (sI st 0 13 (st.1 1 10)) fun st1 =>
  some st1
def X7_findMet_32b  (rc32 : Int32 → Int32 → Sg → Option Sg) (x1 : Int32) (x2 : Int32) (st : Sg) : Option Sg :=
  if (210 : Int32) ≤ x2 then
    X7_findMet_116 st
  else
    if x1 = ((-6) : Int32) then
      X7_findMet_116 st
    else
      bnd1 (X6_goWaiting 60 st) fun st4 =>
      bnd1 (X6_mean st4) fun v6 =>
      bnd1 (X1_offer 65 v6 st4) fun st8 =>
      bnd2 (X0_advance (st8.1 1 1) (st8.1 1 4) st8) fun v11 st10 =>
      nm (x2 + 1) fun v12 =>
      rc32 v11 v12 st10
def X7_findMet_32    : Nat → Int32 → Int32 → Sg → Option Sg
  | 0, _, _, _ => none
  | k + 1, x1, x2, st => X7_findMet_32b   (X7_findMet_32 k) x1 x2 st
def X7_findMet    (st : Sg) : Option Sg :=
  if (st.1 0 13) = (st.1 1 10) then
    some st
  else
    bnd1 (X1_clear 65 st) fun st3 =>
    bnd2 (X0_begin st3) fun v6 st5 =>
    X7_findMet_32 FU v6 0 st5
abbrev rm_X7_findMet : Room := { frames := 4, cells := 0, slots := 0, locals := 98 }
set_option maxHeartbeats 4000000 in
set_option maxRecDepth 100000 in
theorem w_X7_findMet_116 (X : Cx g p s m args meth c cX7_findMet 3 RX7 none)  {st : Sg} {st9 : Sg}  (h : X7_findMet_116 st = some st9) (Y : Hp g nwX (ceX g) A s.heap st H locs)  (hl : lv_has ls 3 [(0, .ref (g.2.1 0))]) : W p l e rm_X7_findMet s m args below meth c H locs 0 0 (MQ below (QV g nwX (ceX g) A st9) args s 0 0 A) (F0 m 116 ls []) := by
  have hx := X.1
  have hb := X.2.1
  unfold X7_findMet_116 at h
  refine lv_aload_n hx hb dX7_findMet_116 rfl (lv_at hl 0 rfl) ?_
  refine lv_aload_n hx hb dX7_findMet_117 rfl (lv_at hl 0 rfl) ?_
  refine k_get (v := .ref (g.2.1 1)) X Y fl_7_10 0 (Nat.le_of_ble_eq_true rfl) rfl rfl dX7_findMet_118 ?_
  refine k_get (v := .int (st.1 1 10)) X Y fl_7_94 1 (Nat.le_of_ble_eq_true rfl) rfl rfl dX7_findMet_121 ?_
  refine k_putI X Y fl_7_78 0 (Nat.le_of_ble_eq_true rfl) rfl rfl rfl (Nat.le_of_ble_eq_true rfl) rfl dX7_findMet_124 (fun H locs Y => ?_)
  obtain ⟨st1, est1, h⟩ := nm_s h
  have Y : Hp g nwX (ceX g) A s.heap st1 H locs := by rw [est1]; exact Y
  exact k_vretW X Y h dX7_findMet_127
set_option maxHeartbeats 4000000 in
set_option maxRecDepth 100000 in
theorem w_X7_findMet_32b (X : Cx g p s m args meth c cX7_findMet 3 RX7 none) {x1 : Int32} {x2 : Int32} {st : Sg} {st9 : Sg} (rc32 : Int32 → Int32 → Sg → Option Sg) (hrc32 : ∀ (x1 : Int32) (x2 : Int32) (st : Sg) (ls : Array Slot) (H : Heap) (locs : List Loc), rc32 x1 x2 st = some st9 → Hp g nwX (ceX g) A s.heap st H locs → lv_has ls 3 [(0, .ref (g.2.1 0)), (1, .int x1), (2, .int x2)] → W p l e rm_X7_findMet s m args below meth c H locs 0 0 (MQ below (QV g nwX (ceX g) A st9) args s 0 0 A) (F0 m 32 ls [])) (h : X7_findMet_32b rc32 x1 x2 st = some st9) (Y : Hp g nwX (ceX g) A s.heap st H locs)  (hl : lv_has ls 3 [(0, .ref (g.2.1 0)), (1, .int x1), (2, .int x2)]) : W p l e rm_X7_findMet s m args below meth c H locs 0 0 (MQ below (QV g nwX (ceX g) A st9) args s 0 0 A) (F0 m 32 ls []) := by
  have hx := X.1
  have hb := X.2.1
  unfold X7_findMet_32b at h
  refine lv_iload_n hx hb dX7_findMet_32 rfl (lv_at hl 2 rfl) ?_
  refine lv_sipush (v := 210) hx hb dX7_findMet_33 (by decide) ?_
  refine lv_icmp_ge (tgt := 116) hx hb dX7_findMet_36 (by decide) (fun c1 => ?_) (fun c1 => ?_)
  · have h := ite_t h c1
    exact w_X7_findMet_116 X  h Y  (lv_sub hl [0] rfl)
  · have h := ite_f h c1
    refine lv_iload_n hx hb dX7_findMet_39 rfl (lv_at hl 1 rfl) ?_
    refine lv_bipush (v := (-6)) hx hb dX7_findMet_40 (by decide) ?_
    refine lv_icmp_eq (tgt := 116) hx hb dX7_findMet_42 (by decide) (fun c2 => ?_) (fun c2 => ?_)
    · have h := ite_t h c2
      exact w_X7_findMet_116 X  h Y  (lv_sub hl [0] rfl)
    · have h := ite_f h c2
      refine lv_aload_n hx hb dX7_findMet_45 rfl (lv_at hl 0 rfl) ?_
      refine k_get (v := .ref (g.2.1 42)) X Y fl_7_33 0 (Nat.le_of_ble_eq_true rfl) rfl rfl dX7_findMet_46 ?_
      refine lv_aload_n hx hb dX7_findMet_49 rfl (lv_at hl 0 rfl) ?_
      refine k_get (v := .ref (g.2.1 1)) X Y fl_7_10 0 (Nat.le_of_ble_eq_true rfl) rfl rfl dX7_findMet_50 ?_
      refine lv_aload_n hx hb dX7_findMet_53 rfl (lv_at hl 0 rfl) ?_
      refine k_get (v := .ref (g.2.1 59)) X Y fl_7_40 0 (Nat.le_of_ble_eq_true rfl) rfl rfl dX7_findMet_54 ?_
      refine k_get (v := .ref (g.2.1 60)) X Y fl_7_247 59 (Nat.le_of_ble_eq_true rfl) rfl rfl dX7_findMet_57 ?_
      obtain ⟨st4, hc3, h⟩ := bnd1_s h
      refine k_cV Y (k_runV (As := [.ref (g.2.1 1), .ref (g.2.1 60)]) (rest := []) (o := 42) X Y cl_7_258 (c_X6_goWaiting_60 l hc3 _) ⟨rfl, rfl, Nat.le_of_ble_eq_true rfl, Nat.le_of_ble_eq_true rfl⟩ (Nat.le_of_ble_eq_true rfl) rfl rfl hl.1 rfl (Nat.le_of_ble_eq_true rfl) dX7_findMet_60 ⟨Nat.zero_le _, Nat.zero_le _⟩) (fun H locs Y => ?_)
      refine lv_aload_n hx hb dX7_findMet_63 rfl (lv_at hl 0 rfl) ?_
      refine k_get (v := .ref (g.2.1 65)) X Y fl_7_54 0 (Nat.le_of_ble_eq_true rfl) rfl rfl dX7_findMet_64 ?_
      refine lv_aload_n hx hb dX7_findMet_67 rfl (lv_at hl 0 rfl) ?_
      refine k_get (v := .ref (g.2.1 42)) X Y fl_7_33 0 (Nat.le_of_ble_eq_true rfl) rfl rfl dX7_findMet_68 ?_
      refine lv_aload_n hx hb dX7_findMet_71 rfl (lv_at hl 0 rfl) ?_
      refine k_get (v := .ref (g.2.1 1)) X Y fl_7_10 0 (Nat.le_of_ble_eq_true rfl) rfl rfl dX7_findMet_72 ?_
      obtain ⟨v6, hc5, h⟩ := bnd1_s h
      refine k_cJ Y (k_runV (As := [.ref (g.2.1 1)]) (rest := [.ref (g.2.1 65)]) (o := 42) X Y cl_7_146 (c_X6_mean l hc5 _) ⟨rfl, rfl, Nat.le_of_ble_eq_true rfl, Nat.le_of_ble_eq_true rfl⟩ (Nat.le_of_ble_eq_true rfl) rfl rfl hl.1 rfl (Nat.le_of_ble_eq_true rfl) dX7_findMet_75 ⟨Nat.zero_le _, Nat.zero_le _⟩) (fun H locs Y => ?_)
      refine lv_aload_n hx hb dX7_findMet_78 rfl (lv_at hl 0 rfl) ?_
      refine k_get (v := .ref (g.2.1 59)) X Y fl_7_40 0 (Nat.le_of_ble_eq_true rfl) rfl rfl dX7_findMet_79 ?_
      refine k_get (v := .ref (g.2.1 60)) X Y fl_7_247 59 (Nat.le_of_ble_eq_true rfl) rfl rfl dX7_findMet_82 ?_
      obtain ⟨st8, hc7, h⟩ := bnd1_s h
      refine k_cV Y (k_runV (As := [.long v6, .ref (g.2.1 60)]) (rest := []) (o := 65) X Y cl_7_248 (c_X1_offer_65 l hc7 _) ⟨rfl, rfl, Nat.le_of_ble_eq_true rfl, Nat.le_of_ble_eq_true rfl⟩ (Nat.le_of_ble_eq_true rfl) rfl rfl hl.1 rfl (Nat.le_of_ble_eq_true rfl) dX7_findMet_85 ⟨Nat.zero_le _, Nat.zero_le _⟩) (fun H locs Y => ?_)
      refine lv_aload_n hx hb dX7_findMet_88 rfl (lv_at hl 0 rfl) ?_
      refine k_get (v := .ref (g.2.1 59)) X Y fl_7_40 0 (Nat.le_of_ble_eq_true rfl) rfl rfl dX7_findMet_89 ?_
      refine lv_aload_n hx hb dX7_findMet_92 rfl (lv_at hl 0 rfl) ?_
      refine k_get (v := .ref (g.2.1 1)) X Y fl_7_10 0 (Nat.le_of_ble_eq_true rfl) rfl rfl dX7_findMet_93 ?_
      refine k_get (v := .int (st8.1 1 1)) X Y fl_7_88 1 (Nat.le_of_ble_eq_true rfl) rfl rfl dX7_findMet_96 ?_
      refine lv_aload_n hx hb dX7_findMet_99 rfl (lv_at hl 0 rfl) ?_
      refine k_get (v := .ref (g.2.1 1)) X Y fl_7_10 0 (Nat.le_of_ble_eq_true rfl) rfl rfl dX7_findMet_100 ?_
      refine k_get (v := .int (st8.1 1 4)) X Y fl_7_97 1 (Nat.le_of_ble_eq_true rfl) rfl rfl dX7_findMet_103 ?_
      obtain ⟨v11, st10, hc9, h⟩ := bnd2_s h
      refine k_cI Y (k_runV (As := [.int (st8.1 1 1), .int (st8.1 1 4)]) (rest := []) (o := 59) X Y cl_7_255 (c_X0_advance l hc9 _) ⟨rfl, rfl, Nat.le_of_ble_eq_true rfl, Nat.le_of_ble_eq_true rfl⟩ (Nat.le_of_ble_eq_true rfl) rfl rfl hl.1 rfl (Nat.le_of_ble_eq_true rfl) dX7_findMet_106 ⟨Nat.zero_le _, Nat.zero_le _⟩) (fun H locs Y => ?_)
      refine lv_istore_n (lv' := [(1, .int v11), (0, .ref (g.2.1 0)), (2, .int x2)]) hx hb dX7_findMet_109 rfl hl (by decide) rfl (fun ls hl => ?_)
      obtain ⟨v12, ev12, h⟩ := nm_s h
      refine lv_iinc (v := v12) (lv' := [(2, .int v12), (1, .int v11), (0, .ref (g.2.1 0))]) hx hb dX7_findMet_110 hl (k := 2) rfl (by rw [ev12]; rfl) (by decide) rfl (fun ls hl => ?_)
      refine lv_goto (tgt := 32) hx hb dX7_findMet_113 (by decide) ?_
      exact hrc32 v11 v12 st10 _ _ _ h Y (lv_sub hl [2, 1, 0] rfl)
theorem w_X7_findMet_32 (X : Cx g p s m args meth c cX7_findMet 3 RX7 none)   {st9 : Sg}   : ∀ (k : Nat) (x1 : Int32) (x2 : Int32) (st : Sg) (ls : Array Slot) (H : Heap) (locs : List Loc), X7_findMet_32 k x1 x2 st = some st9 → Hp g nwX (ceX g) A s.heap st H locs → lv_has ls 3 [(0, .ref (g.2.1 0)), (1, .int x1), (2, .int x2)] → W p l e rm_X7_findMet s m args below meth c H locs 0 0 (MQ below (QV g nwX (ceX g) A st9) args s 0 0 A) (F0 m 32 ls []) := by
  intro k
  induction k with
  | zero =>
    intro x1 x2 st ls H locs h
    exact none_s h
  | succ k ih =>
    intro x1 x2 st ls H locs h Y hl
    exact w_X7_findMet_32b X  (X7_findMet_32 k) ih h Y  hl
set_option maxHeartbeats 4000000 in
set_option maxRecDepth 100000 in
theorem w_X7_findMet (X : Cx g p s m args meth c cX7_findMet 3 RX7 none)  {st : Sg} {st9 : Sg}  (h : X7_findMet st = some st9) (Y : Hp g nwX (ceX g) A s.heap st H locs)  (hl : lv_has ls 3 [(0, .ref (g.2.1 0))]) : W p l e rm_X7_findMet s m args below meth c H locs 0 0 (MQ below (QV g nwX (ceX g) A st9) args s 0 0 A) (F0 m 0 ls []) := by
  have hx := X.1
  have hb := X.2.1
  unfold X7_findMet at h
  refine lv_aload_n hx hb dX7_findMet_0 rfl (lv_at hl 0 rfl) ?_
  refine k_get (v := .int (st.1 0 13)) X Y fl_7_78 0 (Nat.le_of_ble_eq_true rfl) rfl rfl dX7_findMet_1 ?_
  refine lv_aload_n hx hb dX7_findMet_4 rfl (lv_at hl 0 rfl) ?_
  refine k_get (v := .ref (g.2.1 1)) X Y fl_7_10 0 (Nat.le_of_ble_eq_true rfl) rfl rfl dX7_findMet_5 ?_
  refine k_get (v := .int (st.1 1 10)) X Y fl_7_94 1 (Nat.le_of_ble_eq_true rfl) rfl rfl dX7_findMet_8 ?_
  refine lv_icmp_ne (tgt := 15) hx hb dX7_findMet_11 (by decide) (fun c1 => ?_) (fun c1 => ?_)
  · have h := ite_f h c1
    refine lv_aload_n hx hb dX7_findMet_15 rfl (lv_at hl 0 rfl) ?_
    refine k_get (v := .ref (g.2.1 65)) X Y fl_7_54 0 (Nat.le_of_ble_eq_true rfl) rfl rfl dX7_findMet_16 ?_
    obtain ⟨st3, hc2, h⟩ := bnd1_s h
    refine k_cV Y (k_runV (As := []) (rest := []) (o := 65) X Y cl_7_241 (c_X1_clear_65 l hc2 _) ⟨rfl, rfl, Nat.le_of_ble_eq_true rfl, Nat.le_of_ble_eq_true rfl⟩ (Nat.le_of_ble_eq_true rfl) rfl rfl hl.1 rfl (Nat.le_of_ble_eq_true rfl) dX7_findMet_19 ⟨Nat.zero_le _, Nat.zero_le _⟩) (fun H locs Y => ?_)
    refine lv_aload_n hx hb dX7_findMet_22 rfl (lv_at hl 0 rfl) ?_
    refine k_get (v := .ref (g.2.1 59)) X Y fl_7_40 0 (Nat.le_of_ble_eq_true rfl) rfl rfl dX7_findMet_23 ?_
    obtain ⟨v6, st5, hc4, h⟩ := bnd2_s h
    refine k_cI Y (k_runV (As := []) (rest := []) (o := 59) X Y cl_7_244 (c_X0_begin l hc4 _) ⟨rfl, rfl, Nat.le_of_ble_eq_true rfl, Nat.le_of_ble_eq_true rfl⟩ (Nat.le_of_ble_eq_true rfl) rfl rfl hl.1 rfl (Nat.le_of_ble_eq_true rfl) dX7_findMet_26 ⟨Nat.zero_le _, Nat.zero_le _⟩) (fun H locs Y => ?_)
    refine lv_istore_n (lv' := [(1, .int v6), (0, .ref (g.2.1 0))]) hx hb dX7_findMet_29 rfl hl (by decide) rfl (fun ls hl => ?_)
    refine lv_iconst (v := 0) hx hb dX7_findMet_30 (by decide) ?_
    refine lv_istore_n (lv' := [(2, .int 0), (1, .int v6), (0, .ref (g.2.1 0))]) hx hb dX7_findMet_31 rfl hl (by decide) rfl (fun ls hl => ?_)
    exact w_X7_findMet_32 X   FU v6 0 st5 _ _ _ h Y (lv_sub hl [2, 1, 0] rfl)
  · have h := ite_t h c1
    exact k_vretW X Y h dX7_findMet_14
theorem c_X7_findMet (l : Launch) {g : Gx}  {st : Sg} {st9 : Sg} (h : X7_findMet st = some st9) : MetV l yX7_findMet cX7_findMet 3 none rm_X7_findMet g nwX (ceX g) [.ref (g.2.1 0)] st st9 :=
  met_of (Qc := fun A => QV g nwX (ceX g) A st9) (by decide) (Nat.le_of_ble_eq_true rfl) (fun p e s m below meth c A ls X Y hl => w_X7_findMet X h Y hl)
def X7_promiseMean_110   (k0 : Int64) (st : Sg) : Option (Int64 × Sg) :=
  some (k0, st)
def X7_promiseMean   (x1 : Int32) (st : Sg) : Option (Int64 × Sg) :=
  if x1 = (4 : Int32) then
    bnd1 (X6_goWaiting 7 st) fun st14 =>
    bnd1 (X6_mean st14) fun v16 =>
    some (v16, st14)
  else
    if x1 = (2 : Int32) then
      bnd1 (X7_findMet st) fun st12 =>
      some (st12.2 65 1, st12)
    else
      bnd1 (X7_findKept st) fun st4 =>
      if x1 = (3 : Int32) then
        bnd1 (X7_findBest st4) fun st8 =>
        cix 0 7 <|
        cix (st8.1 1 0) 13 <|
        some ((st8.2 (10 + ((0 : Int32)).toNatClampNeg) (st8.1 1 0).toNatClampNeg) - (st8.2 61 1), st8)
      else
        if x1 = (1 : Int32) then
          X7_promiseMean_110 (st4.2 63 1) st4
        else
          X7_promiseMean_110 (st4.2 61 1) st4
abbrev rm_X7_promiseMean : Room := { frames := 5, cells := 0, slots := 0, locals := 120 }
set_option maxHeartbeats 4000000 in
set_option maxRecDepth 100000 in
theorem w_X7_promiseMean_110 (X : Cx g p s m args meth c cX7_promiseMean 2 RX7 (some .long)) {k0 : Int64} {st : Sg} {r9 : Int64} {st9 : Sg}  (h : X7_promiseMean_110 k0 st = some (r9, st9)) (Y : Hp g nwX (ceX g) A s.heap st H locs)  (hl : lv_has ls 2 []) : W p l e rm_X7_promiseMean s m args below meth c H locs 0 0 (MQ below (QJ g nwX (ceX g) A r9 st9) args s 0 0 A) (F0 m 110 ls [.long k0]) := by
  have hx := X.1
  have hb := X.2.1
  unfold X7_promiseMean_110 at h
  exact k_lretW X Y h dX7_promiseMean_110
set_option maxHeartbeats 4000000 in
set_option maxRecDepth 100000 in
theorem w_X7_promiseMean (X : Cx g p s m args meth c cX7_promiseMean 2 RX7 (some .long)) {x1 : Int32} {st : Sg} {r9 : Int64} {st9 : Sg}  (h : X7_promiseMean x1 st = some (r9, st9)) (Y : Hp g nwX (ceX g) A s.heap st H locs)  (hl : lv_has ls 2 [(0, .ref (g.2.1 0)), (1, .int x1)]) : W p l e rm_X7_promiseMean s m args below meth c H locs 0 0 (MQ below (QJ g nwX (ceX g) A r9 st9) args s 0 0 A) (F0 m 0 ls []) := by
  have hx := X.1
  have hb := X.2.1
  unfold X7_promiseMean at h
  refine lv_iload_n hx hb dX7_promiseMean_0 rfl (lv_at hl 1 rfl) ?_
  refine lv_iconst (v := 4) hx hb dX7_promiseMean_1 (by decide) ?_
  refine lv_icmp_ne (tgt := 32) hx hb dX7_promiseMean_2 (by decide) (fun c1 => ?_) (fun c1 => ?_)
  · have h := ite_f h c1
    refine lv_iload_n hx hb dX7_promiseMean_32 rfl (lv_at hl 1 rfl) ?_
    refine lv_iconst (v := 2) hx hb dX7_promiseMean_33 (by decide) ?_
    refine lv_icmp_ne (tgt := 49) hx hb dX7_promiseMean_34 (by decide) (fun c2 => ?_) (fun c2 => ?_)
    · have h := ite_f h c2
      refine lv_aload_n hx hb dX7_promiseMean_49 rfl (lv_at hl 0 rfl) ?_
      obtain ⟨st4, hc3, h⟩ := bnd1_s h
      refine k_cV Y (k_runV (As := []) (rest := []) (o := 0) X Y cl_7_185 (c_X7_findKept l hc3 _) ⟨rfl, rfl, Nat.le_of_ble_eq_true rfl, Nat.le_of_ble_eq_true rfl⟩ (Nat.le_of_ble_eq_true rfl) rfl rfl hl.1 rfl (Nat.le_of_ble_eq_true rfl) dX7_promiseMean_50 ⟨Nat.zero_le _, Nat.zero_le _⟩) (fun H locs Y => ?_)
      refine lv_iload_n hx hb dX7_promiseMean_53 rfl (lv_at hl 1 rfl) ?_
      refine lv_iconst (v := 3) hx hb dX7_promiseMean_54 (by decide) ?_
      refine lv_icmp_ne (tgt := 88) hx hb dX7_promiseMean_55 (by decide) (fun c5 => ?_) (fun c5 => ?_)
      · have h := ite_f h c5
        refine lv_iload_n hx hb dX7_promiseMean_88 rfl (lv_at hl 1 rfl) ?_
        refine lv_iconst (v := 1) hx hb dX7_promiseMean_89 (by decide) ?_
        refine lv_icmp_ne (tgt := 103) hx hb dX7_promiseMean_90 (by decide) (fun c6 => ?_) (fun c6 => ?_)
        · have h := ite_f h c6
          refine lv_aload_n hx hb dX7_promiseMean_103 rfl (lv_at hl 0 rfl) ?_
          refine k_get (v := .ref (g.2.1 61)) X Y fl_7_47 0 (Nat.le_of_ble_eq_true rfl) rfl rfl dX7_promiseMean_104 ?_
          refine k_get (v := .long (st4.2 61 1)) X Y fl_7_269 61 (Nat.le_of_ble_eq_true rfl) rfl rfl dX7_promiseMean_107 ?_
          exact w_X7_promiseMean_110 X  h Y  (lv_sub hl [] rfl)
        · have h := ite_t h c6
          refine lv_aload_n hx hb dX7_promiseMean_93 rfl (lv_at hl 0 rfl) ?_
          refine k_get (v := .ref (g.2.1 63)) X Y fl_7_51 0 (Nat.le_of_ble_eq_true rfl) rfl rfl dX7_promiseMean_94 ?_
          refine k_get (v := .long (st4.2 63 1)) X Y fl_7_269 63 (Nat.le_of_ble_eq_true rfl) rfl rfl dX7_promiseMean_97 ?_
          refine lv_goto (tgt := 110) hx hb dX7_promiseMean_100 (by decide) ?_
          exact w_X7_promiseMean_110 X  h Y  (lv_sub hl [] rfl)
      · have h := ite_t h c5
        refine lv_aload_n hx hb dX7_promiseMean_58 rfl (lv_at hl 0 rfl) ?_
        obtain ⟨st8, hc7, h⟩ := bnd1_s h
        refine k_cV Y (k_runV (As := []) (rest := []) (o := 0) X Y cl_7_165 (c_X7_findBest l hc7 _) ⟨rfl, rfl, Nat.le_of_ble_eq_true rfl, Nat.le_of_ble_eq_true rfl⟩ (Nat.le_of_ble_eq_true rfl) rfl rfl hl.1 rfl (Nat.le_of_ble_eq_true rfl) dX7_promiseMean_59 ⟨Nat.zero_le _, Nat.zero_le _⟩) (fun H locs Y => ?_)
        refine lv_aload_n hx hb dX7_promiseMean_62 rfl (lv_at hl 0 rfl) ?_
        refine k_get (v := .ref (g.2.1 8)) X Y fl_7_23 0 (Nat.le_of_ble_eq_true rfl) rfl rfl dX7_promiseMean_63 ?_
        refine k_get (v := .ref (g.2.1 9)) X Y fl_7_172 8 (Nat.le_of_ble_eq_true rfl) rfl rfl dX7_promiseMean_66 ?_
        refine lv_iconst (v := 0) hx hb dX7_promiseMean_69 (by decide) ?_
        obtain ⟨i9, h⟩ := cix_s h
        refine k_aaldJ (b := 10) X Y 9 (Nat.le_of_ble_eq_true rfl) (fun _ _ => rfl) i9 dX7_promiseMean_70 ?_
        refine lv_aload_n hx hb dX7_promiseMean_71 rfl (lv_at hl 0 rfl) ?_
        refine k_get (v := .ref (g.2.1 1)) X Y fl_7_10 0 (Nat.le_of_ble_eq_true rfl) rfl rfl dX7_promiseMean_72 ?_
        refine k_get (v := .int (st8.1 1 0)) X Y fl_7_85 1 (Nat.le_of_ble_eq_true rfl) rfl rfl dX7_promiseMean_75 ?_
        obtain ⟨i10, h⟩ := cix_s h
        refine k_lald X Y (10 + ((0 : Int32)).toNatClampNeg) (row_lt i9 (Nat.le_of_ble_eq_true rfl)) (rowX_10 _ (vp_lt i9)) i10 dX7_promiseMean_78 ?_
        refine lv_aload_n hx hb dX7_promiseMean_79 rfl (lv_at hl 0 rfl) ?_
        refine k_get (v := .ref (g.2.1 61)) X Y fl_7_47 0 (Nat.le_of_ble_eq_true rfl) rfl rfl dX7_promiseMean_80 ?_
        refine k_get (v := .long (st8.2 61 1)) X Y fl_7_269 61 (Nat.le_of_ble_eq_true rfl) rfl rfl dX7_promiseMean_83 ?_
        refine lv_lsub hx hb dX7_promiseMean_86 ?_
        exact k_lretW X Y h dX7_promiseMean_87
    · have h := ite_t h c2
      refine lv_aload_n hx hb dX7_promiseMean_37 rfl (lv_at hl 0 rfl) ?_
      obtain ⟨st12, hc11, h⟩ := bnd1_s h
      refine k_cV Y (k_runV (As := []) (rest := []) (o := 0) X Y cl_7_266 (c_X7_findMet l hc11 _) ⟨rfl, rfl, Nat.le_of_ble_eq_true rfl, Nat.le_of_ble_eq_true rfl⟩ (Nat.le_of_ble_eq_true rfl) rfl rfl hl.1 rfl (Nat.le_of_ble_eq_true rfl) dX7_promiseMean_38 ⟨Nat.zero_le _, Nat.zero_le _⟩) (fun H locs Y => ?_)
      refine lv_aload_n hx hb dX7_promiseMean_41 rfl (lv_at hl 0 rfl) ?_
      refine k_get (v := .ref (g.2.1 65)) X Y fl_7_54 0 (Nat.le_of_ble_eq_true rfl) rfl rfl dX7_promiseMean_42 ?_
      refine k_get (v := .long (st12.2 65 1)) X Y fl_7_269 65 (Nat.le_of_ble_eq_true rfl) rfl rfl dX7_promiseMean_45 ?_
      exact k_lretW X Y h dX7_promiseMean_48
  · have h := ite_t h c1
    refine lv_aload_n hx hb dX7_promiseMean_5 rfl (lv_at hl 0 rfl) ?_
    refine k_get (v := .ref (g.2.1 42)) X Y fl_7_33 0 (Nat.le_of_ble_eq_true rfl) rfl rfl dX7_promiseMean_6 ?_
    refine lv_aload_n hx hb dX7_promiseMean_9 rfl (lv_at hl 0 rfl) ?_
    refine k_get (v := .ref (g.2.1 1)) X Y fl_7_10 0 (Nat.le_of_ble_eq_true rfl) rfl rfl dX7_promiseMean_10 ?_
    refine lv_aload_n hx hb dX7_promiseMean_13 rfl (lv_at hl 0 rfl) ?_
    refine k_get (v := .ref (g.2.1 7)) X Y fl_7_16 0 (Nat.le_of_ble_eq_true rfl) rfl rfl dX7_promiseMean_14 ?_
    obtain ⟨st14, hc13, h⟩ := bnd1_s h
    refine k_cV Y (k_runV (As := [.ref (g.2.1 1), .ref (g.2.1 7)]) (rest := []) (o := 42) X Y cl_7_258 (c_X6_goWaiting_7 l hc13 _) ⟨rfl, rfl, Nat.le_of_ble_eq_true rfl, Nat.le_of_ble_eq_true rfl⟩ (Nat.le_of_ble_eq_true rfl) rfl rfl hl.1 rfl (Nat.le_of_ble_eq_true rfl) dX7_promiseMean_17 ⟨Nat.zero_le _, Nat.zero_le _⟩) (fun H locs Y => ?_)
    refine lv_aload_n hx hb dX7_promiseMean_20 rfl (lv_at hl 0 rfl) ?_
    refine k_get (v := .ref (g.2.1 42)) X Y fl_7_33 0 (Nat.le_of_ble_eq_true rfl) rfl rfl dX7_promiseMean_21 ?_
    refine lv_aload_n hx hb dX7_promiseMean_24 rfl (lv_at hl 0 rfl) ?_
    refine k_get (v := .ref (g.2.1 1)) X Y fl_7_10 0 (Nat.le_of_ble_eq_true rfl) rfl rfl dX7_promiseMean_25 ?_
    obtain ⟨v16, hc15, h⟩ := bnd1_s h
    refine k_cJ Y (k_runV (As := [.ref (g.2.1 1)]) (rest := []) (o := 42) X Y cl_7_146 (c_X6_mean l hc15 _) ⟨rfl, rfl, Nat.le_of_ble_eq_true rfl, Nat.le_of_ble_eq_true rfl⟩ (Nat.le_of_ble_eq_true rfl) rfl rfl hl.1 rfl (Nat.le_of_ble_eq_true rfl) dX7_promiseMean_28 ⟨Nat.zero_le _, Nat.zero_le _⟩) (fun H locs Y => ?_)
    exact k_lretW X Y h dX7_promiseMean_31
theorem c_X7_promiseMean (l : Launch) {g : Gx} {x1 : Int32} {st : Sg} {r9 : Int64} {st9 : Sg} (h : X7_promiseMean x1 st = some (r9, st9)) : MetJ l yX7_promiseMean cX7_promiseMean 2 (some .long) rm_X7_promiseMean g nwX (ceX g) [.ref (g.2.1 0), .int x1] st r9 st9 :=
  met_of (Qc := fun A => QJ g nwX (ceX g) A r9 st9) (by decide) (Nat.le_of_ble_eq_true rfl) (fun p e s m below meth c A ls X Y hl => w_X7_promiseMean X h Y hl)
def X7_keeps_22   (k1 : Int32) (x1 : Int32) (x2 : Int32) (st : Sg) : Option (Int64 × Sg) :=
  bnd1 (X7_refusalOf k1 st) fun v2 =>
  if v2 = (0 : Int32) then
    bnd2 (X7_promiseMean x1 st) fun v6 st5 =>
    bnd1 (X3_scale (st5.1 1 1) st5) fun v8 =>
    bnd1 (X7_partOf v6 v8 x2) fun v10 =>
    some (v10, st5)
  else
    some ((-1000000000000000000) + (v2.toInt64), st)
def X7_keeps_21   (x1 : Int32) (x2 : Int32) (st : Sg) : Option (Int64 × Sg) :=
  X7_keeps_22 0 x1 x2 st
def X7_keeps   (x1 : Int32) (x2 : Int32) (st : Sg) : Option (Int64 × Sg) :=
  bnd1 (X7_isWithin x1 0 4) fun v2 =>
  if v2 = (0 : Int32) then
    X7_keeps_21 x1 x2 st
  else
    bnd1 (X7_isPart x2) fun v5 =>
    if v5 = (0 : Int32) then
      X7_keeps_21 x1 x2 st
    else
      X7_keeps_22 1 x1 x2 st
abbrev rm_X7_keeps : Room := { frames := 6, cells := 0, slots := 0, locals := 141 }
set_option maxHeartbeats 4000000 in
set_option maxRecDepth 100000 in
theorem w_X7_keeps_22 (X : Cx g p s m args meth c cX7_keeps 4 RX7 (some .long)) {k1 : Int32} {x1 : Int32} {x2 : Int32} {st : Sg} {r9 : Int64} {st9 : Sg}  (h : X7_keeps_22 k1 x1 x2 st = some (r9, st9)) (Y : Hp g nwX (ceX g) A s.heap st H locs)  (hl : lv_has ls 4 [(0, .ref (g.2.1 0)), (1, .int x1), (2, .int x2)]) : W p l e rm_X7_keeps s m args below meth c H locs 0 0 (MQ below (QJ g nwX (ceX g) A r9 st9) args s 0 0 A) (F0 m 22 ls [.int k1, .ref (g.2.1 0)]) := by
  have hx := X.1
  have hb := X.2.1
  unfold X7_keeps_22 at h
  obtain ⟨v2, hc1, h⟩ := bnd1_s h
  refine k_cI Y (k_runV (As := [.int k1]) (rest := []) (o := 0) X Y cl_7_136 (c_X7_refusalOf l hc1 _) ⟨rfl, rfl, Nat.le_of_ble_eq_true rfl, Nat.le_of_ble_eq_true rfl⟩ (Nat.le_of_ble_eq_true rfl) rfl rfl hl.1 rfl (Nat.le_of_ble_eq_true rfl) dX7_keeps_22 ⟨Nat.zero_le _, Nat.zero_le _⟩) (fun H locs Y => ?_)
  refine lv_istore_n (lv' := [(3, .int v2), (0, .ref (g.2.1 0)), (1, .int x1), (2, .int x2)]) hx hb dX7_keeps_25 rfl hl (by decide) rfl (fun ls hl => ?_)
  refine lv_iload_n hx hb dX7_keeps_26 rfl (lv_at hl 0 rfl) ?_
  refine lv_if_eq (tgt := 37) hx hb dX7_keeps_27 (by decide) (fun c3 => ?_) (fun c3 => ?_)
  · have h := ite_t h c3
    refine lv_aload_n hx hb dX7_keeps_37 rfl (lv_at hl 1 rfl) ?_
    refine lv_iload_n hx hb dX7_keeps_38 rfl (lv_at hl 2 rfl) ?_
    obtain ⟨v6, st5, hc4, h⟩ := bnd2_s h
    refine k_cJ Y (k_runV (As := [.int x1]) (rest := []) (o := 0) X Y cl_7_182 (c_X7_promiseMean l hc4 _) ⟨rfl, rfl, Nat.le_of_ble_eq_true rfl, Nat.le_of_ble_eq_true rfl⟩ (Nat.le_of_ble_eq_true rfl) rfl rfl hl.1 rfl (Nat.le_of_ble_eq_true rfl) dX7_keeps_39 ⟨Nat.zero_le _, Nat.zero_le _⟩) (fun H locs Y => ?_)
    refine lv_aload_n hx hb dX7_keeps_42 rfl (lv_at hl 1 rfl) ?_
    refine k_get (v := .ref (g.2.1 1)) X Y fl_7_10 0 (Nat.le_of_ble_eq_true rfl) rfl rfl dX7_keeps_43 ?_
    refine lv_aload_n hx hb dX7_keeps_46 rfl (lv_at hl 1 rfl) ?_
    refine k_get (v := .ref (g.2.1 1)) X Y fl_7_10 0 (Nat.le_of_ble_eq_true rfl) rfl rfl dX7_keeps_47 ?_
    refine k_get (v := .int (st5.1 1 1)) X Y fl_7_88 1 (Nat.le_of_ble_eq_true rfl) rfl rfl dX7_keeps_50 ?_
    obtain ⟨v8, hc7, h⟩ := bnd1_s h
    refine k_cJ Y (k_runV (As := [.int (st5.1 1 1)]) (rest := [.long v6]) (o := 1) X Y cl_7_150 (c_X3_scale l hc7 _) ⟨rfl, rfl, Nat.le_of_ble_eq_true rfl, Nat.le_of_ble_eq_true rfl⟩ (Nat.le_of_ble_eq_true rfl) rfl rfl hl.1 rfl (Nat.le_of_ble_eq_true rfl) dX7_keeps_53 ⟨Nat.zero_le _, Nat.zero_le _⟩) (fun H locs Y => ?_)
    refine lv_iload_n hx hb dX7_keeps_56 rfl (lv_at hl 3 rfl) ?_
    obtain ⟨v10, hc9, h⟩ := bnd1_s h
    refine k_cJ Y (k_runS (As := [.long v6, .long v8, .int x2]) (rest := []) X Y cl_7_154 (c_X7_partOf l hc9 _) ⟨rfl, rfl, Nat.le_of_ble_eq_true rfl, Nat.le_of_ble_eq_true rfl⟩ rfl hl.1 rfl (Nat.le_of_ble_eq_true rfl) dX7_keeps_57 ⟨Nat.zero_le _, Nat.zero_le _⟩) (fun H locs Y => ?_)
    exact k_lretW X Y h dX7_keeps_60
  · have h := ite_f h c3
    refine k_ldc2 X lg_7_140 dX7_keeps_30 ?_
    refine lv_iload_n hx hb dX7_keeps_33 rfl (lv_at hl 0 rfl) ?_
    refine lv_i2l hx hb dX7_keeps_34 rfl ?_
    refine lv_ladd hx hb dX7_keeps_35 ?_
    exact k_lretW X Y h dX7_keeps_36
set_option maxHeartbeats 4000000 in
set_option maxRecDepth 100000 in
theorem w_X7_keeps_21 (X : Cx g p s m args meth c cX7_keeps 4 RX7 (some .long)) {x1 : Int32} {x2 : Int32} {st : Sg} {r9 : Int64} {st9 : Sg}  (h : X7_keeps_21 x1 x2 st = some (r9, st9)) (Y : Hp g nwX (ceX g) A s.heap st H locs)  (hl : lv_has ls 4 [(0, .ref (g.2.1 0)), (1, .int x1), (2, .int x2)]) : W p l e rm_X7_keeps s m args below meth c H locs 0 0 (MQ below (QJ g nwX (ceX g) A r9 st9) args s 0 0 A) (F0 m 21 ls [.ref (g.2.1 0)]) := by
  have hx := X.1
  have hb := X.2.1
  unfold X7_keeps_21 at h
  refine lv_iconst (v := 0) hx hb dX7_keeps_21 (by decide) ?_
  exact w_X7_keeps_22 X  h Y  (lv_sub hl [0, 1, 2] rfl)
set_option maxHeartbeats 4000000 in
set_option maxRecDepth 100000 in
theorem w_X7_keeps (X : Cx g p s m args meth c cX7_keeps 4 RX7 (some .long)) {x1 : Int32} {x2 : Int32} {st : Sg} {r9 : Int64} {st9 : Sg}  (h : X7_keeps x1 x2 st = some (r9, st9)) (Y : Hp g nwX (ceX g) A s.heap st H locs)  (hl : lv_has ls 4 [(0, .ref (g.2.1 0)), (1, .int x1), (2, .int x2)]) : W p l e rm_X7_keeps s m args below meth c H locs 0 0 (MQ below (QJ g nwX (ceX g) A r9 st9) args s 0 0 A) (F0 m 0 ls []) := by
  have hx := X.1
  have hb := X.2.1
  unfold X7_keeps at h
  refine lv_aload_n hx hb dX7_keeps_0 rfl (lv_at hl 0 rfl) ?_
  refine lv_iload_n hx hb dX7_keeps_1 rfl (lv_at hl 1 rfl) ?_
  refine lv_iconst (v := 0) hx hb dX7_keeps_2 (by decide) ?_
  refine lv_iconst (v := 4) hx hb dX7_keeps_3 (by decide) ?_
  obtain ⟨v2, hc1, h⟩ := bnd1_s h
  refine k_cI Y (k_runS (As := [.int x1, .int 0, .int 4]) (rest := [.ref (g.2.1 0)]) X Y cl_7_81 (c_X7_isWithin l hc1 _) ⟨rfl, rfl, Nat.le_of_ble_eq_true rfl, Nat.le_of_ble_eq_true rfl⟩ rfl hl.1 rfl (Nat.le_of_ble_eq_true rfl) dX7_keeps_4 ⟨Nat.zero_le _, Nat.zero_le _⟩) (fun H locs Y => ?_)
  refine lv_if_eq (tgt := 21) hx hb dX7_keeps_7 (by decide) (fun c3 => ?_) (fun c3 => ?_)
  · have h := ite_t h c3
    exact w_X7_keeps_21 X  h Y  (lv_sub hl [0, 1, 2] rfl)
  · have h := ite_f h c3
    refine lv_iload_n hx hb dX7_keeps_10 rfl (lv_at hl 2 rfl) ?_
    obtain ⟨v5, hc4, h⟩ := bnd1_s h
    refine k_cI Y (k_runS (As := [.int x2]) (rest := [.ref (g.2.1 0)]) X Y cl_7_133 (c_X7_isPart l hc4 _) ⟨rfl, rfl, Nat.le_of_ble_eq_true rfl, Nat.le_of_ble_eq_true rfl⟩ rfl hl.1 rfl (Nat.le_of_ble_eq_true rfl) dX7_keeps_11 ⟨Nat.zero_le _, Nat.zero_le _⟩) (fun H locs Y => ?_)
    refine lv_if_eq (tgt := 21) hx hb dX7_keeps_14 (by decide) (fun c6 => ?_) (fun c6 => ?_)
    · have h := ite_t h c6
      exact w_X7_keeps_21 X  h Y  (lv_sub hl [0, 1, 2] rfl)
    · have h := ite_f h c6
      refine lv_iconst (v := 1) hx hb dX7_keeps_17 (by decide) ?_
      refine lv_goto (tgt := 22) hx hb dX7_keeps_18 (by decide) ?_
      exact w_X7_keeps_22 X  h Y  (lv_sub hl [0, 1, 2] rfl)
theorem c_X7_keeps (l : Launch) {g : Gx} {x1 : Int32} {x2 : Int32} {st : Sg} {r9 : Int64} {st9 : Sg} (h : X7_keeps x1 x2 st = some (r9, st9)) : MetJ l yX7_keeps cX7_keeps 4 (some .long) rm_X7_keeps g nwX (ceX g) [.ref (g.2.1 0), .int x1, .int x2] st r9 st9 :=
  met_of (Qc := fun A => QJ g nwX (ceX g) A r9 st9) (by decide) (Nat.le_of_ble_eq_true rfl) (fun p e s m below meth c A ls X Y hl => w_X7_keeps X h Y hl)
def X7_promised   (x1 : Int32) (st : Sg) : Option (Nat × Sg) :=
  if x1 = (2 : Int32) then
    bnd1 (X7_findMet st) fun st6 =>
    some (65, st6)
  else
    bnd1 (X7_findKept st) fun st3 =>
    if x1 = (1 : Int32) then
      some (63, st3)
    else
      some (61, st3)
abbrev rm_X7_promised : Room := { frames := 5, cells := 0, slots := 0, locals := 120 }
set_option maxHeartbeats 4000000 in
set_option maxRecDepth 100000 in
theorem w_X7_promised (X : Cx g p s m args meth c cX7_promised 2 RX7 (some (.object "SaturdaySale$Greatest"))) {x1 : Int32} {st : Sg} {r9 : Nat} {st9 : Sg}  (h : X7_promised x1 st = some (r9, st9)) (Y : Hp g nwX (ceX g) A s.heap st H locs)  (hl : lv_has ls 2 [(0, .ref (g.2.1 0)), (1, .int x1)]) : W p l e rm_X7_promised s m args below meth c H locs 0 0 (MQ below (QA g nwX (ceX g) A r9 st9) args s 0 0 A) (F0 m 0 ls []) := by
  have hx := X.1
  have hb := X.2.1
  unfold X7_promised at h
  refine lv_iload_n hx hb dX7_promised_0 rfl (lv_at hl 1 rfl) ?_
  refine lv_iconst (v := 2) hx hb dX7_promised_1 (by decide) ?_
  refine lv_icmp_ne (tgt := 14) hx hb dX7_promised_2 (by decide) (fun c1 => ?_) (fun c1 => ?_)
  · have h := ite_f h c1
    refine lv_aload_n hx hb dX7_promised_14 rfl (lv_at hl 0 rfl) ?_
    obtain ⟨st3, hc2, h⟩ := bnd1_s h
    refine k_cV Y (k_runV (As := []) (rest := []) (o := 0) X Y cl_7_185 (c_X7_findKept l hc2 _) ⟨rfl, rfl, Nat.le_of_ble_eq_true rfl, Nat.le_of_ble_eq_true rfl⟩ (Nat.le_of_ble_eq_true rfl) rfl rfl hl.1 rfl (Nat.le_of_ble_eq_true rfl) dX7_promised_15 ⟨Nat.zero_le _, Nat.zero_le _⟩) (fun H locs Y => ?_)
    refine lv_iload_n hx hb dX7_promised_18 rfl (lv_at hl 1 rfl) ?_
    refine lv_iconst (v := 1) hx hb dX7_promised_19 (by decide) ?_
    refine lv_icmp_ne (tgt := 30) hx hb dX7_promised_20 (by decide) (fun c4 => ?_) (fun c4 => ?_)
    · have h := ite_f h c4
      refine lv_aload_n hx hb dX7_promised_30 rfl (lv_at hl 0 rfl) ?_
      refine k_get (v := .ref (g.2.1 61)) X Y fl_7_47 0 (Nat.le_of_ble_eq_true rfl) rfl rfl dX7_promised_31 ?_
      exact k_aretW X Y h dX7_promised_34
    · have h := ite_t h c4
      refine lv_aload_n hx hb dX7_promised_23 rfl (lv_at hl 0 rfl) ?_
      refine k_get (v := .ref (g.2.1 63)) X Y fl_7_51 0 (Nat.le_of_ble_eq_true rfl) rfl rfl dX7_promised_24 ?_
      refine lv_goto (tgt := 34) hx hb dX7_promised_27 (by decide) ?_
      exact k_aretW X Y h dX7_promised_34
  · have h := ite_t h c1
    refine lv_aload_n hx hb dX7_promised_5 rfl (lv_at hl 0 rfl) ?_
    obtain ⟨st6, hc5, h⟩ := bnd1_s h
    refine k_cV Y (k_runV (As := []) (rest := []) (o := 0) X Y cl_7_266 (c_X7_findMet l hc5 _) ⟨rfl, rfl, Nat.le_of_ble_eq_true rfl, Nat.le_of_ble_eq_true rfl⟩ (Nat.le_of_ble_eq_true rfl) rfl rfl hl.1 rfl (Nat.le_of_ble_eq_true rfl) dX7_promised_6 ⟨Nat.zero_le _, Nat.zero_le _⟩) (fun H locs Y => ?_)
    refine lv_aload_n hx hb dX7_promised_9 rfl (lv_at hl 0 rfl) ?_
    refine k_get (v := .ref (g.2.1 65)) X Y fl_7_54 0 (Nat.le_of_ble_eq_true rfl) rfl rfl dX7_promised_10 ?_
    exact k_aretW X Y h dX7_promised_13
theorem c_X7_promised (l : Launch) {g : Gx} {x1 : Int32} {st : Sg} {r9 : Nat} {st9 : Sg} (h : X7_promised x1 st = some (r9, st9)) : MetA l yX7_promised cX7_promised 2 (some (.object "SaturdaySale$Greatest")) rm_X7_promised g nwX (ceX g) [.ref (g.2.1 0), .int x1] st r9 st9 :=
  met_of (Qc := fun A => QA g nwX (ceX g) A r9 st9) (by decide) (Nat.le_of_ble_eq_true rfl) (fun p e s m below meth c A ls X Y hl => w_X7_promised X h Y hl)
def X7_kept_23   (k1 : Int32) (x1 : Int32) (x2 : Int32) (st : Sg) : Option (Int32 × Sg) :=
  bnd1 (X7_refusalOf k1 st) fun v2 =>
  if v2 = (0 : Int32) then
    bnd2 (X7_promised x1 st) fun v6 st5 =>
    if v6 = 61 then
      cix x2 6 <|
      some (st5.1 62 x2.toNatClampNeg, st5)
    else
      if v6 = 63 then
        cix x2 6 <|
        some (st5.1 64 x2.toNatClampNeg, st5)
      else
        if v6 = 65 then
          cix x2 6 <|
          some (st5.1 66 x2.toNatClampNeg, st5)
        else
          none
  else
    some (v2, st)
def X7_kept_22   (x1 : Int32) (x2 : Int32) (st : Sg) : Option (Int32 × Sg) :=
  X7_kept_23 0 x1 x2 st
def X7_kept   (x1 : Int32) (x2 : Int32) (st : Sg) : Option (Int32 × Sg) :=
  bnd1 (X7_isWithin x1 0 2) fun v2 =>
  if v2 = (0 : Int32) then
    X7_kept_22 x1 x2 st
  else
    bnd1 (X7_isDay x2 st) fun v5 =>
    if v5 = (0 : Int32) then
      X7_kept_22 x1 x2 st
    else
      X7_kept_23 1 x1 x2 st
abbrev rm_X7_kept : Room := { frames := 6, cells := 0, slots := 0, locals := 141 }
set_option maxHeartbeats 4000000 in
set_option maxRecDepth 100000 in
theorem w_X7_kept_23 (X : Cx g p s m args meth c cX7_kept 4 RX7 (some .int)) {k1 : Int32} {x1 : Int32} {x2 : Int32} {st : Sg} {r9 : Int32} {st9 : Sg}  (h : X7_kept_23 k1 x1 x2 st = some (r9, st9)) (Y : Hp g nwX (ceX g) A s.heap st H locs)  (hl : lv_has ls 4 [(0, .ref (g.2.1 0)), (1, .int x1), (2, .int x2)]) : W p l e rm_X7_kept s m args below meth c H locs 0 0 (MQ below (QI g nwX (ceX g) A r9 st9) args s 0 0 A) (F0 m 23 ls [.int k1, .ref (g.2.1 0)]) := by
  have hx := X.1
  have hb := X.2.1
  unfold X7_kept_23 at h
  obtain ⟨v2, hc1, h⟩ := bnd1_s h
  refine k_cI Y (k_runV (As := [.int k1]) (rest := []) (o := 0) X Y cl_7_136 (c_X7_refusalOf l hc1 _) ⟨rfl, rfl, Nat.le_of_ble_eq_true rfl, Nat.le_of_ble_eq_true rfl⟩ (Nat.le_of_ble_eq_true rfl) rfl rfl hl.1 rfl (Nat.le_of_ble_eq_true rfl) dX7_kept_23 ⟨Nat.zero_le _, Nat.zero_le _⟩) (fun H locs Y => ?_)
  refine lv_istore_n (lv' := [(3, .int v2), (0, .ref (g.2.1 0)), (1, .int x1), (2, .int x2)]) hx hb dX7_kept_26 rfl hl (by decide) rfl (fun ls hl => ?_)
  refine lv_iload_n hx hb dX7_kept_27 rfl (lv_at hl 0 rfl) ?_
  refine lv_if_eq (tgt := 33) hx hb dX7_kept_28 (by decide) (fun c3 => ?_) (fun c3 => ?_)
  · have h := ite_t h c3
    refine lv_aload_n hx hb dX7_kept_33 rfl (lv_at hl 1 rfl) ?_
    refine lv_iload_n hx hb dX7_kept_34 rfl (lv_at hl 2 rfl) ?_
    obtain ⟨v6, st5, hc4, h⟩ := bnd2_s h
    refine k_cA Y (k_runV (As := [.int x1]) (rest := []) (o := 0) X Y cl_7_175 (c_X7_promised l hc4 _) ⟨rfl, rfl, Nat.le_of_ble_eq_true rfl, Nat.le_of_ble_eq_true rfl⟩ (Nat.le_of_ble_eq_true rfl) rfl rfl hl.1 rfl (Nat.le_of_ble_eq_true rfl) dX7_kept_35 ⟨Nat.zero_le _, Nat.zero_le _⟩) (fun H locs Y => ?_)
    by_cases c7 : v6 = 61
    · have h := ite_t h c7
      subst c7
      refine k_get (v := .ref (g.2.1 62)) X Y fl_7_179 61 (Nat.le_of_ble_eq_true rfl) rfl rfl dX7_kept_38 ?_
      refine lv_iload_n hx hb dX7_kept_41 rfl (lv_at hl 3 rfl) ?_
      obtain ⟨i8, h⟩ := cix_s h
      refine k_iald X Y 62 (Nat.le_of_ble_eq_true rfl) (fun _ _ => rfl) i8 dX7_kept_42 ?_
      exact k_iretW X Y h dX7_kept_43
    · have h := ite_f h c7
      by_cases c9 : v6 = 63
      · have h := ite_t h c9
        subst c9
        refine k_get (v := .ref (g.2.1 64)) X Y fl_7_179 63 (Nat.le_of_ble_eq_true rfl) rfl rfl dX7_kept_38 ?_
        refine lv_iload_n hx hb dX7_kept_41 rfl (lv_at hl 3 rfl) ?_
        obtain ⟨i10, h⟩ := cix_s h
        refine k_iald X Y 64 (Nat.le_of_ble_eq_true rfl) (fun _ _ => rfl) i10 dX7_kept_42 ?_
        exact k_iretW X Y h dX7_kept_43
      · have h := ite_f h c9
        by_cases c11 : v6 = 65
        · have h := ite_t h c11
          subst c11
          refine k_get (v := .ref (g.2.1 66)) X Y fl_7_179 65 (Nat.le_of_ble_eq_true rfl) rfl rfl dX7_kept_38 ?_
          refine lv_iload_n hx hb dX7_kept_41 rfl (lv_at hl 3 rfl) ?_
          obtain ⟨i12, h⟩ := cix_s h
          refine k_iald X Y 66 (Nat.le_of_ble_eq_true rfl) (fun _ _ => rfl) i12 dX7_kept_42 ?_
          exact k_iretW X Y h dX7_kept_43
        · have h := ite_f h c11
          exact none_s h
  · have h := ite_f h c3
    refine lv_iload_n hx hb dX7_kept_31 rfl (lv_at hl 0 rfl) ?_
    exact k_iretW X Y h dX7_kept_32
set_option maxHeartbeats 4000000 in
set_option maxRecDepth 100000 in
theorem w_X7_kept_22 (X : Cx g p s m args meth c cX7_kept 4 RX7 (some .int)) {x1 : Int32} {x2 : Int32} {st : Sg} {r9 : Int32} {st9 : Sg}  (h : X7_kept_22 x1 x2 st = some (r9, st9)) (Y : Hp g nwX (ceX g) A s.heap st H locs)  (hl : lv_has ls 4 [(0, .ref (g.2.1 0)), (1, .int x1), (2, .int x2)]) : W p l e rm_X7_kept s m args below meth c H locs 0 0 (MQ below (QI g nwX (ceX g) A r9 st9) args s 0 0 A) (F0 m 22 ls [.ref (g.2.1 0)]) := by
  have hx := X.1
  have hb := X.2.1
  unfold X7_kept_22 at h
  refine lv_iconst (v := 0) hx hb dX7_kept_22 (by decide) ?_
  exact w_X7_kept_23 X  h Y  (lv_sub hl [0, 1, 2] rfl)
set_option maxHeartbeats 4000000 in
set_option maxRecDepth 100000 in
theorem w_X7_kept (X : Cx g p s m args meth c cX7_kept 4 RX7 (some .int)) {x1 : Int32} {x2 : Int32} {st : Sg} {r9 : Int32} {st9 : Sg}  (h : X7_kept x1 x2 st = some (r9, st9)) (Y : Hp g nwX (ceX g) A s.heap st H locs)  (hl : lv_has ls 4 [(0, .ref (g.2.1 0)), (1, .int x1), (2, .int x2)]) : W p l e rm_X7_kept s m args below meth c H locs 0 0 (MQ below (QI g nwX (ceX g) A r9 st9) args s 0 0 A) (F0 m 0 ls []) := by
  have hx := X.1
  have hb := X.2.1
  unfold X7_kept at h
  refine lv_aload_n hx hb dX7_kept_0 rfl (lv_at hl 0 rfl) ?_
  refine lv_iload_n hx hb dX7_kept_1 rfl (lv_at hl 1 rfl) ?_
  refine lv_iconst (v := 0) hx hb dX7_kept_2 (by decide) ?_
  refine lv_iconst (v := 2) hx hb dX7_kept_3 (by decide) ?_
  obtain ⟨v2, hc1, h⟩ := bnd1_s h
  refine k_cI Y (k_runS (As := [.int x1, .int 0, .int 2]) (rest := [.ref (g.2.1 0)]) X Y cl_7_81 (c_X7_isWithin l hc1 _) ⟨rfl, rfl, Nat.le_of_ble_eq_true rfl, Nat.le_of_ble_eq_true rfl⟩ rfl hl.1 rfl (Nat.le_of_ble_eq_true rfl) dX7_kept_4 ⟨Nat.zero_le _, Nat.zero_le _⟩) (fun H locs Y => ?_)
  refine lv_if_eq (tgt := 22) hx hb dX7_kept_7 (by decide) (fun c3 => ?_) (fun c3 => ?_)
  · have h := ite_t h c3
    exact w_X7_kept_22 X  h Y  (lv_sub hl [0, 1, 2] rfl)
  · have h := ite_f h c3
    refine lv_aload_n hx hb dX7_kept_10 rfl (lv_at hl 0 rfl) ?_
    refine lv_iload_n hx hb dX7_kept_11 rfl (lv_at hl 2 rfl) ?_
    obtain ⟨v5, hc4, h⟩ := bnd1_s h
    refine k_cI Y (k_runV (As := [.int x2]) (rest := [.ref (g.2.1 0)]) (o := 0) X Y cl_7_162 (c_X7_isDay l hc4 _) ⟨rfl, rfl, Nat.le_of_ble_eq_true rfl, Nat.le_of_ble_eq_true rfl⟩ (Nat.le_of_ble_eq_true rfl) rfl rfl hl.1 rfl (Nat.le_of_ble_eq_true rfl) dX7_kept_12 ⟨Nat.zero_le _, Nat.zero_le _⟩) (fun H locs Y => ?_)
    refine lv_if_eq (tgt := 22) hx hb dX7_kept_15 (by decide) (fun c6 => ?_) (fun c6 => ?_)
    · have h := ite_t h c6
      exact w_X7_kept_22 X  h Y  (lv_sub hl [0, 1, 2] rfl)
    · have h := ite_f h c6
      refine lv_iconst (v := 1) hx hb dX7_kept_18 (by decide) ?_
      refine lv_goto (tgt := 23) hx hb dX7_kept_19 (by decide) ?_
      exact w_X7_kept_23 X  h Y  (lv_sub hl [0, 1, 2] rfl)
theorem c_X7_kept (l : Launch) {g : Gx} {x1 : Int32} {x2 : Int32} {st : Sg} {r9 : Int32} {st9 : Sg} (h : X7_kept x1 x2 st = some (r9, st9)) : MetI l yX7_kept cX7_kept 4 (some .int) rm_X7_kept g nwX (ceX g) [.ref (g.2.1 0), .int x1, .int x2] st r9 st9 :=
  met_of (Qc := fun A => QI g nwX (ceX g) A r9 st9) (by decide) (Nat.le_of_ble_eq_true rfl) (fun p e s m below meth c A ls X Y hl => w_X7_kept X h Y hl)
def X7_left_28   (k1 : Int32) (x1 : Int32) (x2 : Int32) (st : Sg) : Option (Int64 × Sg) :=
  bnd1 (X7_refusalOf k1 st) fun v2 =>
  if v2 = (0 : Int32) then
    bnd1 (X6_goByPlan 7 0 st) fun st5 =>
    cix (st5.1 1 1) 7 <|
    cix x1 13 <|
    bnd1 (X3_scale (st5.1 1 1) st5) fun v9 =>
    bnd1 (X7_partOf (st5.2 (44 + (st5.1 1 1).toNatClampNeg) x1.toNatClampNeg) v9 x2) fun v11 =>
    some (v11, st5)
  else
    some ((-1000000000000000000) + (v2.toInt64), st)
def X7_left_27   (x1 : Int32) (x2 : Int32) (st : Sg) : Option (Int64 × Sg) :=
  X7_left_28 0 x1 x2 st
def X7_left   (x1 : Int32) (x2 : Int32) (st : Sg) : Option (Int64 × Sg) :=
  bnd1 (X7_isWithin x1 0 (st.1 1 0)) fun v2 =>
  if v2 = (0 : Int32) then
    X7_left_27 x1 x2 st
  else
    bnd1 (X7_isPart x2) fun v5 =>
    if v5 = (0 : Int32) then
      X7_left_27 x1 x2 st
    else
      X7_left_28 1 x1 x2 st
abbrev rm_X7_left : Room := { frames := 3, cells := 0, slots := 0, locals := 74 }
set_option maxHeartbeats 4000000 in
set_option maxRecDepth 100000 in
theorem w_X7_left_28 (X : Cx g p s m args meth c cX7_left 4 RX7 (some .long)) {k1 : Int32} {x1 : Int32} {x2 : Int32} {st : Sg} {r9 : Int64} {st9 : Sg}  (h : X7_left_28 k1 x1 x2 st = some (r9, st9)) (Y : Hp g nwX (ceX g) A s.heap st H locs)  (hl : lv_has ls 4 [(0, .ref (g.2.1 0)), (1, .int x1), (2, .int x2)]) : W p l e rm_X7_left s m args below meth c H locs 0 0 (MQ below (QJ g nwX (ceX g) A r9 st9) args s 0 0 A) (F0 m 28 ls [.int k1, .ref (g.2.1 0)]) := by
  have hx := X.1
  have hb := X.2.1
  unfold X7_left_28 at h
  obtain ⟨v2, hc1, h⟩ := bnd1_s h
  refine k_cI Y (k_runV (As := [.int k1]) (rest := []) (o := 0) X Y cl_7_136 (c_X7_refusalOf l hc1 _) ⟨rfl, rfl, Nat.le_of_ble_eq_true rfl, Nat.le_of_ble_eq_true rfl⟩ (Nat.le_of_ble_eq_true rfl) rfl rfl hl.1 rfl (Nat.le_of_ble_eq_true rfl) dX7_left_28 ⟨Nat.zero_le _, Nat.zero_le _⟩) (fun H locs Y => ?_)
  refine lv_istore_n (lv' := [(3, .int v2), (0, .ref (g.2.1 0)), (1, .int x1), (2, .int x2)]) hx hb dX7_left_31 rfl hl (by decide) rfl (fun ls hl => ?_)
  refine lv_iload_n hx hb dX7_left_32 rfl (lv_at hl 0 rfl) ?_
  refine lv_if_eq (tgt := 43) hx hb dX7_left_33 (by decide) (fun c3 => ?_) (fun c3 => ?_)
  · have h := ite_t h c3
    refine lv_aload_n hx hb dX7_left_43 rfl (lv_at hl 1 rfl) ?_
    refine k_get (v := .ref (g.2.1 42)) X Y fl_7_33 0 (Nat.le_of_ble_eq_true rfl) rfl rfl dX7_left_44 ?_
    refine lv_aload_n hx hb dX7_left_47 rfl (lv_at hl 1 rfl) ?_
    refine k_get (v := .ref (g.2.1 1)) X Y fl_7_10 0 (Nat.le_of_ble_eq_true rfl) rfl rfl dX7_left_48 ?_
    refine lv_aload_n hx hb dX7_left_51 rfl (lv_at hl 1 rfl) ?_
    refine k_get (v := .ref (g.2.1 7)) X Y fl_7_16 0 (Nat.le_of_ble_eq_true rfl) rfl rfl dX7_left_52 ?_
    refine lv_iconst (v := 0) hx hb dX7_left_55 (by decide) ?_
    obtain ⟨st5, hc4, h⟩ := bnd1_s h
    refine k_cV Y (k_runV (As := [.ref (g.2.1 1), .ref (g.2.1 7), .int 0]) (rest := []) (o := 42) X Y cl_7_142 (c_X6_goByPlan_7 l hc4 _) ⟨rfl, rfl, Nat.le_of_ble_eq_true rfl, Nat.le_of_ble_eq_true rfl⟩ (Nat.le_of_ble_eq_true rfl) rfl rfl hl.1 rfl (Nat.le_of_ble_eq_true rfl) dX7_left_56 ⟨Nat.zero_le _, Nat.zero_le _⟩) (fun H locs Y => ?_)
    refine lv_aload_n hx hb dX7_left_59 rfl (lv_at hl 1 rfl) ?_
    refine k_get (v := .ref (g.2.1 42)) X Y fl_7_33 0 (Nat.le_of_ble_eq_true rfl) rfl rfl dX7_left_60 ?_
    refine k_get (v := .ref (g.2.1 43)) X Y fl_7_158 42 (Nat.le_of_ble_eq_true rfl) rfl rfl dX7_left_63 ?_
    refine lv_aload_n hx hb dX7_left_66 rfl (lv_at hl 1 rfl) ?_
    refine k_get (v := .ref (g.2.1 1)) X Y fl_7_10 0 (Nat.le_of_ble_eq_true rfl) rfl rfl dX7_left_67 ?_
    refine k_get (v := .int (st5.1 1 1)) X Y fl_7_88 1 (Nat.le_of_ble_eq_true rfl) rfl rfl dX7_left_70 ?_
    obtain ⟨i6, h⟩ := cix_s h
    refine k_aaldJ (b := 44) X Y 43 (Nat.le_of_ble_eq_true rfl) (fun _ _ => rfl) i6 dX7_left_73 ?_
    refine lv_iload_n hx hb dX7_left_74 rfl (lv_at hl 2 rfl) ?_
    obtain ⟨i7, h⟩ := cix_s h
    refine k_lald X Y (44 + (st5.1 1 1).toNatClampNeg) (row_lt i6 (Nat.le_of_ble_eq_true rfl)) (rowX_44 _ (vp_lt i6)) i7 dX7_left_75 ?_
    refine lv_aload_n hx hb dX7_left_76 rfl (lv_at hl 1 rfl) ?_
    refine k_get (v := .ref (g.2.1 1)) X Y fl_7_10 0 (Nat.le_of_ble_eq_true rfl) rfl rfl dX7_left_77 ?_
    refine lv_aload_n hx hb dX7_left_80 rfl (lv_at hl 1 rfl) ?_
    refine k_get (v := .ref (g.2.1 1)) X Y fl_7_10 0 (Nat.le_of_ble_eq_true rfl) rfl rfl dX7_left_81 ?_
    refine k_get (v := .int (st5.1 1 1)) X Y fl_7_88 1 (Nat.le_of_ble_eq_true rfl) rfl rfl dX7_left_84 ?_
    obtain ⟨v9, hc8, h⟩ := bnd1_s h
    refine k_cJ Y (k_runV (As := [.int (st5.1 1 1)]) (rest := [.long (st5.2 (44 + (st5.1 1 1).toNatClampNeg) x1.toNatClampNeg)]) (o := 1) X Y cl_7_150 (c_X3_scale l hc8 _) ⟨rfl, rfl, Nat.le_of_ble_eq_true rfl, Nat.le_of_ble_eq_true rfl⟩ (Nat.le_of_ble_eq_true rfl) rfl rfl hl.1 rfl (Nat.le_of_ble_eq_true rfl) dX7_left_87 ⟨Nat.zero_le _, Nat.zero_le _⟩) (fun H locs Y => ?_)
    refine lv_iload_n hx hb dX7_left_90 rfl (lv_at hl 3 rfl) ?_
    obtain ⟨v11, hc10, h⟩ := bnd1_s h
    refine k_cJ Y (k_runS (As := [.long (st5.2 (44 + (st5.1 1 1).toNatClampNeg) x1.toNatClampNeg), .long v9, .int x2]) (rest := []) X Y cl_7_154 (c_X7_partOf l hc10 _) ⟨rfl, rfl, Nat.le_of_ble_eq_true rfl, Nat.le_of_ble_eq_true rfl⟩ rfl hl.1 rfl (Nat.le_of_ble_eq_true rfl) dX7_left_91 ⟨Nat.zero_le _, Nat.zero_le _⟩) (fun H locs Y => ?_)
    exact k_lretW X Y h dX7_left_94
  · have h := ite_f h c3
    refine k_ldc2 X lg_7_140 dX7_left_36 ?_
    refine lv_iload_n hx hb dX7_left_39 rfl (lv_at hl 0 rfl) ?_
    refine lv_i2l hx hb dX7_left_40 rfl ?_
    refine lv_ladd hx hb dX7_left_41 ?_
    exact k_lretW X Y h dX7_left_42
set_option maxHeartbeats 4000000 in
set_option maxRecDepth 100000 in
theorem w_X7_left_27 (X : Cx g p s m args meth c cX7_left 4 RX7 (some .long)) {x1 : Int32} {x2 : Int32} {st : Sg} {r9 : Int64} {st9 : Sg}  (h : X7_left_27 x1 x2 st = some (r9, st9)) (Y : Hp g nwX (ceX g) A s.heap st H locs)  (hl : lv_has ls 4 [(0, .ref (g.2.1 0)), (1, .int x1), (2, .int x2)]) : W p l e rm_X7_left s m args below meth c H locs 0 0 (MQ below (QJ g nwX (ceX g) A r9 st9) args s 0 0 A) (F0 m 27 ls [.ref (g.2.1 0)]) := by
  have hx := X.1
  have hb := X.2.1
  unfold X7_left_27 at h
  refine lv_iconst (v := 0) hx hb dX7_left_27 (by decide) ?_
  exact w_X7_left_28 X  h Y  (lv_sub hl [0, 1, 2] rfl)
set_option maxHeartbeats 4000000 in
set_option maxRecDepth 100000 in
theorem w_X7_left (X : Cx g p s m args meth c cX7_left 4 RX7 (some .long)) {x1 : Int32} {x2 : Int32} {st : Sg} {r9 : Int64} {st9 : Sg}  (h : X7_left x1 x2 st = some (r9, st9)) (Y : Hp g nwX (ceX g) A s.heap st H locs)  (hl : lv_has ls 4 [(0, .ref (g.2.1 0)), (1, .int x1), (2, .int x2)]) : W p l e rm_X7_left s m args below meth c H locs 0 0 (MQ below (QJ g nwX (ceX g) A r9 st9) args s 0 0 A) (F0 m 0 ls []) := by
  have hx := X.1
  have hb := X.2.1
  unfold X7_left at h
  refine lv_aload_n hx hb dX7_left_0 rfl (lv_at hl 0 rfl) ?_
  refine lv_iload_n hx hb dX7_left_1 rfl (lv_at hl 1 rfl) ?_
  refine lv_iconst (v := 0) hx hb dX7_left_2 (by decide) ?_
  refine lv_aload_n hx hb dX7_left_3 rfl (lv_at hl 0 rfl) ?_
  refine k_get (v := .ref (g.2.1 1)) X Y fl_7_10 0 (Nat.le_of_ble_eq_true rfl) rfl rfl dX7_left_4 ?_
  refine k_get (v := .int (st.1 1 0)) X Y fl_7_85 1 (Nat.le_of_ble_eq_true rfl) rfl rfl dX7_left_7 ?_
  obtain ⟨v2, hc1, h⟩ := bnd1_s h
  refine k_cI Y (k_runS (As := [.int x1, .int 0, .int (st.1 1 0)]) (rest := [.ref (g.2.1 0)]) X Y cl_7_81 (c_X7_isWithin l hc1 _) ⟨rfl, rfl, Nat.le_of_ble_eq_true rfl, Nat.le_of_ble_eq_true rfl⟩ rfl hl.1 rfl (Nat.le_of_ble_eq_true rfl) dX7_left_10 ⟨Nat.zero_le _, Nat.zero_le _⟩) (fun H locs Y => ?_)
  refine lv_if_eq (tgt := 27) hx hb dX7_left_13 (by decide) (fun c3 => ?_) (fun c3 => ?_)
  · have h := ite_t h c3
    exact w_X7_left_27 X  h Y  (lv_sub hl [0, 1, 2] rfl)
  · have h := ite_f h c3
    refine lv_iload_n hx hb dX7_left_16 rfl (lv_at hl 2 rfl) ?_
    obtain ⟨v5, hc4, h⟩ := bnd1_s h
    refine k_cI Y (k_runS (As := [.int x2]) (rest := [.ref (g.2.1 0)]) X Y cl_7_133 (c_X7_isPart l hc4 _) ⟨rfl, rfl, Nat.le_of_ble_eq_true rfl, Nat.le_of_ble_eq_true rfl⟩ rfl hl.1 rfl (Nat.le_of_ble_eq_true rfl) dX7_left_17 ⟨Nat.zero_le _, Nat.zero_le _⟩) (fun H locs Y => ?_)
    refine lv_if_eq (tgt := 27) hx hb dX7_left_20 (by decide) (fun c6 => ?_) (fun c6 => ?_)
    · have h := ite_t h c6
      exact w_X7_left_27 X  h Y  (lv_sub hl [0, 1, 2] rfl)
    · have h := ite_f h c6
      refine lv_iconst (v := 1) hx hb dX7_left_23 (by decide) ?_
      refine lv_goto (tgt := 28) hx hb dX7_left_24 (by decide) ?_
      exact w_X7_left_28 X  h Y  (lv_sub hl [0, 1, 2] rfl)
theorem c_X7_left (l : Launch) {g : Gx} {x1 : Int32} {x2 : Int32} {st : Sg} {r9 : Int64} {st9 : Sg} (h : X7_left x1 x2 st = some (r9, st9)) : MetJ l yX7_left cX7_left 4 (some .long) rm_X7_left g nwX (ceX g) [.ref (g.2.1 0), .int x1, .int x2] st r9 st9 :=
  met_of (Qc := fun A => QJ g nwX (ceX g) A r9 st9) (by decide) (Nat.le_of_ble_eq_true rfl) (fun p e s m below meth c A ls X Y hl => w_X7_left X h Y hl)
def X7_made_97  (rc46 : Int32 → Int32 → Sg → Option (Int32 × Sg)) (x3 : Int64) (x5 : Int32) (x6 : Int32) (st : Sg) : Option (Int32 × Sg) :=
  nm (x6 + 1) fun v1 =>
  rc46 x5 v1 st
def X7_made_103   (x5 : Int32) (st : Sg) : Option (Int32 × Sg) :=
  some (x5, st)
def X7_made_46b  (rc46 : Int32 → Int32 → Sg → Option (Int32 × Sg)) (x3 : Int64) (x5 : Int32) (x6 : Int32) (st : Sg) : Option (Int32 × Sg) :=
  if (12 : Int32) < x6 then
    X7_made_103 x5 st
  else
    cix 0 7 <|
    cix x6 13 <|
    cix 0 7 <|
    cix x5 13 <|
    if (lg_cmp ((st.2 (10 + ((0 : Int32)).toNatClampNeg) x6.toNatClampNeg) - (x3 * (x6.toInt64))) ((st.2 (10 + ((0 : Int32)).toNatClampNeg) x5.toNatClampNeg) - (x3 * (x5.toInt64)))) ≤ (0 : Int32) then
      X7_made_97 rc46 x3 x5 x6 st
    else
      X7_made_97 rc46 x3 x6 x6 st
def X7_made_46   (x3 : Int64) : Nat → Int32 → Int32 → Sg → Option (Int32 × Sg)
  | 0, _, _, _ => none
  | k + 1, x5, x6, st => X7_made_46b   (X7_made_46 x3 k) x3 x5 x6 st
def X7_made   (x1 : Int32) (st : Sg) : Option (Int32 × Sg) :=
  bnd1 (X7_isWithin x1 0 99) fun v2 =>
  bnd1 (X7_refusalOf v2 st) fun v4 =>
  if v4 = (0 : Int32) then
    bnd1 (X7_findBest st) fun st7 =>
    bnd1 (X3_scale (st7.1 1 1) st7) fun v9 =>
    nm ((x1.toInt64) * v9) fun v10 =>
    X7_made_46 v10 FU 0 1 st7
  else
    some (v4, st)
abbrev rm_X7_made : Room := { frames := 5, cells := 0, slots := 0, locals := 115 }
set_option maxHeartbeats 4000000 in
set_option maxRecDepth 100000 in
theorem w_X7_made_97 (X : Cx g p s m args meth c cX7_made 7 RX7 (some .int)) {x3 : Int64} {x5 : Int32} {x6 : Int32} {st : Sg} {r9 : Int32} {st9 : Sg} (rc46 : Int32 → Int32 → Sg → Option (Int32 × Sg)) (hrc46 : ∀ (x5 : Int32) (x6 : Int32) (st : Sg) (ls : Array Slot) (H : Heap) (locs : List Loc), rc46 x5 x6 st = some (r9, st9) → Hp g nwX (ceX g) A s.heap st H locs → lv_has ls 7 [(0, .ref (g.2.1 0)), (3, .long x3), (5, .int x5), (6, .int x6)] → W p l e rm_X7_made s m args below meth c H locs 0 0 (MQ below (QI g nwX (ceX g) A r9 st9) args s 0 0 A) (F0 m 46 ls [])) (h : X7_made_97 rc46 x3 x5 x6 st = some (r9, st9)) (Y : Hp g nwX (ceX g) A s.heap st H locs)  (hl : lv_has ls 7 [(0, .ref (g.2.1 0)), (3, .long x3), (5, .int x5), (6, .int x6)]) : W p l e rm_X7_made s m args below meth c H locs 0 0 (MQ below (QI g nwX (ceX g) A r9 st9) args s 0 0 A) (F0 m 97 ls []) := by
  have hx := X.1
  have hb := X.2.1
  unfold X7_made_97 at h
  obtain ⟨v1, ev1, h⟩ := nm_s h
  refine lv_iinc (v := v1) (lv' := [(6, .int v1), (0, .ref (g.2.1 0)), (3, .long x3), (5, .int x5)]) hx hb dX7_made_97 hl (k := 3) rfl (by rw [ev1]; rfl) (by decide) rfl (fun ls hl => ?_)
  refine lv_goto (tgt := 46) hx hb dX7_made_100 (by decide) ?_
  exact hrc46 x5 v1 st _ _ _ h Y (lv_sub hl [1, 2, 3, 0] rfl)
set_option maxHeartbeats 4000000 in
set_option maxRecDepth 100000 in
theorem w_X7_made_103 (X : Cx g p s m args meth c cX7_made 7 RX7 (some .int)) {x5 : Int32} {st : Sg} {r9 : Int32} {st9 : Sg}  (h : X7_made_103 x5 st = some (r9, st9)) (Y : Hp g nwX (ceX g) A s.heap st H locs)  (hl : lv_has ls 7 [(5, .int x5)]) : W p l e rm_X7_made s m args below meth c H locs 0 0 (MQ below (QI g nwX (ceX g) A r9 st9) args s 0 0 A) (F0 m 103 ls []) := by
  have hx := X.1
  have hb := X.2.1
  unfold X7_made_103 at h
  refine lv_iload hx hb dX7_made_103 (lv_at hl 0 rfl) ?_
  exact k_iretW X Y h dX7_made_105
set_option maxHeartbeats 4000000 in
set_option maxRecDepth 100000 in
theorem w_X7_made_46b (X : Cx g p s m args meth c cX7_made 7 RX7 (some .int)) {x3 : Int64} {x5 : Int32} {x6 : Int32} {st : Sg} {r9 : Int32} {st9 : Sg} (rc46 : Int32 → Int32 → Sg → Option (Int32 × Sg)) (hrc46 : ∀ (x5 : Int32) (x6 : Int32) (st : Sg) (ls : Array Slot) (H : Heap) (locs : List Loc), rc46 x5 x6 st = some (r9, st9) → Hp g nwX (ceX g) A s.heap st H locs → lv_has ls 7 [(0, .ref (g.2.1 0)), (3, .long x3), (5, .int x5), (6, .int x6)] → W p l e rm_X7_made s m args below meth c H locs 0 0 (MQ below (QI g nwX (ceX g) A r9 st9) args s 0 0 A) (F0 m 46 ls [])) (h : X7_made_46b rc46 x3 x5 x6 st = some (r9, st9)) (Y : Hp g nwX (ceX g) A s.heap st H locs)  (hl : lv_has ls 7 [(0, .ref (g.2.1 0)), (3, .long x3), (5, .int x5), (6, .int x6)]) : W p l e rm_X7_made s m args below meth c H locs 0 0 (MQ below (QI g nwX (ceX g) A r9 st9) args s 0 0 A) (F0 m 46 ls []) := by
  have hx := X.1
  have hb := X.2.1
  unfold X7_made_46b at h
  refine lv_iload hx hb dX7_made_46 (lv_at hl 3 rfl) ?_
  refine lv_bipush (v := 12) hx hb dX7_made_48 (by decide) ?_
  refine lv_icmp_gt (tgt := 103) hx hb dX7_made_50 (by decide) (fun c1 => ?_) (fun c1 => ?_)
  · have h := ite_t h c1
    exact w_X7_made_103 X  h Y  (lv_sub hl [2] rfl)
  · have h := ite_f h c1
    refine lv_aload_n hx hb dX7_made_53 rfl (lv_at hl 0 rfl) ?_
    refine k_get (v := .ref (g.2.1 8)) X Y fl_7_23 0 (Nat.le_of_ble_eq_true rfl) rfl rfl dX7_made_54 ?_
    refine k_get (v := .ref (g.2.1 9)) X Y fl_7_172 8 (Nat.le_of_ble_eq_true rfl) rfl rfl dX7_made_57 ?_
    refine lv_iconst (v := 0) hx hb dX7_made_60 (by decide) ?_
    obtain ⟨i2, h⟩ := cix_s h
    refine k_aaldJ (b := 10) X Y 9 (Nat.le_of_ble_eq_true rfl) (fun _ _ => rfl) i2 dX7_made_61 ?_
    refine lv_iload hx hb dX7_made_62 (lv_at hl 3 rfl) ?_
    obtain ⟨i3, h⟩ := cix_s h
    refine k_lald X Y (10 + ((0 : Int32)).toNatClampNeg) (row_lt i2 (Nat.le_of_ble_eq_true rfl)) (rowX_10 _ (vp_lt i2)) i3 dX7_made_64 ?_
    refine lv_lload_n hx hb dX7_made_65 rfl (lv_at hl 1 rfl) ?_
    refine lv_iload hx hb dX7_made_66 (lv_at hl 3 rfl) ?_
    refine lv_i2l hx hb dX7_made_68 rfl ?_
    refine lv_lmul hx hb dX7_made_69 ?_
    refine lv_lsub hx hb dX7_made_70 ?_
    refine lv_aload_n hx hb dX7_made_71 rfl (lv_at hl 0 rfl) ?_
    refine k_get (v := .ref (g.2.1 8)) X Y fl_7_23 0 (Nat.le_of_ble_eq_true rfl) rfl rfl dX7_made_72 ?_
    refine k_get (v := .ref (g.2.1 9)) X Y fl_7_172 8 (Nat.le_of_ble_eq_true rfl) rfl rfl dX7_made_75 ?_
    refine lv_iconst (v := 0) hx hb dX7_made_78 (by decide) ?_
    obtain ⟨i4, h⟩ := cix_s h
    refine k_aaldJ (b := 10) X Y 9 (Nat.le_of_ble_eq_true rfl) (fun _ _ => rfl) i4 dX7_made_79 ?_
    refine lv_iload hx hb dX7_made_80 (lv_at hl 2 rfl) ?_
    obtain ⟨i5, h⟩ := cix_s h
    refine k_lald X Y (10 + ((0 : Int32)).toNatClampNeg) (row_lt i4 (Nat.le_of_ble_eq_true rfl)) (rowX_10 _ (vp_lt i4)) i5 dX7_made_82 ?_
    refine lv_lload_n hx hb dX7_made_83 rfl (lv_at hl 1 rfl) ?_
    refine lv_iload hx hb dX7_made_84 (lv_at hl 2 rfl) ?_
    refine lv_i2l hx hb dX7_made_86 rfl ?_
    refine lv_lmul hx hb dX7_made_87 ?_
    refine lv_lsub hx hb dX7_made_88 ?_
    refine W.lcmp hx hb dX7_made_89 ?_
    refine lv_if_le (tgt := 97) hx hb dX7_made_90 (by decide) (fun c6 => ?_) (fun c6 => ?_)
    · have h := ite_t h c6
      exact w_X7_made_97 X rc46 hrc46 h Y  (lv_sub hl [0, 1, 2, 3] rfl)
    · have h := ite_f h c6
      refine lv_iload hx hb dX7_made_93 (lv_at hl 3 rfl) ?_
      refine lv_istore (lv' := [(5, .int x6), (0, .ref (g.2.1 0)), (3, .long x3), (6, .int x6)]) hx hb dX7_made_95 hl (by decide) rfl (fun ls hl => ?_)
      exact w_X7_made_97 X rc46 hrc46 h Y  (lv_sub hl [1, 2, 0, 3] rfl)
theorem w_X7_made_46 (X : Cx g p s m args meth c cX7_made 7 RX7 (some .int)) {x3 : Int64}  {r9 : Int32} {st9 : Sg}   : ∀ (k : Nat) (x5 : Int32) (x6 : Int32) (st : Sg) (ls : Array Slot) (H : Heap) (locs : List Loc), X7_made_46 x3 k x5 x6 st = some (r9, st9) → Hp g nwX (ceX g) A s.heap st H locs → lv_has ls 7 [(0, .ref (g.2.1 0)), (3, .long x3), (5, .int x5), (6, .int x6)] → W p l e rm_X7_made s m args below meth c H locs 0 0 (MQ below (QI g nwX (ceX g) A r9 st9) args s 0 0 A) (F0 m 46 ls []) := by
  intro k
  induction k with
  | zero =>
    intro x5 x6 st ls H locs h
    exact none_s h
  | succ k ih =>
    intro x5 x6 st ls H locs h Y hl
    exact w_X7_made_46b X  (X7_made_46 x3 k) ih h Y  hl
set_option maxHeartbeats 4000000 in
set_option maxRecDepth 100000 in
theorem w_X7_made (X : Cx g p s m args meth c cX7_made 7 RX7 (some .int)) {x1 : Int32} {st : Sg} {r9 : Int32} {st9 : Sg}  (h : X7_made x1 st = some (r9, st9)) (Y : Hp g nwX (ceX g) A s.heap st H locs)  (hl : lv_has ls 7 [(0, .ref (g.2.1 0)), (1, .int x1)]) : W p l e rm_X7_made s m args below meth c H locs 0 0 (MQ below (QI g nwX (ceX g) A r9 st9) args s 0 0 A) (F0 m 0 ls []) := by
  have hx := X.1
  have hb := X.2.1
  unfold X7_made at h
  refine lv_aload_n hx hb dX7_made_0 rfl (lv_at hl 0 rfl) ?_
  refine lv_iload_n hx hb dX7_made_1 rfl (lv_at hl 1 rfl) ?_
  refine lv_iconst (v := 0) hx hb dX7_made_2 (by decide) ?_
  refine lv_bipush (v := 99) hx hb dX7_made_3 (by decide) ?_
  obtain ⟨v2, hc1, h⟩ := bnd1_s h
  refine k_cI Y (k_runS (As := [.int x1, .int 0, .int 99]) (rest := [.ref (g.2.1 0)]) X Y cl_7_81 (c_X7_isWithin l hc1 _) ⟨rfl, rfl, Nat.le_of_ble_eq_true rfl, Nat.le_of_ble_eq_true rfl⟩ rfl hl.1 rfl (Nat.le_of_ble_eq_true rfl) dX7_made_5 ⟨Nat.zero_le _, Nat.zero_le _⟩) (fun H locs Y => ?_)
  obtain ⟨v4, hc3, h⟩ := bnd1_s h
  refine k_cI Y (k_runV (As := [.int v2]) (rest := []) (o := 0) X Y cl_7_136 (c_X7_refusalOf l hc3 _) ⟨rfl, rfl, Nat.le_of_ble_eq_true rfl, Nat.le_of_ble_eq_true rfl⟩ (Nat.le_of_ble_eq_true rfl) rfl rfl hl.1 rfl (Nat.le_of_ble_eq_true rfl) dX7_made_8 ⟨Nat.zero_le _, Nat.zero_le _⟩) (fun H locs Y => ?_)
  refine lv_istore_n (lv' := [(2, .int v4), (0, .ref (g.2.1 0)), (1, .int x1)]) hx hb dX7_made_11 rfl hl (by decide) rfl (fun ls hl => ?_)
  refine lv_iload_n hx hb dX7_made_12 rfl (lv_at hl 0 rfl) ?_
  refine lv_if_eq (tgt := 18) hx hb dX7_made_13 (by decide) (fun c5 => ?_) (fun c5 => ?_)
  · have h := ite_t h c5
    refine lv_aload_n hx hb dX7_made_18 rfl (lv_at hl 1 rfl) ?_
    obtain ⟨st7, hc6, h⟩ := bnd1_s h
    refine k_cV Y (k_runV (As := []) (rest := []) (o := 0) X Y cl_7_165 (c_X7_findBest l hc6 _) ⟨rfl, rfl, Nat.le_of_ble_eq_true rfl, Nat.le_of_ble_eq_true rfl⟩ (Nat.le_of_ble_eq_true rfl) rfl rfl hl.1 rfl (Nat.le_of_ble_eq_true rfl) dX7_made_19 ⟨Nat.zero_le _, Nat.zero_le _⟩) (fun H locs Y => ?_)
    refine lv_iload_n hx hb dX7_made_22 rfl (lv_at hl 2 rfl) ?_
    refine lv_i2l hx hb dX7_made_23 rfl ?_
    refine lv_aload_n hx hb dX7_made_24 rfl (lv_at hl 1 rfl) ?_
    refine k_get (v := .ref (g.2.1 1)) X Y fl_7_10 0 (Nat.le_of_ble_eq_true rfl) rfl rfl dX7_made_25 ?_
    refine lv_aload_n hx hb dX7_made_28 rfl (lv_at hl 1 rfl) ?_
    refine k_get (v := .ref (g.2.1 1)) X Y fl_7_10 0 (Nat.le_of_ble_eq_true rfl) rfl rfl dX7_made_29 ?_
    refine k_get (v := .int (st7.1 1 1)) X Y fl_7_88 1 (Nat.le_of_ble_eq_true rfl) rfl rfl dX7_made_32 ?_
    obtain ⟨v9, hc8, h⟩ := bnd1_s h
    refine k_cJ Y (k_runV (As := [.int (st7.1 1 1)]) (rest := [.long (x1.toInt64)]) (o := 1) X Y cl_7_150 (c_X3_scale l hc8 _) ⟨rfl, rfl, Nat.le_of_ble_eq_true rfl, Nat.le_of_ble_eq_true rfl⟩ (Nat.le_of_ble_eq_true rfl) rfl rfl hl.1 rfl (Nat.le_of_ble_eq_true rfl) dX7_made_35 ⟨Nat.zero_le _, Nat.zero_le _⟩) (fun H locs Y => ?_)
    refine lv_lmul hx hb dX7_made_38 ?_
    obtain ⟨v10, ev10, h⟩ := nm_s h
    refine k_nmJ ev10 ?_
    refine lv_lstore_n (lv' := [(3, .long v10), (2, .int v4), (0, .ref (g.2.1 0)), (1, .int x1)]) hx hb dX7_made_39 rfl hl (by decide) rfl (fun ls hl => ?_)
    refine lv_iconst (v := 0) hx hb dX7_made_40 (by decide) ?_
    refine lv_istore (lv' := [(5, .int 0), (3, .long v10), (2, .int v4), (0, .ref (g.2.1 0)), (1, .int x1)]) hx hb dX7_made_41 hl (by decide) rfl (fun ls hl => ?_)
    refine lv_iconst (v := 1) hx hb dX7_made_43 (by decide) ?_
    refine lv_istore (lv' := [(6, .int 1), (5, .int 0), (3, .long v10), (2, .int v4), (0, .ref (g.2.1 0)), (1, .int x1)]) hx hb dX7_made_44 hl (by decide) rfl (fun ls hl => ?_)
    exact w_X7_made_46 X   FU 0 1 st7 _ _ _ h Y (lv_sub hl [4, 2, 1, 0] rfl)
  · have h := ite_f h c5
    refine lv_iload_n hx hb dX7_made_16 rfl (lv_at hl 0 rfl) ?_
    exact k_iretW X Y h dX7_made_17
theorem c_X7_made (l : Launch) {g : Gx} {x1 : Int32} {st : Sg} {r9 : Int32} {st9 : Sg} (h : X7_made x1 st = some (r9, st9)) : MetI l yX7_made cX7_made 7 (some .int) rm_X7_made g nwX (ceX g) [.ref (g.2.1 0), .int x1] st r9 st9 :=
  met_of (Qc := fun A => QI g nwX (ceX g) A r9 st9) (by decide) (Nat.le_of_ble_eq_true rfl) (fun p e s m below meth c A ls X Y hl => w_X7_made X h Y hl)
def X7_picks_58   (k0 : Int32) (st : Sg) : Option Int32 :=
  some k0
def X7_picks   (x1 : Int32) (x2 : Int32) (st : Sg) : Option Int32 :=
  bnd1 (X3_isSort x1 st) fun v2 =>
  if v2 = (0 : Int32) then
    some (-1)
  else
    bnd1 (X7_isDay x2 st) fun v5 =>
    bnd1 (X7_refusalOf v5 st) fun v7 =>
    if v7 = (0 : Int32) then
      bnd1 (X3_isWaiting x1 st) fun v10 =>
      if v10 = (0 : Int32) then
        X7_picks_58 (-5) st
      else
        bnd1 (X3_dayPicked 7 x1 x2 st) fun v13 =>
        X7_picks_58 v13 st
    else
      some v7
abbrev rm_X7_picks : Room := { frames := 2, cells := 0, slots := 0, locals := 50 }
set_option maxHeartbeats 4000000 in
set_option maxRecDepth 100000 in
theorem w_X7_picks_58 (X : Cx g p s m args meth c cX7_picks 4 RX7 (some .int)) {k0 : Int32} {st : Sg} {r9 : Int32}  (h : X7_picks_58 k0 st = some r9) (Y : Hp g nwX (ceX g) A s.heap st H locs)  (hl : lv_has ls 4 []) : W p l e rm_X7_picks s m args below meth c H locs 0 0 (MQ below (QI g nwX (ceX g) A r9 st) args s 0 0 A) (F0 m 58 ls [.int k0]) := by
  have hx := X.1
  have hb := X.2.1
  unfold X7_picks_58 at h
  exact k_iretR X Y h dX7_picks_58
set_option maxHeartbeats 4000000 in
set_option maxRecDepth 100000 in
theorem w_X7_picks (X : Cx g p s m args meth c cX7_picks 4 RX7 (some .int)) {x1 : Int32} {x2 : Int32} {st : Sg} {r9 : Int32}  (h : X7_picks x1 x2 st = some r9) (Y : Hp g nwX (ceX g) A s.heap st H locs)  (hl : lv_has ls 4 [(0, .ref (g.2.1 0)), (1, .int x1), (2, .int x2)]) : W p l e rm_X7_picks s m args below meth c H locs 0 0 (MQ below (QI g nwX (ceX g) A r9 st) args s 0 0 A) (F0 m 0 ls []) := by
  have hx := X.1
  have hb := X.2.1
  unfold X7_picks at h
  refine lv_aload_n hx hb dX7_picks_0 rfl (lv_at hl 0 rfl) ?_
  refine k_get (v := .ref (g.2.1 1)) X Y fl_7_10 0 (Nat.le_of_ble_eq_true rfl) rfl rfl dX7_picks_1 ?_
  refine lv_iload_n hx hb dX7_picks_4 rfl (lv_at hl 1 rfl) ?_
  obtain ⟨v2, hc1, h⟩ := bnd1_s h
  refine k_cI Y (k_runV (As := [.int x1]) (rest := []) (o := 1) X Y cl_7_118 (c_X3_isSort l hc1 _) ⟨rfl, rfl, Nat.le_of_ble_eq_true rfl, Nat.le_of_ble_eq_true rfl⟩ (Nat.le_of_ble_eq_true rfl) rfl rfl hl.1 rfl (Nat.le_of_ble_eq_true rfl) dX7_picks_5 ⟨Nat.zero_le _, Nat.zero_le _⟩) (fun H locs Y => ?_)
  refine lv_if_ne (tgt := 13) hx hb dX7_picks_8 (by decide) (fun c3 => ?_) (fun c3 => ?_)
  · have h := ite_f h c3
    refine lv_aload_n hx hb dX7_picks_13 rfl (lv_at hl 0 rfl) ?_
    refine lv_aload_n hx hb dX7_picks_14 rfl (lv_at hl 0 rfl) ?_
    refine lv_iload_n hx hb dX7_picks_15 rfl (lv_at hl 2 rfl) ?_
    obtain ⟨v5, hc4, h⟩ := bnd1_s h
    refine k_cI Y (k_runV (As := [.int x2]) (rest := [.ref (g.2.1 0)]) (o := 0) X Y cl_7_162 (c_X7_isDay l hc4 _) ⟨rfl, rfl, Nat.le_of_ble_eq_true rfl, Nat.le_of_ble_eq_true rfl⟩ (Nat.le_of_ble_eq_true rfl) rfl rfl hl.1 rfl (Nat.le_of_ble_eq_true rfl) dX7_picks_16 ⟨Nat.zero_le _, Nat.zero_le _⟩) (fun H locs Y => ?_)
    obtain ⟨v7, hc6, h⟩ := bnd1_s h
    refine k_cI Y (k_runV (As := [.int v5]) (rest := []) (o := 0) X Y cl_7_136 (c_X7_refusalOf l hc6 _) ⟨rfl, rfl, Nat.le_of_ble_eq_true rfl, Nat.le_of_ble_eq_true rfl⟩ (Nat.le_of_ble_eq_true rfl) rfl rfl hl.1 rfl (Nat.le_of_ble_eq_true rfl) dX7_picks_19 ⟨Nat.zero_le _, Nat.zero_le _⟩) (fun H locs Y => ?_)
    refine lv_istore_n (lv' := [(3, .int v7), (0, .ref (g.2.1 0)), (1, .int x1), (2, .int x2)]) hx hb dX7_picks_22 rfl hl (by decide) rfl (fun ls hl => ?_)
    refine lv_iload_n hx hb dX7_picks_23 rfl (lv_at hl 0 rfl) ?_
    refine lv_if_eq (tgt := 29) hx hb dX7_picks_24 (by decide) (fun c8 => ?_) (fun c8 => ?_)
    · have h := ite_t h c8
      refine lv_aload_n hx hb dX7_picks_29 rfl (lv_at hl 1 rfl) ?_
      refine k_get (v := .ref (g.2.1 1)) X Y fl_7_10 0 (Nat.le_of_ble_eq_true rfl) rfl rfl dX7_picks_30 ?_
      refine lv_iload_n hx hb dX7_picks_33 rfl (lv_at hl 2 rfl) ?_
      obtain ⟨v10, hc9, h⟩ := bnd1_s h
      refine k_cI Y (k_runV (As := [.int x1]) (rest := []) (o := 1) X Y cl_7_196 (c_X3_isWaiting l hc9 _) ⟨rfl, rfl, Nat.le_of_ble_eq_true rfl, Nat.le_of_ble_eq_true rfl⟩ (Nat.le_of_ble_eq_true rfl) rfl rfl hl.1 rfl (Nat.le_of_ble_eq_true rfl) dX7_picks_34 ⟨Nat.zero_le _, Nat.zero_le _⟩) (fun H locs Y => ?_)
      refine lv_if_eq (tgt := 56) hx hb dX7_picks_37 (by decide) (fun c11 => ?_) (fun c11 => ?_)
      · have h := ite_t h c11
        refine lv_bipush (v := (-5)) hx hb dX7_picks_56 (by decide) ?_
        exact w_X7_picks_58 X  h Y  (lv_sub hl [] rfl)
      · have h := ite_f h c11
        refine lv_aload_n hx hb dX7_picks_40 rfl (lv_at hl 1 rfl) ?_
        refine k_get (v := .ref (g.2.1 1)) X Y fl_7_10 0 (Nat.le_of_ble_eq_true rfl) rfl rfl dX7_picks_41 ?_
        refine lv_iload_n hx hb dX7_picks_44 rfl (lv_at hl 2 rfl) ?_
        refine lv_iload_n hx hb dX7_picks_45 rfl (lv_at hl 3 rfl) ?_
        refine lv_aload_n hx hb dX7_picks_46 rfl (lv_at hl 1 rfl) ?_
        refine k_get (v := .ref (g.2.1 7)) X Y fl_7_16 0 (Nat.le_of_ble_eq_true rfl) rfl rfl dX7_picks_47 ?_
        obtain ⟨v13, hc12, h⟩ := bnd1_s h
        refine k_cI Y (k_runV (As := [.int x1, .int x2, .ref (g.2.1 7)]) (rest := []) (o := 1) X Y cl_7_199 (c_X3_dayPicked_7 l hc12 _) ⟨rfl, rfl, Nat.le_of_ble_eq_true rfl, Nat.le_of_ble_eq_true rfl⟩ (Nat.le_of_ble_eq_true rfl) rfl rfl hl.1 rfl (Nat.le_of_ble_eq_true rfl) dX7_picks_50 ⟨Nat.zero_le _, Nat.zero_le _⟩) (fun H locs Y => ?_)
        refine lv_goto (tgt := 58) hx hb dX7_picks_53 (by decide) ?_
        exact w_X7_picks_58 X  h Y  (lv_sub hl [] rfl)
    · have h := ite_f h c8
      refine lv_iload_n hx hb dX7_picks_27 rfl (lv_at hl 0 rfl) ?_
      exact k_iretR X Y h dX7_picks_28
  · have h := ite_t h c3
    refine lv_iconst (v := (-1)) hx hb dX7_picks_11 (by decide) ?_
    exact k_iretR X Y h dX7_picks_12
theorem c_X7_picks (l : Launch) {g : Gx} {x1 : Int32} {x2 : Int32} {st : Sg} {r9 : Int32} (h : X7_picks x1 x2 st = some r9) : MetI l yX7_picks cX7_picks 4 (some .int) rm_X7_picks g nwX (ceX g) [.ref (g.2.1 0), .int x1, .int x2] st r9 st :=
  met_of (Qc := fun A => QI g nwX (ceX g) A r9 st) (by decide) (Nat.le_of_ble_eq_true rfl) (fun p e s m below meth c A ls X Y hl => w_X7_picks X h Y hl)
def X3_isPrice_17   (k0 : Int32) (st : Sg) : Option Int32 :=
  cb01 k0 <| some k0
def X3_isPrice_16    (st : Sg) : Option Int32 :=
  X3_isPrice_17 0 st
def X3_isPrice   (x1 : Int32) (st : Sg) : Option Int32 :=
  if x1 < (0 : Int32) then
    X3_isPrice_16 st
  else
    if (st.1 1 4) ≤ x1 then
      X3_isPrice_16 st
    else
      X3_isPrice_17 1 st
abbrev rm_X3_isPrice : Room := { frames := 0, cells := 0, slots := 0, locals := 0 }
set_option maxHeartbeats 4000000 in
set_option maxRecDepth 100000 in
theorem w_X3_isPrice_17 (X : Cx g p s m args meth c cX3_isPrice 2 RX3 (some .boolean)) {k0 : Int32} {st : Sg} {r9 : Int32}  (h : X3_isPrice_17 k0 st = some r9) (Y : Hp g nwX (ceX g) A s.heap st H locs)  (hl : lv_has ls 2 []) : W p l e rm_X3_isPrice s m args below meth c H locs 0 0 (MQ below (QI g nwX (ceX g) A r9 st) args s 0 0 A) (F0 m 17 ls [.int k0]) := by
  have hx := X.1
  have hb := X.2.1
  unfold X3_isPrice_17 at h
  obtain ⟨b1, h⟩ := cb01_s h
  exact k_zretR X Y b1 h dX3_isPrice_17
set_option maxHeartbeats 4000000 in
set_option maxRecDepth 100000 in
theorem w_X3_isPrice_16 (X : Cx g p s m args meth c cX3_isPrice 2 RX3 (some .boolean))  {st : Sg} {r9 : Int32}  (h : X3_isPrice_16 st = some r9) (Y : Hp g nwX (ceX g) A s.heap st H locs)  (hl : lv_has ls 2 []) : W p l e rm_X3_isPrice s m args below meth c H locs 0 0 (MQ below (QI g nwX (ceX g) A r9 st) args s 0 0 A) (F0 m 16 ls []) := by
  have hx := X.1
  have hb := X.2.1
  unfold X3_isPrice_16 at h
  refine lv_iconst (v := 0) hx hb dX3_isPrice_16 (by decide) ?_
  exact w_X3_isPrice_17 X  h Y  (lv_sub hl [] rfl)
set_option maxHeartbeats 4000000 in
set_option maxRecDepth 100000 in
theorem w_X3_isPrice (X : Cx g p s m args meth c cX3_isPrice 2 RX3 (some .boolean)) {x1 : Int32} {st : Sg} {r9 : Int32}  (h : X3_isPrice x1 st = some r9) (Y : Hp g nwX (ceX g) A s.heap st H locs)  (hl : lv_has ls 2 [(0, .ref (g.2.1 1)), (1, .int x1)]) : W p l e rm_X3_isPrice s m args below meth c H locs 0 0 (MQ below (QI g nwX (ceX g) A r9 st) args s 0 0 A) (F0 m 0 ls []) := by
  have hx := X.1
  have hb := X.2.1
  unfold X3_isPrice at h
  refine lv_iload_n hx hb dX3_isPrice_0 rfl (lv_at hl 1 rfl) ?_
  refine lv_if_lt (tgt := 16) hx hb dX3_isPrice_1 (by decide) (fun c1 => ?_) (fun c1 => ?_)
  · have h := ite_t h c1
    exact w_X3_isPrice_16 X  h Y  (lv_sub hl [] rfl)
  · have h := ite_f h c1
    refine lv_iload_n hx hb dX3_isPrice_4 rfl (lv_at hl 1 rfl) ?_
    refine lv_aload_n hx hb dX3_isPrice_5 rfl (lv_at hl 0 rfl) ?_
    refine k_get (v := .int (st.1 1 4)) X Y fl_3_25 1 (Nat.le_of_ble_eq_true rfl) rfl rfl dX3_isPrice_6 ?_
    refine lv_icmp_ge (tgt := 16) hx hb dX3_isPrice_9 (by decide) (fun c2 => ?_) (fun c2 => ?_)
    · have h := ite_t h c2
      exact w_X3_isPrice_16 X  h Y  (lv_sub hl [] rfl)
    · have h := ite_f h c2
      refine lv_iconst (v := 1) hx hb dX3_isPrice_12 (by decide) ?_
      refine lv_goto (tgt := 17) hx hb dX3_isPrice_13 (by decide) ?_
      exact w_X3_isPrice_17 X  h Y  (lv_sub hl [] rfl)
theorem c_X3_isPrice (l : Launch) {g : Gx} {x1 : Int32} {st : Sg} {r9 : Int32} (h : X3_isPrice x1 st = some r9) : MetI l yX3_isPrice cX3_isPrice 2 (some .boolean) rm_X3_isPrice g nwX (ceX g) [.ref (g.2.1 1), .int x1] st r9 st :=
  met_of (Qc := fun A => QI g nwX (ceX g) A r9 st) (by decide) (Nat.le_of_ble_eq_true rfl) (fun p e s m below meth c A ls X Y hl => w_X3_isPrice X h Y hl)
def X7_plan   (x1 : Int32) (x2 : Int32) (st : Sg) : Option (Int32 × Sg) :=
  bnd1 (X3_isPrice x2 st) fun v2 =>
  if v2 = (0 : Int32) then
    some ((-1), st)
  else
    bnd1 (X7_isWithin x1 0 5) fun v5 =>
    if v5 = (0 : Int32) then
      some ((-2), st)
    else
      cix x1 6 <|
      nm (st.1 7 x1.toNatClampNeg) fun v8 =>
      cix x1 6 <|
      nm (sI st 7 x1.toNatClampNeg x2) fun st10 =>
      some (v8, st10)
abbrev rm_X7_plan : Room := { frames := 1, cells := 0, slots := 0, locals := 22 }
set_option maxHeartbeats 4000000 in
set_option maxRecDepth 100000 in
theorem w_X7_plan (X : Cx g p s m args meth c cX7_plan 4 RX7 (some .int)) {x1 : Int32} {x2 : Int32} {st : Sg} {r9 : Int32} {st9 : Sg}  (h : X7_plan x1 x2 st = some (r9, st9)) (Y : Hp g nwX (ceX g) A s.heap st H locs)  (hl : lv_has ls 4 [(0, .ref (g.2.1 0)), (1, .int x1), (2, .int x2)]) : W p l e rm_X7_plan s m args below meth c H locs 0 0 (MQ below (QI g nwX (ceX g) A r9 st9) args s 0 0 A) (F0 m 0 ls []) := by
  have hx := X.1
  have hb := X.2.1
  unfold X7_plan at h
  refine lv_aload_n hx hb dX7_plan_0 rfl (lv_at hl 0 rfl) ?_
  refine k_get (v := .ref (g.2.1 1)) X Y fl_7_10 0 (Nat.le_of_ble_eq_true rfl) rfl rfl dX7_plan_1 ?_
  refine lv_iload_n hx hb dX7_plan_4 rfl (lv_at hl 2 rfl) ?_
  obtain ⟨v2, hc1, h⟩ := bnd1_s h
  refine k_cI Y (k_runV (As := [.int x2]) (rest := []) (o := 1) X Y cl_7_130 (c_X3_isPrice l hc1 _) ⟨rfl, rfl, Nat.le_of_ble_eq_true rfl, Nat.le_of_ble_eq_true rfl⟩ (Nat.le_of_ble_eq_true rfl) rfl rfl hl.1 rfl (Nat.le_of_ble_eq_true rfl) dX7_plan_5 ⟨Nat.zero_le _, Nat.zero_le _⟩) (fun H locs Y => ?_)
  refine lv_if_ne (tgt := 13) hx hb dX7_plan_8 (by decide) (fun c3 => ?_) (fun c3 => ?_)
  · have h := ite_f h c3
    refine lv_iload_n hx hb dX7_plan_13 rfl (lv_at hl 1 rfl) ?_
    refine lv_iconst (v := 0) hx hb dX7_plan_14 (by decide) ?_
    refine lv_iconst (v := 5) hx hb dX7_plan_15 (by decide) ?_
    obtain ⟨v5, hc4, h⟩ := bnd1_s h
    refine k_cI Y (k_runS (As := [.int x1, .int 0, .int 5]) (rest := []) X Y cl_7_81 (c_X7_isWithin l hc4 _) ⟨rfl, rfl, Nat.le_of_ble_eq_true rfl, Nat.le_of_ble_eq_true rfl⟩ rfl hl.1 rfl (Nat.le_of_ble_eq_true rfl) dX7_plan_16 ⟨Nat.zero_le _, Nat.zero_le _⟩) (fun H locs Y => ?_)
    refine lv_if_ne (tgt := 25) hx hb dX7_plan_19 (by decide) (fun c6 => ?_) (fun c6 => ?_)
    · have h := ite_f h c6
      refine lv_aload_n hx hb dX7_plan_25 rfl (lv_at hl 0 rfl) ?_
      refine k_get (v := .ref (g.2.1 7)) X Y fl_7_16 0 (Nat.le_of_ble_eq_true rfl) rfl rfl dX7_plan_26 ?_
      refine lv_iload_n hx hb dX7_plan_29 rfl (lv_at hl 1 rfl) ?_
      obtain ⟨i7, h⟩ := cix_s h
      refine k_iald X Y 7 (Nat.le_of_ble_eq_true rfl) (fun _ _ => rfl) i7 dX7_plan_30 ?_
      obtain ⟨v8, ev8, h⟩ := nm_s h
      refine k_nmI ev8 ?_
      refine lv_istore_n (lv' := [(3, .int v8), (0, .ref (g.2.1 0)), (1, .int x1), (2, .int x2)]) hx hb dX7_plan_31 rfl hl (by decide) rfl (fun ls hl => ?_)
      refine lv_aload_n hx hb dX7_plan_32 rfl (lv_at hl 1 rfl) ?_
      refine k_get (v := .ref (g.2.1 7)) X Y fl_7_16 0 (Nat.le_of_ble_eq_true rfl) rfl rfl dX7_plan_33 ?_
      refine lv_iload_n hx hb dX7_plan_36 rfl (lv_at hl 2 rfl) ?_
      refine lv_iload_n hx hb dX7_plan_37 rfl (lv_at hl 3 rfl) ?_
      obtain ⟨i9, h⟩ := cix_s h
      refine k_iast X Y 7 (Nat.le_of_ble_eq_true rfl) (fun _ _ => rfl) i9 dX7_plan_38 (fun H locs Y => ?_)
      obtain ⟨st10, est10, h⟩ := nm_s h
      have Y : Hp g nwX (ceX g) A s.heap st10 H locs := by rw [est10]; exact Y
      refine lv_iload_n hx hb dX7_plan_39 rfl (lv_at hl 0 rfl) ?_
      exact k_iretW X Y h dX7_plan_40
    · have h := ite_t h c6
      refine lv_bipush (v := (-2)) hx hb dX7_plan_22 (by decide) ?_
      exact k_iretW X Y h dX7_plan_24
  · have h := ite_t h c3
    refine lv_iconst (v := (-1)) hx hb dX7_plan_11 (by decide) ?_
    exact k_iretW X Y h dX7_plan_12
theorem c_X7_plan (l : Launch) {g : Gx} {x1 : Int32} {x2 : Int32} {st : Sg} {r9 : Int32} {st9 : Sg} (h : X7_plan x1 x2 st = some (r9, st9)) : MetI l yX7_plan cX7_plan 4 (some .int) rm_X7_plan g nwX (ceX g) [.ref (g.2.1 0), .int x1, .int x2] st r9 st9 :=
  met_of (Qc := fun A => QI g nwX (ceX g) A r9 st9) (by decide) (Nat.le_of_ble_eq_true rfl) (fun p e s m below meth c A ls X Y hl => w_X7_plan X h Y hl)
def X7_price_37    (st : Sg) : Option (Int32 × Sg) :=
  some ((-2), st)
def X7_price_40   (x1 : Int32) (x2 : Int32) (st : Sg) : Option (Int32 × Sg) :=
  if x2 < (5 : Int32) then
    cix x2 5 <|
    nm (sI st 2 x2.toNatClampNeg x1) fun st3 =>
    nm (sI st3 1 4 ((st3.1 1 4) + 1)) fun st4 =>
    nm (sI st4 1 10 ((st4.1 1 10) + 1)) fun st5 =>
    some (x2, st5)
  else
    some ((-4), st)
def X7_price   (x1 : Int32) (st : Sg) : Option (Int32 × Sg) :=
  nm (st.1 1 4) fun v1 =>
  bnd1 (X7_isWithin x1 1 99) fun v3 =>
  if v3 = (0 : Int32) then
    X7_price_37 st
  else
    if v1 ≤ (0 : Int32) then
      X7_price_40 x1 v1 st
    else
      cix (v1 - 1) 5 <|
      if x1 < (st.1 2 (v1 - 1).toNatClampNeg) then
        X7_price_40 x1 v1 st
      else
        X7_price_37 st
abbrev rm_X7_price : Room := { frames := 1, cells := 0, slots := 0, locals := 22 }
set_option maxHeartbeats 4000000 in
set_option maxRecDepth 100000 in
theorem w_X7_price_37 (X : Cx g p s m args meth c cX7_price 3 RX7 (some .int))  {st : Sg} {r9 : Int32} {st9 : Sg}  (h : X7_price_37 st = some (r9, st9)) (Y : Hp g nwX (ceX g) A s.heap st H locs)  (hl : lv_has ls 3 []) : W p l e rm_X7_price s m args below meth c H locs 0 0 (MQ below (QI g nwX (ceX g) A r9 st9) args s 0 0 A) (F0 m 37 ls []) := by
  have hx := X.1
  have hb := X.2.1
  unfold X7_price_37 at h
  refine lv_bipush (v := (-2)) hx hb dX7_price_37 (by decide) ?_
  exact k_iretW X Y h dX7_price_39
set_option maxHeartbeats 4000000 in
set_option maxRecDepth 100000 in
theorem w_X7_price_40 (X : Cx g p s m args meth c cX7_price 3 RX7 (some .int)) {x1 : Int32} {x2 : Int32} {st : Sg} {r9 : Int32} {st9 : Sg}  (h : X7_price_40 x1 x2 st = some (r9, st9)) (Y : Hp g nwX (ceX g) A s.heap st H locs)  (hl : lv_has ls 3 [(0, .ref (g.2.1 0)), (1, .int x1), (2, .int x2)]) : W p l e rm_X7_price s m args below meth c H locs 0 0 (MQ below (QI g nwX (ceX g) A r9 st9) args s 0 0 A) (F0 m 40 ls []) := by
  have hx := X.1
  have hb := X.2.1
  unfold X7_price_40 at h
  refine lv_iload_n hx hb dX7_price_40 rfl (lv_at hl 2 rfl) ?_
  refine lv_iconst (v := 5) hx hb dX7_price_41 (by decide) ?_
  refine lv_icmp_lt (tgt := 48) hx hb dX7_price_42 (by decide) (fun c1 => ?_) (fun c1 => ?_)
  · have h := ite_t h c1
    refine lv_aload_n hx hb dX7_price_48 rfl (lv_at hl 0 rfl) ?_
    refine k_get (v := .ref (g.2.1 1)) X Y fl_7_10 0 (Nat.le_of_ble_eq_true rfl) rfl rfl dX7_price_49 ?_
    refine k_get (v := .ref (g.2.1 2)) X Y fl_7_100 1 (Nat.le_of_ble_eq_true rfl) rfl rfl dX7_price_52 ?_
    refine lv_iload_n hx hb dX7_price_55 rfl (lv_at hl 2 rfl) ?_
    refine lv_iload_n hx hb dX7_price_56 rfl (lv_at hl 1 rfl) ?_
    obtain ⟨i2, h⟩ := cix_s h
    refine k_iast X Y 2 (Nat.le_of_ble_eq_true rfl) (fun _ _ => rfl) i2 dX7_price_57 (fun H locs Y => ?_)
    obtain ⟨st3, est3, h⟩ := nm_s h
    have Y : Hp g nwX (ceX g) A s.heap st3 H locs := by rw [est3]; exact Y
    refine lv_aload_n hx hb dX7_price_58 rfl (lv_at hl 0 rfl) ?_
    refine k_get (v := .ref (g.2.1 1)) X Y fl_7_10 0 (Nat.le_of_ble_eq_true rfl) rfl rfl dX7_price_59 ?_
    refine lv_dup hx hb dX7_price_62 rfl ?_
    refine k_get (v := .int (st3.1 1 4)) X Y fl_7_97 1 (Nat.le_of_ble_eq_true rfl) rfl rfl dX7_price_63 ?_
    refine lv_iconst (v := 1) hx hb dX7_price_66 (by decide) ?_
    refine lv_iadd hx hb dX7_price_67 ?_
    refine k_putI X Y fl_7_97 1 (Nat.le_of_ble_eq_true rfl) rfl rfl rfl (Nat.le_of_ble_eq_true rfl) rfl dX7_price_68 (fun H locs Y => ?_)
    obtain ⟨st4, est4, h⟩ := nm_s h
    have Y : Hp g nwX (ceX g) A s.heap st4 H locs := by rw [est4]; exact Y
    refine lv_aload_n hx hb dX7_price_71 rfl (lv_at hl 0 rfl) ?_
    refine k_get (v := .ref (g.2.1 1)) X Y fl_7_10 0 (Nat.le_of_ble_eq_true rfl) rfl rfl dX7_price_72 ?_
    refine lv_dup hx hb dX7_price_75 rfl ?_
    refine k_get (v := .int (st4.1 1 10)) X Y fl_7_94 1 (Nat.le_of_ble_eq_true rfl) rfl rfl dX7_price_76 ?_
    refine lv_iconst (v := 1) hx hb dX7_price_79 (by decide) ?_
    refine lv_iadd hx hb dX7_price_80 ?_
    refine k_putI X Y fl_7_94 1 (Nat.le_of_ble_eq_true rfl) rfl rfl rfl (Nat.le_of_ble_eq_true rfl) rfl dX7_price_81 (fun H locs Y => ?_)
    obtain ⟨st5, est5, h⟩ := nm_s h
    have Y : Hp g nwX (ceX g) A s.heap st5 H locs := by rw [est5]; exact Y
    refine lv_iload_n hx hb dX7_price_84 rfl (lv_at hl 2 rfl) ?_
    exact k_iretW X Y h dX7_price_85
  · have h := ite_f h c1
    refine lv_bipush (v := (-4)) hx hb dX7_price_45 (by decide) ?_
    exact k_iretW X Y h dX7_price_47
set_option maxHeartbeats 4000000 in
set_option maxRecDepth 100000 in
theorem w_X7_price (X : Cx g p s m args meth c cX7_price 3 RX7 (some .int)) {x1 : Int32} {st : Sg} {r9 : Int32} {st9 : Sg}  (h : X7_price x1 st = some (r9, st9)) (Y : Hp g nwX (ceX g) A s.heap st H locs)  (hl : lv_has ls 3 [(0, .ref (g.2.1 0)), (1, .int x1)]) : W p l e rm_X7_price s m args below meth c H locs 0 0 (MQ below (QI g nwX (ceX g) A r9 st9) args s 0 0 A) (F0 m 0 ls []) := by
  have hx := X.1
  have hb := X.2.1
  unfold X7_price at h
  refine lv_aload_n hx hb dX7_price_0 rfl (lv_at hl 0 rfl) ?_
  refine k_get (v := .ref (g.2.1 1)) X Y fl_7_10 0 (Nat.le_of_ble_eq_true rfl) rfl rfl dX7_price_1 ?_
  refine k_get (v := .int (st.1 1 4)) X Y fl_7_97 1 (Nat.le_of_ble_eq_true rfl) rfl rfl dX7_price_4 ?_
  obtain ⟨v1, ev1, h⟩ := nm_s h
  refine k_nmI ev1 ?_
  refine lv_istore_n (lv' := [(2, .int v1), (0, .ref (g.2.1 0)), (1, .int x1)]) hx hb dX7_price_7 rfl hl (by decide) rfl (fun ls hl => ?_)
  refine lv_iload_n hx hb dX7_price_8 rfl (lv_at hl 2 rfl) ?_
  refine lv_iconst (v := 1) hx hb dX7_price_9 (by decide) ?_
  refine lv_bipush (v := 99) hx hb dX7_price_10 (by decide) ?_
  obtain ⟨v3, hc2, h⟩ := bnd1_s h
  refine k_cI Y (k_runS (As := [.int x1, .int 1, .int 99]) (rest := []) X Y cl_7_81 (c_X7_isWithin l hc2 _) ⟨rfl, rfl, Nat.le_of_ble_eq_true rfl, Nat.le_of_ble_eq_true rfl⟩ rfl hl.1 rfl (Nat.le_of_ble_eq_true rfl) dX7_price_12 ⟨Nat.zero_le _, Nat.zero_le _⟩) (fun H locs Y => ?_)
  refine lv_if_eq (tgt := 37) hx hb dX7_price_15 (by decide) (fun c4 => ?_) (fun c4 => ?_)
  · have h := ite_t h c4
    exact w_X7_price_37 X  h Y  (lv_sub hl [] rfl)
  · have h := ite_f h c4
    refine lv_iload_n hx hb dX7_price_18 rfl (lv_at hl 0 rfl) ?_
    refine lv_if_le (tgt := 40) hx hb dX7_price_19 (by decide) (fun c5 => ?_) (fun c5 => ?_)
    · have h := ite_t h c5
      exact w_X7_price_40 X  h Y  (lv_sub hl [1, 2, 0] rfl)
    · have h := ite_f h c5
      refine lv_iload_n hx hb dX7_price_22 rfl (lv_at hl 2 rfl) ?_
      refine lv_aload_n hx hb dX7_price_23 rfl (lv_at hl 1 rfl) ?_
      refine k_get (v := .ref (g.2.1 1)) X Y fl_7_10 0 (Nat.le_of_ble_eq_true rfl) rfl rfl dX7_price_24 ?_
      refine k_get (v := .ref (g.2.1 2)) X Y fl_7_100 1 (Nat.le_of_ble_eq_true rfl) rfl rfl dX7_price_27 ?_
      refine lv_iload_n hx hb dX7_price_30 rfl (lv_at hl 0 rfl) ?_
      refine lv_iconst (v := 1) hx hb dX7_price_31 (by decide) ?_
      refine lv_isub hx hb dX7_price_32 ?_
      obtain ⟨i6, h⟩ := cix_s h
      refine k_iald X Y 2 (Nat.le_of_ble_eq_true rfl) (fun _ _ => rfl) i6 dX7_price_33 ?_
      refine lv_icmp_lt (tgt := 40) hx hb dX7_price_34 (by decide) (fun c7 => ?_) (fun c7 => ?_)
      · have h := ite_t h c7
        exact w_X7_price_40 X  h Y  (lv_sub hl [1, 2, 0] rfl)
      · have h := ite_f h c7
        exact w_X7_price_37 X  h Y  (lv_sub hl [] rfl)
theorem c_X7_price (l : Launch) {g : Gx} {x1 : Int32} {st : Sg} {r9 : Int32} {st9 : Sg} (h : X7_price x1 st = some (r9, st9)) : MetI l yX7_price cX7_price 3 (some .int) rm_X7_price g nwX (ceX g) [.ref (g.2.1 0), .int x1] st r9 st9 :=
  met_of (Qc := fun A => QI g nwX (ceX g) A r9 st9) (by decide) (Nat.le_of_ble_eq_true rfl) (fun p e s m below meth c A ls X Y hl => w_X7_price X h Y hl)
end LIFT
