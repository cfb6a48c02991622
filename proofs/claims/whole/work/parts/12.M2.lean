/-! lifted by program: SaturdaySaleModel.isHow, SaturdaySaleModel.stepOf, SaturdaySaleModel.fault, SaturdaySaleModel.isOnce, SaturdaySaleModel.pickOf, SaturdaySaleModel.meet, SaturdaySaleModel.nextPlan, SaturdaySaleModel.findKept, SaturdaySaleModel.findOdds -/
section LIFT
variable {p : Program} {l : Launch} {e : Env} {s : State} {m : MethodId} {args : Array Value} {below : List Frame} {meth : Method} {c : Code} {g : Gx} {A : Nat → Prop} {H : Heap} {locs : List Loc} {ls : Array Slot}
def X8_isHow_23   (k0 : Int32) : Option Int32 :=
  cb01 k0 <| some k0
def X8_isHow_18    : Option Int32 :=
  X8_isHow_23 1
def X8_isHow   (x0 : Int32) : Option Int32 :=
  if x0 = (60 : Int32) then
    X8_isHow_18
  else
    if x0 = (62 : Int32) then
      X8_isHow_18
    else
      if x0 = (61 : Int32) then
        X8_isHow_18
      else
        X8_isHow_23 0
abbrev rm_X8_isHow : Room := { frames := 0, cells := 0, slots := 0, locals := 0 }
set_option maxHeartbeats 4000000 in
set_option maxRecDepth 100000 in
theorem w_X8_isHow_23 (X : Cx g p s m args meth c cX8_isHow 1 RX8 (some .boolean)) {k0 : Int32} {st : Sg} {r9 : Int32}  (h : X8_isHow_23 k0 = some r9) (Y : Hp g nwM (ceM g) A s.heap st H locs)  (hl : lv_has ls 1 []) : W p l e rm_X8_isHow s m args below meth c H locs 0 0 (MQ below (QI g nwM (ceM g) A r9 st) args s 0 0 A) (F0 m 23 ls [.int k0]) := by
  have hx := X.1
  have hb := X.2.1
  unfold X8_isHow_23 at h
  obtain ⟨b1, h⟩ := cb01_s h
  exact k_zretR X Y b1 h dX8_isHow_23
set_option maxHeartbeats 4000000 in
set_option maxRecDepth 100000 in
theorem w_X8_isHow_18 (X : Cx g p s m args meth c cX8_isHow 1 RX8 (some .boolean))  {st : Sg} {r9 : Int32}  (h : X8_isHow_18 = some r9) (Y : Hp g nwM (ceM g) A s.heap st H locs)  (hl : lv_has ls 1 []) : W p l e rm_X8_isHow s m args below meth c H locs 0 0 (MQ below (QI g nwM (ceM g) A r9 st) args s 0 0 A) (F0 m 18 ls []) := by
  have hx := X.1
  have hb := X.2.1
  unfold X8_isHow_18 at h
  refine lv_iconst (v := 1) hx hb dX8_isHow_18 (by decide) ?_
  refine lv_goto (tgt := 23) hx hb dX8_isHow_19 (by decide) ?_
  exact w_X8_isHow_23 X  h Y  (lv_sub hl [] rfl)
set_option maxHeartbeats 4000000 in
set_option maxRecDepth 100000 in
theorem w_X8_isHow (X : Cx g p s m args meth c cX8_isHow 1 RX8 (some .boolean)) {x0 : Int32} {st : Sg} {r9 : Int32}  (h : X8_isHow x0 = some r9) (Y : Hp g nwM (ceM g) A s.heap st H locs)  (hl : lv_has ls 1 [(0, .int x0)]) : W p l e rm_X8_isHow s m args below meth c H locs 0 0 (MQ below (QI g nwM (ceM g) A r9 st) args s 0 0 A) (F0 m 0 ls []) := by
  have hx := X.1
  have hb := X.2.1
  unfold X8_isHow at h
  refine lv_iload_n hx hb dX8_isHow_0 rfl (lv_at hl 0 rfl) ?_
  refine lv_bipush (v := 60) hx hb dX8_isHow_1 (by decide) ?_
  refine lv_icmp_eq (tgt := 18) hx hb dX8_isHow_3 (by decide) (fun c1 => ?_) (fun c1 => ?_)
  · have h := ite_t h c1
    exact w_X8_isHow_18 X  h Y  (lv_sub hl [] rfl)
  · have h := ite_f h c1
    refine lv_iload_n hx hb dX8_isHow_6 rfl (lv_at hl 0 rfl) ?_
    refine lv_bipush (v := 62) hx hb dX8_isHow_7 (by decide) ?_
    refine lv_icmp_eq (tgt := 18) hx hb dX8_isHow_9 (by decide) (fun c2 => ?_) (fun c2 => ?_)
    · have h := ite_t h c2
      exact w_X8_isHow_18 X  h Y  (lv_sub hl [] rfl)
    · have h := ite_f h c2
      refine lv_iload_n hx hb dX8_isHow_12 rfl (lv_at hl 0 rfl) ?_
      refine lv_bipush (v := 61) hx hb dX8_isHow_13 (by decide) ?_
      refine lv_icmp_ne (tgt := 22) hx hb dX8_isHow_15 (by decide) (fun c3 => ?_) (fun c3 => ?_)
      · have h := ite_f h c3
        refine lv_iconst (v := 0) hx hb dX8_isHow_22 (by decide) ?_
        exact w_X8_isHow_23 X  h Y  (lv_sub hl [] rfl)
      · have h := ite_t h c3
        exact w_X8_isHow_18 X  h Y  (lv_sub hl [] rfl)
theorem c_X8_isHow (l : Launch) {g : Gx} {x0 : Int32} {st : Sg} {r9 : Int32} (h : X8_isHow x0 = some r9) : MetI l yX8_isHow cX8_isHow 1 (some .boolean) rm_X8_isHow g nwM (ceM g) [.int x0] st r9 st :=
  met_of (Qc := fun A => QI g nwM (ceM g) A r9 st) (by decide) (Nat.le_of_ble_eq_true rfl) (fun p e s m below meth c A ls X Y hl => w_X8_isHow X h Y hl)
def X8_stepOf_94   (k0 : Int32) : Option Int32 :=
  some k0
def X8_stepOf_80    : Option Int32 :=
  X8_stepOf_94 1
def X8_stepOf_107   (k0 : Int32) : Option Int32 :=
  some k0
def X8_stepOf_117   (k0 : Int32) : Option Int32 :=
  some k0
def X8_stepOf_137   (k0 : Int32) : Option Int32 :=
  some k0
def X8_stepOf_149   (k0 : Int32) : Option Int32 :=
  some k0
def X8_stepOf_160   (k0 : Int32) : Option Int32 :=
  some k0
def X8_stepOf_172   (k0 : Int32) : Option Int32 :=
  some k0
def X8_stepOf   (x0 : Int32) (x1 : Int32) : Option Int32 :=
  bnd1 (X8_in (x1.toInt64) 48 57) fun v2 =>
  bnd1 (X8_in (x1.toInt64) 48 52) fun v4 =>
  if x0 = (0 : Int32) then
    if x1 = (108 : Int32) then
      X8_stepOf_80
    else
      if x1 = (100 : Int32) then
        X8_stepOf_80
      else
        if v4 = (0 : Int32) then
          X8_stepOf_94 (-1)
        else
          X8_stepOf_94 7
  else
    if x0 = (1 : Int32) then
      bnd1 (X8_isHow x1) fun v11 =>
      if v11 = (0 : Int32) then
        X8_stepOf_107 (-1)
      else
        X8_stepOf_107 2
    else
      if x0 = (2 : Int32) then
        if v2 = (0 : Int32) then
          X8_stepOf_117 (-1)
        else
          X8_stepOf_117 3
      else
        if x0 = (3 : Int32) then
          if v2 = (0 : Int32) then
            if x1 = (58 : Int32) then
              X8_stepOf_137 5
            else
              X8_stepOf_137 (-1)
          else
            X8_stepOf_137 4
        else
          if x0 = (4 : Int32) then
            if x1 = (58 : Int32) then
              X8_stepOf_149 5
            else
              X8_stepOf_149 (-1)
          else
            if x0 = (5 : Int32) then
              if v4 = (0 : Int32) then
                X8_stepOf_160 (-1)
              else
                X8_stepOf_160 6
            else
              if x0 = (6 : Int32) then
                if x1 = (59 : Int32) then
                  X8_stepOf_172 0
                else
                  X8_stepOf_172 (-1)
              else
                some (-1)
abbrev rm_X8_stepOf : Room := { frames := 1, cells := 0, slots := 0, locals := 25 }
set_option maxHeartbeats 4000000 in
set_option maxRecDepth 100000 in
theorem w_X8_stepOf_94 (X : Cx g p s m args meth c cX8_stepOf 4 RX8 (some .int)) {k0 : Int32} {st : Sg} {r9 : Int32}  (h : X8_stepOf_94 k0 = some r9) (Y : Hp g nwM (ceM g) A s.heap st H locs)  (hl : lv_has ls 4 []) : W p l e rm_X8_stepOf s m args below meth c H locs 0 0 (MQ below (QI g nwM (ceM g) A r9 st) args s 0 0 A) (F0 m 94 ls [.int k0]) := by
  have hx := X.1
  have hb := X.2.1
  unfold X8_stepOf_94 at h
  exact k_iretR X Y h dX8_stepOf_94
set_option maxHeartbeats 4000000 in
set_option maxRecDepth 100000 in
theorem w_X8_stepOf_80 (X : Cx g p s m args meth c cX8_stepOf 4 RX8 (some .int))  {st : Sg} {r9 : Int32}  (h : X8_stepOf_80 = some r9) (Y : Hp g nwM (ceM g) A s.heap st H locs)  (hl : lv_has ls 4 []) : W p l e rm_X8_stepOf s m args below meth c H locs 0 0 (MQ below (QI g nwM (ceM g) A r9 st) args s 0 0 A) (F0 m 80 ls []) := by
  have hx := X.1
  have hb := X.2.1
  unfold X8_stepOf_80 at h
  refine lv_iconst (v := 1) hx hb dX8_stepOf_80 (by decide) ?_
  refine lv_goto (tgt := 94) hx hb dX8_stepOf_81 (by decide) ?_
  exact w_X8_stepOf_94 X  h Y  (lv_sub hl [] rfl)
set_option maxHeartbeats 4000000 in
set_option maxRecDepth 100000 in
theorem w_X8_stepOf_107 (X : Cx g p s m args meth c cX8_stepOf 4 RX8 (some .int)) {k0 : Int32} {st : Sg} {r9 : Int32}  (h : X8_stepOf_107 k0 = some r9) (Y : Hp g nwM (ceM g) A s.heap st H locs)  (hl : lv_has ls 4 []) : W p l e rm_X8_stepOf s m args below meth c H locs 0 0 (MQ below (QI g nwM (ceM g) A r9 st) args s 0 0 A) (F0 m 107 ls [.int k0]) := by
  have hx := X.1
  have hb := X.2.1
  unfold X8_stepOf_107 at h
  exact k_iretR X Y h dX8_stepOf_107
set_option maxHeartbeats 4000000 in
set_option maxRecDepth 100000 in
theorem w_X8_stepOf_117 (X : Cx g p s m args meth c cX8_stepOf 4 RX8 (some .int)) {k0 : Int32} {st : Sg} {r9 : Int32}  (h : X8_stepOf_117 k0 = some r9) (Y : Hp g nwM (ceM g) A s.heap st H locs)  (hl : lv_has ls 4 []) : W p l e rm_X8_stepOf s m args below meth c H locs 0 0 (MQ below (QI g nwM (ceM g) A r9 st) args s 0 0 A) (F0 m 117 ls [.int k0]) := by
  have hx := X.1
  have hb := X.2.1
  unfold X8_stepOf_117 at h
  exact k_iretR X Y h dX8_stepOf_117
set_option maxHeartbeats 4000000 in
set_option maxRecDepth 100000 in
theorem w_X8_stepOf_137 (X : Cx g p s m args meth c cX8_stepOf 4 RX8 (some .int)) {k0 : Int32} {st : Sg} {r9 : Int32}  (h : X8_stepOf_137 k0 = some r9) (Y : Hp g nwM (ceM g) A s.heap st H locs)  (hl : lv_has ls 4 []) : W p l e rm_X8_stepOf s m args below meth c H locs 0 0 (MQ below (QI g nwM (ceM g) A r9 st) args s 0 0 A) (F0 m 137 ls [.int k0]) := by
  have hx := X.1
  have hb := X.2.1
  unfold X8_stepOf_137 at h
  exact k_iretR X Y h dX8_stepOf_137
set_option maxHeartbeats 4000000 in
set_option maxRecDepth 100000 in
theorem w_X8_stepOf_149 (X : Cx g p s m args meth c cX8_stepOf 4 RX8 (some .int)) {k0 : Int32} {st : Sg} {r9 : Int32}  (h : X8_stepOf_149 k0 = some r9) (Y : Hp g nwM (ceM g) A s.heap st H locs)  (hl : lv_has ls 4 []) : W p l e rm_X8_stepOf s m args below meth c H locs 0 0 (MQ below (QI g nwM (ceM g) A r9 st) args s 0 0 A) (F0 m 149 ls [.int k0]) := by
  have hx := X.1
  have hb := X.2.1
  unfold X8_stepOf_149 at h
  exact k_iretR X Y h dX8_stepOf_149
set_option maxHeartbeats 4000000 in
set_option maxRecDepth 100000 in
theorem w_X8_stepOf_160 (X : Cx g p s m args meth c cX8_stepOf 4 RX8 (some .int)) {k0 : Int32} {st : Sg} {r9 : Int32}  (h : X8_stepOf_160 k0 = some r9) (Y : Hp g nwM (ceM g) A s.heap st H locs)  (hl : lv_has ls 4 []) : W p l e rm_X8_stepOf s m args below meth c H locs 0 0 (MQ below (QI g nwM (ceM g) A r9 st) args s 0 0 A) (F0 m 160 ls [.int k0]) := by
  have hx := X.1
  have hb := X.2.1
  unfold X8_stepOf_160 at h
  exact k_iretR X Y h dX8_stepOf_160
set_option maxHeartbeats 4000000 in
set_option maxRecDepth 100000 in
theorem w_X8_stepOf_172 (X : Cx g p s m args meth c cX8_stepOf 4 RX8 (some .int)) {k0 : Int32} {st : Sg} {r9 : Int32}  (h : X8_stepOf_172 k0 = some r9) (Y : Hp g nwM (ceM g) A s.heap st H locs)  (hl : lv_has ls 4 []) : W p l e rm_X8_stepOf s m args below meth c H locs 0 0 (MQ below (QI g nwM (ceM g) A r9 st) args s 0 0 A) (F0 m 172 ls [.int k0]) := by
  have hx := X.1
  have hb := X.2.1
  unfold X8_stepOf_172 at h
  exact k_iretR X Y h dX8_stepOf_172
set_option maxHeartbeats 4000000 in
set_option maxRecDepth 100000 in
theorem w_X8_stepOf (X : Cx g p s m args meth c cX8_stepOf 4 RX8 (some .int)) {x0 : Int32} {x1 : Int32} {st : Sg} {r9 : Int32}  (h : X8_stepOf x0 x1 = some r9) (Y : Hp g nwM (ceM g) A s.heap st H locs)  (hl : lv_has ls 4 [(0, .int x0), (1, .int x1)]) : W p l e rm_X8_stepOf s m args below meth c H locs 0 0 (MQ below (QI g nwM (ceM g) A r9 st) args s 0 0 A) (F0 m 0 ls []) := by
  have hx := X.1
  have hb := X.2.1
  unfold X8_stepOf at h
  refine lv_iload_n hx hb dX8_stepOf_0 rfl (lv_at hl 1 rfl) ?_
  refine lv_i2l hx hb dX8_stepOf_1 rfl ?_
  refine k_ldc2 X lg_8_188 dX8_stepOf_2 ?_
  refine k_ldc2 X lg_8_190 dX8_stepOf_5 ?_
  obtain ⟨v2, hc1, h⟩ := bnd1_s h
  refine k_cI Y (k_runS (As := [.long (x1.toInt64), .long 48, .long 57]) (rest := []) X Y cl_8_83 (c_X8_in l hc1 _) ⟨rfl, rfl, Nat.le_of_ble_eq_true rfl, Nat.le_of_ble_eq_true rfl⟩ rfl hl.1 rfl (Nat.le_of_ble_eq_true rfl) dX8_stepOf_8 ⟨Nat.zero_le _, Nat.zero_le _⟩) (fun H locs Y => ?_)
  refine lv_istore_n (lv' := [(2, .int v2), (0, .int x0), (1, .int x1)]) hx hb dX8_stepOf_11 rfl hl (by decide) rfl (fun ls hl => ?_)
  refine lv_iload_n hx hb dX8_stepOf_12 rfl (lv_at hl 2 rfl) ?_
  refine lv_i2l hx hb dX8_stepOf_13 rfl ?_
  refine k_ldc2 X lg_8_188 dX8_stepOf_14 ?_
  refine k_ldc2 X lg_8_192 dX8_stepOf_17 ?_
  obtain ⟨v4, hc3, h⟩ := bnd1_s h
  refine k_cI Y (k_runS (As := [.long (x1.toInt64), .long 48, .long 52]) (rest := []) X Y cl_8_83 (c_X8_in l hc3 _) ⟨rfl, rfl, Nat.le_of_ble_eq_true rfl, Nat.le_of_ble_eq_true rfl⟩ rfl hl.1 rfl (Nat.le_of_ble_eq_true rfl) dX8_stepOf_20 ⟨Nat.zero_le _, Nat.zero_le _⟩) (fun H locs Y => ?_)
  refine lv_istore_n (lv' := [(3, .int v4), (2, .int v2), (0, .int x0), (1, .int x1)]) hx hb dX8_stepOf_23 rfl hl (by decide) rfl (fun ls hl => ?_)
  refine lv_iload_n hx hb dX8_stepOf_24 rfl (lv_at hl 2 rfl) ?_
  by_cases c5 : x0 = (0 : Int32)
  · have h := ite_t h c5
    refine lv_tableIn (tgt := 68) hx hb dX8_stepOf_25 (by rw [c5]; decide) (by rw [c5]; decide) (by rw [c5]; rfl) (by decide) ?_
    refine lv_iload_n hx hb dX8_stepOf_68 rfl (lv_at hl 3 rfl) ?_
    refine lv_bipush (v := 108) hx hb dX8_stepOf_69 (by decide) ?_
    refine lv_icmp_eq (tgt := 80) hx hb dX8_stepOf_71 (by decide) (fun c6 => ?_) (fun c6 => ?_)
    · have h := ite_t h c6
      exact w_X8_stepOf_80 X  h Y  (lv_sub hl [] rfl)
    · have h := ite_f h c6
      refine lv_iload_n hx hb dX8_stepOf_74 rfl (lv_at hl 3 rfl) ?_
      refine lv_bipush (v := 100) hx hb dX8_stepOf_75 (by decide) ?_
      refine lv_icmp_ne (tgt := 84) hx hb dX8_stepOf_77 (by decide) (fun c7 => ?_) (fun c7 => ?_)
      · have h := ite_f h c7
        refine lv_iload_n hx hb dX8_stepOf_84 rfl (lv_at hl 0 rfl) ?_
        refine lv_if_eq (tgt := 93) hx hb dX8_stepOf_85 (by decide) (fun c8 => ?_) (fun c8 => ?_)
        · have h := ite_t h c8
          refine lv_iconst (v := (-1)) hx hb dX8_stepOf_93 (by decide) ?_
          exact w_X8_stepOf_94 X  h Y  (lv_sub hl [] rfl)
        · have h := ite_f h c8
          refine lv_bipush (v := 7) hx hb dX8_stepOf_88 (by decide) ?_
          refine lv_goto (tgt := 94) hx hb dX8_stepOf_90 (by decide) ?_
          exact w_X8_stepOf_94 X  h Y  (lv_sub hl [] rfl)
      · have h := ite_t h c7
        exact w_X8_stepOf_80 X  h Y  (lv_sub hl [] rfl)
  · have h := ite_f h c5
    by_cases c9 : x0 = (1 : Int32)
    · have h := ite_t h c9
      refine lv_tableIn (tgt := 95) hx hb dX8_stepOf_25 (by rw [c9]; decide) (by rw [c9]; decide) (by rw [c9]; rfl) (by decide) ?_
      refine lv_iload_n hx hb dX8_stepOf_95 rfl (lv_at hl 3 rfl) ?_
      obtain ⟨v11, hc10, h⟩ := bnd1_s h
      refine k_cI Y (k_runS (As := [.int x1]) (rest := []) X Y cl_8_194 (c_X8_isHow l hc10 _) ⟨rfl, rfl, Nat.le_of_ble_eq_true rfl, Nat.le_of_ble_eq_true rfl⟩ rfl hl.1 rfl (Nat.le_of_ble_eq_true rfl) dX8_stepOf_96 ⟨Nat.zero_le _, Nat.zero_le _⟩) (fun H locs Y => ?_)
      refine lv_if_eq (tgt := 106) hx hb dX8_stepOf_99 (by decide) (fun c12 => ?_) (fun c12 => ?_)
      · have h := ite_t h c12
        refine lv_iconst (v := (-1)) hx hb dX8_stepOf_106 (by decide) ?_
        exact w_X8_stepOf_107 X  h Y  (lv_sub hl [] rfl)
      · have h := ite_f h c12
        refine lv_iconst (v := 2) hx hb dX8_stepOf_102 (by decide) ?_
        refine lv_goto (tgt := 107) hx hb dX8_stepOf_103 (by decide) ?_
        exact w_X8_stepOf_107 X  h Y  (lv_sub hl [] rfl)
    · have h := ite_f h c9
      by_cases c13 : x0 = (2 : Int32)
      · have h := ite_t h c13
        refine lv_tableIn (tgt := 108) hx hb dX8_stepOf_25 (by rw [c13]; decide) (by rw [c13]; decide) (by rw [c13]; rfl) (by decide) ?_
        refine lv_iload_n hx hb dX8_stepOf_108 rfl (lv_at hl 1 rfl) ?_
        refine lv_if_eq (tgt := 116) hx hb dX8_stepOf_109 (by decide) (fun c14 => ?_) (fun c14 => ?_)
        · have h := ite_t h c14
          refine lv_iconst (v := (-1)) hx hb dX8_stepOf_116 (by decide) ?_
          exact w_X8_stepOf_117 X  h Y  (lv_sub hl [] rfl)
        · have h := ite_f h c14
          refine lv_iconst (v := 3) hx hb dX8_stepOf_112 (by decide) ?_
          refine lv_goto (tgt := 117) hx hb dX8_stepOf_113 (by decide) ?_
          exact w_X8_stepOf_117 X  h Y  (lv_sub hl [] rfl)
      · have h := ite_f h c13
        by_cases c15 : x0 = (3 : Int32)
        · have h := ite_t h c15
          refine lv_tableIn (tgt := 118) hx hb dX8_stepOf_25 (by rw [c15]; decide) (by rw [c15]; decide) (by rw [c15]; rfl) (by decide) ?_
          refine lv_iload_n hx hb dX8_stepOf_118 rfl (lv_at hl 1 rfl) ?_
          refine lv_if_eq (tgt := 126) hx hb dX8_stepOf_119 (by decide) (fun c16 => ?_) (fun c16 => ?_)
          · have h := ite_t h c16
            refine lv_iload_n hx hb dX8_stepOf_126 rfl (lv_at hl 3 rfl) ?_
            refine lv_bipush (v := 58) hx hb dX8_stepOf_127 (by decide) ?_
            refine lv_icmp_ne (tgt := 136) hx hb dX8_stepOf_129 (by decide) (fun c17 => ?_) (fun c17 => ?_)
            · have h := ite_f h c17
              refine lv_iconst (v := (-1)) hx hb dX8_stepOf_136 (by decide) ?_
              exact w_X8_stepOf_137 X  h Y  (lv_sub hl [] rfl)
            · have h := ite_t h c17
              refine lv_iconst (v := 5) hx hb dX8_stepOf_132 (by decide) ?_
              refine lv_goto (tgt := 137) hx hb dX8_stepOf_133 (by decide) ?_
              exact w_X8_stepOf_137 X  h Y  (lv_sub hl [] rfl)
          · have h := ite_f h c16
            refine lv_iconst (v := 4) hx hb dX8_stepOf_122 (by decide) ?_
            refine lv_goto (tgt := 137) hx hb dX8_stepOf_123 (by decide) ?_
            exact w_X8_stepOf_137 X  h Y  (lv_sub hl [] rfl)
        · have h := ite_f h c15
          by_cases c18 : x0 = (4 : Int32)
          · have h := ite_t h c18
            refine lv_tableIn (tgt := 138) hx hb dX8_stepOf_25 (by rw [c18]; decide) (by rw [c18]; decide) (by rw [c18]; rfl) (by decide) ?_
            refine lv_iload_n hx hb dX8_stepOf_138 rfl (lv_at hl 3 rfl) ?_
            refine lv_bipush (v := 58) hx hb dX8_stepOf_139 (by decide) ?_
            refine lv_icmp_ne (tgt := 148) hx hb dX8_stepOf_141 (by decide) (fun c19 => ?_) (fun c19 => ?_)
            · have h := ite_f h c19
              refine lv_iconst (v := (-1)) hx hb dX8_stepOf_148 (by decide) ?_
              exact w_X8_stepOf_149 X  h Y  (lv_sub hl [] rfl)
            · have h := ite_t h c19
              refine lv_iconst (v := 5) hx hb dX8_stepOf_144 (by decide) ?_
              refine lv_goto (tgt := 149) hx hb dX8_stepOf_145 (by decide) ?_
              exact w_X8_stepOf_149 X  h Y  (lv_sub hl [] rfl)
          · have h := ite_f h c18
            by_cases c20 : x0 = (5 : Int32)
            · have h := ite_t h c20
              refine lv_tableIn (tgt := 150) hx hb dX8_stepOf_25 (by rw [c20]; decide) (by rw [c20]; decide) (by rw [c20]; rfl) (by decide) ?_
              refine lv_iload_n hx hb dX8_stepOf_150 rfl (lv_at hl 0 rfl) ?_
              refine lv_if_eq (tgt := 159) hx hb dX8_stepOf_151 (by decide) (fun c21 => ?_) (fun c21 => ?_)
              · have h := ite_t h c21
                refine lv_iconst (v := (-1)) hx hb dX8_stepOf_159 (by decide) ?_
                exact w_X8_stepOf_160 X  h Y  (lv_sub hl [] rfl)
              · have h := ite_f h c21
                refine lv_bipush (v := 6) hx hb dX8_stepOf_154 (by decide) ?_
                refine lv_goto (tgt := 160) hx hb dX8_stepOf_156 (by decide) ?_
                exact w_X8_stepOf_160 X  h Y  (lv_sub hl [] rfl)
            · have h := ite_f h c20
              by_cases c22 : x0 = (6 : Int32)
              · have h := ite_t h c22
                refine lv_tableIn (tgt := 161) hx hb dX8_stepOf_25 (by rw [c22]; decide) (by rw [c22]; decide) (by rw [c22]; rfl) (by decide) ?_
                refine lv_iload_n hx hb dX8_stepOf_161 rfl (lv_at hl 3 rfl) ?_
                refine lv_bipush (v := 59) hx hb dX8_stepOf_162 (by decide) ?_
                refine lv_icmp_ne (tgt := 171) hx hb dX8_stepOf_164 (by decide) (fun c23 => ?_) (fun c23 => ?_)
                · have h := ite_f h c23
                  refine lv_iconst (v := (-1)) hx hb dX8_stepOf_171 (by decide) ?_
                  exact w_X8_stepOf_172 X  h Y  (lv_sub hl [] rfl)
                · have h := ite_t h c23
                  refine lv_iconst (v := 0) hx hb dX8_stepOf_167 (by decide) ?_
                  refine lv_goto (tgt := 172) hx hb dX8_stepOf_168 (by decide) ?_
                  exact w_X8_stepOf_172 X  h Y  (lv_sub hl [] rfl)
              · have h := ite_f h c22
                refine lv_tableOut (tgt := 173) hx hb dX8_stepOf_25 (by have q0 := lv_neT c5 (a := 0) (by decide); have q1 := lv_neT c9 (a := 1) (by decide); have q2 := lv_neT c13 (a := 2) (by decide); have q3 := lv_neT c15 (a := 3) (by decide); have q4 := lv_neT c18 (a := 4) (by decide); have q5 := lv_neT c20 (a := 5) (by decide); have q6 := lv_neT c22 (a := 6) (by decide); omega) (by decide) ?_
                refine lv_iconst (v := (-1)) hx hb dX8_stepOf_173 (by decide) ?_
                exact k_iretR X Y h dX8_stepOf_174
theorem c_X8_stepOf (l : Launch) {g : Gx} {x0 : Int32} {x1 : Int32} {st : Sg} {r9 : Int32} (h : X8_stepOf x0 x1 = some r9) : MetI l yX8_stepOf cX8_stepOf 4 (some .int) rm_X8_stepOf g nwM (ceM g) [.int x0, .int x1] st r9 st :=
  met_of (Qc := fun A => QI g nwM (ceM g) A r9 st) (by decide) (Nat.le_of_ble_eq_true rfl) (fun p e s m below meth c A ls X Y hl => w_X8_stepOf X h Y hl)
def X8_fault_27   (x2 : Int32) (st : Sg) : Option Int32 :=
  some x2
def X8_fault_50   (k0 : Int32) (st : Sg) : Option Int32 :=
  some k0
def X8_fault_35   (x1 : Int32) (st : Sg) : Option Int32 :=
  if x1 = (7 : Int32) then
    X8_fault_50 (-6) st
  else
    X8_fault_50 (st.1 0 20) st
def X8_fault_4b  (rc4 : Int32 → Int32 → Option Int32) (x1 : Int32) (x2 : Int32) (st : Sg) : Option Int32 :=
  if (st.1 0 20) ≤ x2 then
    X8_fault_35 x1 st
  else
    cix x2 40 <|
    bnd1 (X8_stepOf x1 (st.1 14 x2.toNatClampNeg)) fun v4 =>
    if (0 : Int32) ≤ v4 then
      nm (x2 + 1) fun v6 =>
      rc4 v4 v6
    else
      X8_fault_27 x2 st
def X8_fault_4    (st : Sg) : Nat → Int32 → Int32 → Option Int32
  | 0, _, _ => none
  | k + 1, x1, x2 => X8_fault_4b   (X8_fault_4 st k) x1 x2 st
def X8_fault    (st : Sg) : Option Int32 :=
  X8_fault_4 st FU 0 0
abbrev rm_X8_fault : Room := { frames := 2, cells := 0, slots := 0, locals := 48 }
set_option maxHeartbeats 4000000 in
set_option maxRecDepth 100000 in
theorem w_X8_fault_27 (X : Cx g p s m args meth c cX8_fault 3 RX8 (some .int)) {x2 : Int32} {st : Sg} {r9 : Int32}  (h : X8_fault_27 x2 st = some r9) (Y : Hp g nwM (ceM g) A s.heap st H locs)  (hl : lv_has ls 3 [(2, .int x2)]) : W p l e rm_X8_fault s m args below meth c H locs 0 0 (MQ below (QI g nwM (ceM g) A r9 st) args s 0 0 A) (F0 m 27 ls []) := by
  have hx := X.1
  have hb := X.2.1
  unfold X8_fault_27 at h
  refine lv_iload_n hx hb dX8_fault_27 rfl (lv_at hl 0 rfl) ?_
  exact k_iretR X Y h dX8_fault_28
set_option maxHeartbeats 4000000 in
set_option maxRecDepth 100000 in
theorem w_X8_fault_50 (X : Cx g p s m args meth c cX8_fault 3 RX8 (some .int)) {k0 : Int32} {st : Sg} {r9 : Int32}  (h : X8_fault_50 k0 st = some r9) (Y : Hp g nwM (ceM g) A s.heap st H locs)  (hl : lv_has ls 3 []) : W p l e rm_X8_fault s m args below meth c H locs 0 0 (MQ below (QI g nwM (ceM g) A r9 st) args s 0 0 A) (F0 m 50 ls [.int k0]) := by
  have hx := X.1
  have hb := X.2.1
  unfold X8_fault_50 at h
  exact k_iretR X Y h dX8_fault_50
set_option maxHeartbeats 4000000 in
set_option maxRecDepth 100000 in
theorem w_X8_fault_35 (X : Cx g p s m args meth c cX8_fault 3 RX8 (some .int)) {x1 : Int32} {st : Sg} {r9 : Int32}  (h : X8_fault_35 x1 st = some r9) (Y : Hp g nwM (ceM g) A s.heap st H locs)  (hl : lv_has ls 3 [(0, .ref (g.2.1 0)), (1, .int x1)]) : W p l e rm_X8_fault s m args below meth c H locs 0 0 (MQ below (QI g nwM (ceM g) A r9 st) args s 0 0 A) (F0 m 35 ls []) := by
  have hx := X.1
  have hb := X.2.1
  unfold X8_fault_35 at h
  refine lv_iload_n hx hb dX8_fault_35 rfl (lv_at hl 1 rfl) ?_
  refine lv_bipush (v := 7) hx hb dX8_fault_36 (by decide) ?_
  refine lv_icmp_ne (tgt := 46) hx hb dX8_fault_38 (by decide) (fun c1 => ?_) (fun c1 => ?_)
  · have h := ite_f h c1
    refine lv_aload_n hx hb dX8_fault_46 rfl (lv_at hl 0 rfl) ?_
    refine k_get (v := .int (st.1 0 20)) X Y fl_8_185 0 (Nat.le_of_ble_eq_true rfl) rfl rfl dX8_fault_47 ?_
    exact w_X8_fault_50 X  h Y  (lv_sub hl [] rfl)
  · have h := ite_t h c1
    refine lv_bipush (v := (-6)) hx hb dX8_fault_41 (by decide) ?_
    refine lv_goto (tgt := 50) hx hb dX8_fault_43 (by decide) ?_
    exact w_X8_fault_50 X  h Y  (lv_sub hl [] rfl)
set_option maxHeartbeats 4000000 in
set_option maxRecDepth 100000 in
theorem w_X8_fault_4b (X : Cx g p s m args meth c cX8_fault 3 RX8 (some .int)) {x1 : Int32} {x2 : Int32} {st : Sg} {r9 : Int32} (rc4 : Int32 → Int32 → Option Int32) (hrc4 : ∀ (x1 : Int32) (x2 : Int32) (ls : Array Slot) (H : Heap) (locs : List Loc), rc4 x1 x2 = some r9 → Hp g nwM (ceM g) A s.heap st H locs → lv_has ls 3 [(0, .ref (g.2.1 0)), (1, .int x1), (2, .int x2)] → W p l e rm_X8_fault s m args below meth c H locs 0 0 (MQ below (QI g nwM (ceM g) A r9 st) args s 0 0 A) (F0 m 4 ls [])) (h : X8_fault_4b rc4 x1 x2 st = some r9) (Y : Hp g nwM (ceM g) A s.heap st H locs)  (hl : lv_has ls 3 [(0, .ref (g.2.1 0)), (1, .int x1), (2, .int x2)]) : W p l e rm_X8_fault s m args below meth c H locs 0 0 (MQ below (QI g nwM (ceM g) A r9 st) args s 0 0 A) (F0 m 4 ls []) := by
  have hx := X.1
  have hb := X.2.1
  unfold X8_fault_4b at h
  refine lv_iload_n hx hb dX8_fault_4 rfl (lv_at hl 2 rfl) ?_
  refine lv_aload_n hx hb dX8_fault_5 rfl (lv_at hl 0 rfl) ?_
  refine k_get (v := .int (st.1 0 20)) X Y fl_8_185 0 (Nat.le_of_ble_eq_true rfl) rfl rfl dX8_fault_6 ?_
  refine lv_icmp_ge (tgt := 35) hx hb dX8_fault_9 (by decide) (fun c1 => ?_) (fun c1 => ?_)
  · have h := ite_t h c1
    exact w_X8_fault_35 X  h Y  (lv_sub hl [0, 1] rfl)
  · have h := ite_f h c1
    refine lv_iload_n hx hb dX8_fault_12 rfl (lv_at hl 1 rfl) ?_
    refine lv_aload_n hx hb dX8_fault_13 rfl (lv_at hl 0 rfl) ?_
    refine k_get (v := .ref (g.2.1 14)) X Y fl_8_50 0 (Nat.le_of_ble_eq_true rfl) rfl rfl dX8_fault_14 ?_
    refine lv_iload_n hx hb dX8_fault_17 rfl (lv_at hl 2 rfl) ?_
    obtain ⟨i2, h⟩ := cix_s h
    refine k_iald X Y 14 (Nat.le_of_ble_eq_true rfl) (fun _ _ => rfl) i2 dX8_fault_18 ?_
    obtain ⟨v4, hc3, h⟩ := bnd1_s h
    refine k_cI Y (k_runS (As := [.int x1, .int (st.1 14 x2.toNatClampNeg)]) (rest := []) X Y cl_8_197 (c_X8_stepOf l hc3 _) ⟨rfl, rfl, Nat.le_of_ble_eq_true rfl, Nat.le_of_ble_eq_true rfl⟩ rfl hl.1 rfl (Nat.le_of_ble_eq_true rfl) dX8_fault_19 ⟨Nat.zero_le _, Nat.zero_le _⟩) (fun H locs Y => ?_)
    refine lv_istore_n (lv' := [(1, .int v4), (0, .ref (g.2.1 0)), (2, .int x2)]) hx hb dX8_fault_22 rfl hl (by decide) rfl (fun ls hl => ?_)
    refine lv_iload_n hx hb dX8_fault_23 rfl (lv_at hl 0 rfl) ?_
    refine lv_if_ge (tgt := 29) hx hb dX8_fault_24 (by decide) (fun c5 => ?_) (fun c5 => ?_)
    · have h := ite_t h c5
      obtain ⟨v6, ev6, h⟩ := nm_s h
      refine lv_iinc (v := v6) (lv' := [(2, .int v6), (1, .int v4), (0, .ref (g.2.1 0))]) hx hb dX8_fault_29 hl (k := 2) rfl (by rw [ev6]; rfl) (by decide) rfl (fun ls hl => ?_)
      refine lv_goto (tgt := 4) hx hb dX8_fault_32 (by decide) ?_
      exact hrc4 v4 v6 _ _ _ h Y (lv_sub hl [2, 1, 0] rfl)
    · have h := ite_f h c5
      exact w_X8_fault_27 X  h Y  (lv_sub hl [2] rfl)
theorem w_X8_fault_4 (X : Cx g p s m args meth c cX8_fault 3 RX8 (some .int))  {st : Sg} {r9 : Int32}   : ∀ (k : Nat) (x1 : Int32) (x2 : Int32) (ls : Array Slot) (H : Heap) (locs : List Loc), X8_fault_4 st k x1 x2 = some r9 → Hp g nwM (ceM g) A s.heap st H locs → lv_has ls 3 [(0, .ref (g.2.1 0)), (1, .int x1), (2, .int x2)] → W p l e rm_X8_fault s m args below meth c H locs 0 0 (MQ below (QI g nwM (ceM g) A r9 st) args s 0 0 A) (F0 m 4 ls []) := by
  intro k
  induction k with
  | zero =>
    intro x1 x2 ls H locs h
    exact none_s h
  | succ k ih =>
    intro x1 x2 ls H locs h Y hl
    exact w_X8_fault_4b X  (X8_fault_4 st k) ih h Y  hl
set_option maxHeartbeats 4000000 in
set_option maxRecDepth 100000 in
theorem w_X8_fault (X : Cx g p s m args meth c cX8_fault 3 RX8 (some .int))  {st : Sg} {r9 : Int32}  (h : X8_fault st = some r9) (Y : Hp g nwM (ceM g) A s.heap st H locs)  (hl : lv_has ls 3 [(0, .ref (g.2.1 0))]) : W p l e rm_X8_fault s m args below meth c H locs 0 0 (MQ below (QI g nwM (ceM g) A r9 st) args s 0 0 A) (F0 m 0 ls []) := by
  have hx := X.1
  have hb := X.2.1
  unfold X8_fault at h
  refine lv_iconst (v := 0) hx hb dX8_fault_0 (by decide) ?_
  refine lv_istore_n (lv' := [(1, .int 0), (0, .ref (g.2.1 0))]) hx hb dX8_fault_1 rfl hl (by decide) rfl (fun ls hl => ?_)
  refine lv_iconst (v := 0) hx hb dX8_fault_2 (by decide) ?_
  refine lv_istore_n (lv' := [(2, .int 0), (1, .int 0), (0, .ref (g.2.1 0))]) hx hb dX8_fault_3 rfl hl (by decide) rfl (fun ls hl => ?_)
  exact w_X8_fault_4 X   FU 0 0 _ _ _ h Y (lv_sub hl [2, 1, 0] rfl)
theorem c_X8_fault (l : Launch) {g : Gx}  {st : Sg} {r9 : Int32} (h : X8_fault st = some r9) : MetI l yX8_fault cX8_fault 3 (some .int) rm_X8_fault g nwM (ceM g) [.ref (g.2.1 0)] st r9 st :=
  met_of (Qc := fun A => QI g nwM (ceM g) A r9 st) (by decide) (Nat.le_of_ble_eq_true rfl) (fun p e s m below meth c A ls X Y hl => w_X8_fault X h Y hl)
def X8_isOnce_35  (rc4 : Int32 → Int32 → Option Int32) (k0 : Int32) (k1 : Int32) (x2 : Int32) (st : Sg) : Option Int32 :=
  nm (k0 + k1) fun v1 =>
  nm (x2 + 1) fun v2 =>
  rc4 v1 v2
def X8_isOnce_53   (k0 : Int32) (st : Sg) : Option Int32 :=
  cb01 k0 <| some k0
def X8_isOnce_43   (x1 : Int32) (st : Sg) : Option Int32 :=
  if (2 : Int32) ≤ x1 then
    X8_isOnce_53 0 st
  else
    X8_isOnce_53 1 st
def X8_isOnce_4b  (rc4 : Int32 → Int32 → Option Int32) (x1 : Int32) (x2 : Int32) (st : Sg) : Option Int32 :=
  if (st.1 0 1) ≤ x2 then
    X8_isOnce_43 x1 st
  else
    cix x2 6 <|
    cix (x2 - 1) 6 <|
    if (st.1 11 x2.toNatClampNeg) = (st.1 11 (x2 - 1).toNatClampNeg) then
      X8_isOnce_35 rc4 x1 0 x2 st
    else
      X8_isOnce_35 rc4 x1 1 x2 st
def X8_isOnce_4    (st : Sg) : Nat → Int32 → Int32 → Option Int32
  | 0, _, _ => none
  | k + 1, x1, x2 => X8_isOnce_4b   (X8_isOnce_4 st k) x1 x2 st
def X8_isOnce    (st : Sg) : Option Int32 :=
  X8_isOnce_4 st FU 0 1
abbrev rm_X8_isOnce : Room := { frames := 0, cells := 0, slots := 0, locals := 0 }
set_option maxHeartbeats 4000000 in
set_option maxRecDepth 100000 in
theorem w_X8_isOnce_35 (X : Cx g p s m args meth c cX8_isOnce 3 RX8 (some .boolean)) {k0 : Int32} {k1 : Int32} {x2 : Int32} {st : Sg} {r9 : Int32} (rc4 : Int32 → Int32 → Option Int32) (hrc4 : ∀ (x1 : Int32) (x2 : Int32) (ls : Array Slot) (H : Heap) (locs : List Loc), rc4 x1 x2 = some r9 → Hp g nwM (ceM g) A s.heap st H locs → lv_has ls 3 [(0, .ref (g.2.1 0)), (1, .int x1), (2, .int x2)] → W p l e rm_X8_isOnce s m args below meth c H locs 0 0 (MQ below (QI g nwM (ceM g) A r9 st) args s 0 0 A) (F0 m 4 ls [])) (h : X8_isOnce_35 rc4 k0 k1 x2 st = some r9) (Y : Hp g nwM (ceM g) A s.heap st H locs)  (hl : lv_has ls 3 [(0, .ref (g.2.1 0)), (2, .int x2)]) : W p l e rm_X8_isOnce s m args below meth c H locs 0 0 (MQ below (QI g nwM (ceM g) A r9 st) args s 0 0 A) (F0 m 35 ls [.int k1, .int k0]) := by
  have hx := X.1
  have hb := X.2.1
  unfold X8_isOnce_35 at h
  refine lv_iadd hx hb dX8_isOnce_35 ?_
  obtain ⟨v1, ev1, h⟩ := nm_s h
  refine k_nmI ev1 ?_
  refine lv_istore_n (lv' := [(1, .int v1), (0, .ref (g.2.1 0)), (2, .int x2)]) hx hb dX8_isOnce_36 rfl hl (by decide) rfl (fun ls hl => ?_)
  obtain ⟨v2, ev2, h⟩ := nm_s h
  refine lv_iinc (v := v2) (lv' := [(2, .int v2), (1, .int v1), (0, .ref (g.2.1 0))]) hx hb dX8_isOnce_37 hl (k := 2) rfl (by rw [ev2]; rfl) (by decide) rfl (fun ls hl => ?_)
  refine lv_goto (tgt := 4) hx hb dX8_isOnce_40 (by decide) ?_
  exact hrc4 v1 v2 _ _ _ h Y (lv_sub hl [2, 1, 0] rfl)
set_option maxHeartbeats 4000000 in
set_option maxRecDepth 100000 in
theorem w_X8_isOnce_53 (X : Cx g p s m args meth c cX8_isOnce 3 RX8 (some .boolean)) {k0 : Int32} {st : Sg} {r9 : Int32}  (h : X8_isOnce_53 k0 st = some r9) (Y : Hp g nwM (ceM g) A s.heap st H locs)  (hl : lv_has ls 3 []) : W p l e rm_X8_isOnce s m args below meth c H locs 0 0 (MQ below (QI g nwM (ceM g) A r9 st) args s 0 0 A) (F0 m 53 ls [.int k0]) := by
  have hx := X.1
  have hb := X.2.1
  unfold X8_isOnce_53 at h
  obtain ⟨b1, h⟩ := cb01_s h
  exact k_zretR X Y b1 h dX8_isOnce_53
set_option maxHeartbeats 4000000 in
set_option maxRecDepth 100000 in
theorem w_X8_isOnce_43 (X : Cx g p s m args meth c cX8_isOnce 3 RX8 (some .boolean)) {x1 : Int32} {st : Sg} {r9 : Int32}  (h : X8_isOnce_43 x1 st = some r9) (Y : Hp g nwM (ceM g) A s.heap st H locs)  (hl : lv_has ls 3 [(1, .int x1)]) : W p l e rm_X8_isOnce s m args below meth c H locs 0 0 (MQ below (QI g nwM (ceM g) A r9 st) args s 0 0 A) (F0 m 43 ls []) := by
  have hx := X.1
  have hb := X.2.1
  unfold X8_isOnce_43 at h
  refine lv_iload_n hx hb dX8_isOnce_43 rfl (lv_at hl 0 rfl) ?_
  refine lv_iconst (v := 2) hx hb dX8_isOnce_44 (by decide) ?_
  refine lv_icmp_ge (tgt := 52) hx hb dX8_isOnce_45 (by decide) (fun c1 => ?_) (fun c1 => ?_)
  · have h := ite_t h c1
    refine lv_iconst (v := 0) hx hb dX8_isOnce_52 (by decide) ?_
    exact w_X8_isOnce_53 X  h Y  (lv_sub hl [] rfl)
  · have h := ite_f h c1
    refine lv_iconst (v := 1) hx hb dX8_isOnce_48 (by decide) ?_
    refine lv_goto (tgt := 53) hx hb dX8_isOnce_49 (by decide) ?_
    exact w_X8_isOnce_53 X  h Y  (lv_sub hl [] rfl)
set_option maxHeartbeats 4000000 in
set_option maxRecDepth 100000 in
theorem w_X8_isOnce_4b (X : Cx g p s m args meth c cX8_isOnce 3 RX8 (some .boolean)) {x1 : Int32} {x2 : Int32} {st : Sg} {r9 : Int32} (rc4 : Int32 → Int32 → Option Int32) (hrc4 : ∀ (x1 : Int32) (x2 : Int32) (ls : Array Slot) (H : Heap) (locs : List Loc), rc4 x1 x2 = some r9 → Hp g nwM (ceM g) A s.heap st H locs → lv_has ls 3 [(0, .ref (g.2.1 0)), (1, .int x1), (2, .int x2)] → W p l e rm_X8_isOnce s m args below meth c H locs 0 0 (MQ below (QI g nwM (ceM g) A r9 st) args s 0 0 A) (F0 m 4 ls [])) (h : X8_isOnce_4b rc4 x1 x2 st = some r9) (Y : Hp g nwM (ceM g) A s.heap st H locs)  (hl : lv_has ls 3 [(0, .ref (g.2.1 0)), (1, .int x1), (2, .int x2)]) : W p l e rm_X8_isOnce s m args below meth c H locs 0 0 (MQ below (QI g nwM (ceM g) A r9 st) args s 0 0 A) (F0 m 4 ls []) := by
  have hx := X.1
  have hb := X.2.1
  unfold X8_isOnce_4b at h
  refine lv_iload_n hx hb dX8_isOnce_4 rfl (lv_at hl 2 rfl) ?_
  refine lv_aload_n hx hb dX8_isOnce_5 rfl (lv_at hl 0 rfl) ?_
  refine k_get (v := .int (st.1 0 1)) X Y fl_8_78 0 (Nat.le_of_ble_eq_true rfl) rfl rfl dX8_isOnce_6 ?_
  refine lv_icmp_ge (tgt := 43) hx hb dX8_isOnce_9 (by decide) (fun c1 => ?_) (fun c1 => ?_)
  · have h := ite_t h c1
    exact w_X8_isOnce_43 X  h Y  (lv_sub hl [1] rfl)
  · have h := ite_f h c1
    refine lv_iload_n hx hb dX8_isOnce_12 rfl (lv_at hl 1 rfl) ?_
    refine lv_aload_n hx hb dX8_isOnce_13 rfl (lv_at hl 0 rfl) ?_
    refine k_get (v := .ref (g.2.1 11)) X Y fl_8_41 0 (Nat.le_of_ble_eq_true rfl) rfl rfl dX8_isOnce_14 ?_
    refine lv_iload_n hx hb dX8_isOnce_17 rfl (lv_at hl 2 rfl) ?_
    obtain ⟨i2, h⟩ := cix_s h
    refine k_iald X Y 11 (Nat.le_of_ble_eq_true rfl) (fun _ _ => rfl) i2 dX8_isOnce_18 ?_
    refine lv_aload_n hx hb dX8_isOnce_19 rfl (lv_at hl 0 rfl) ?_
    refine k_get (v := .ref (g.2.1 11)) X Y fl_8_41 0 (Nat.le_of_ble_eq_true rfl) rfl rfl dX8_isOnce_20 ?_
    refine lv_iload_n hx hb dX8_isOnce_23 rfl (lv_at hl 2 rfl) ?_
    refine lv_iconst (v := 1) hx hb dX8_isOnce_24 (by decide) ?_
    refine lv_isub hx hb dX8_isOnce_25 ?_
    obtain ⟨i3, h⟩ := cix_s h
    refine k_iald X Y 11 (Nat.le_of_ble_eq_true rfl) (fun _ _ => rfl) i3 dX8_isOnce_26 ?_
    refine lv_icmp_eq (tgt := 34) hx hb dX8_isOnce_27 (by decide) (fun c4 => ?_) (fun c4 => ?_)
    · have h := ite_t h c4
      refine lv_iconst (v := 0) hx hb dX8_isOnce_34 (by decide) ?_
      exact w_X8_isOnce_35 X rc4 hrc4 h Y  (lv_sub hl [0, 2] rfl)
    · have h := ite_f h c4
      refine lv_iconst (v := 1) hx hb dX8_isOnce_30 (by decide) ?_
      refine lv_goto (tgt := 35) hx hb dX8_isOnce_31 (by decide) ?_
      exact w_X8_isOnce_35 X rc4 hrc4 h Y  (lv_sub hl [0, 2] rfl)
theorem w_X8_isOnce_4 (X : Cx g p s m args meth c cX8_isOnce 3 RX8 (some .boolean))  {st : Sg} {r9 : Int32}   : ∀ (k : Nat) (x1 : Int32) (x2 : Int32) (ls : Array Slot) (H : Heap) (locs : List Loc), X8_isOnce_4 st k x1 x2 = some r9 → Hp g nwM (ceM g) A s.heap st H locs → lv_has ls 3 [(0, .ref (g.2.1 0)), (1, .int x1), (2, .int x2)] → W p l e rm_X8_isOnce s m args below meth c H locs 0 0 (MQ below (QI g nwM (ceM g) A r9 st) args s 0 0 A) (F0 m 4 ls []) := by
  intro k
  induction k with
  | zero =>
    intro x1 x2 ls H locs h
    exact none_s h
  | succ k ih =>
    intro x1 x2 ls H locs h Y hl
    exact w_X8_isOnce_4b X  (X8_isOnce_4 st k) ih h Y  hl
set_option maxHeartbeats 4000000 in
set_option maxRecDepth 100000 in
theorem w_X8_isOnce (X : Cx g p s m args meth c cX8_isOnce 3 RX8 (some .boolean))  {st : Sg} {r9 : Int32}  (h : X8_isOnce st = some r9) (Y : Hp g nwM (ceM g) A s.heap st H locs)  (hl : lv_has ls 3 [(0, .ref (g.2.1 0))]) : W p l e rm_X8_isOnce s m args below meth c H locs 0 0 (MQ below (QI g nwM (ceM g) A r9 st) args s 0 0 A) (F0 m 0 ls []) := by
  have hx := X.1
  have hb := X.2.1
  unfold X8_isOnce at h
  refine lv_iconst (v := 0) hx hb dX8_isOnce_0 (by decide) ?_
  refine lv_istore_n (lv' := [(1, .int 0), (0, .ref (g.2.1 0))]) hx hb dX8_isOnce_1 rfl hl (by decide) rfl (fun ls hl => ?_)
  refine lv_iconst (v := 1) hx hb dX8_isOnce_2 (by decide) ?_
  refine lv_istore_n (lv' := [(2, .int 1), (1, .int 0), (0, .ref (g.2.1 0))]) hx hb dX8_isOnce_3 rfl hl (by decide) rfl (fun ls hl => ?_)
  exact w_X8_isOnce_4 X   FU 0 1 _ _ _ h Y (lv_sub hl [2, 1, 0] rfl)
theorem c_X8_isOnce (l : Launch) {g : Gx}  {st : Sg} {r9 : Int32} (h : X8_isOnce st = some r9) : MetI l yX8_isOnce cX8_isOnce 3 (some .boolean) rm_X8_isOnce g nwM (ceM g) [.ref (g.2.1 0)] st r9 st :=
  met_of (Qc := fun A => QI g nwM (ceM g) A r9 st) (by decide) (Nat.le_of_ble_eq_true rfl) (fun p e s m below meth c A ls X Y hl => w_X8_isOnce X h Y hl)
def X8_pickOf_66  (rc9 : Int32 → Int32 → Int32 → Option Int32) (x1 : Int32) (x2 : Int32) (x3 : Int32) (x4 : Int32) (x5 : Int32) (st : Sg) : Option Int32 :=
  nm (x5 + 1) fun v1 =>
  rc9 x3 x4 v1
def X8_pickOf_72   (x3 : Int32) (st : Sg) : Option Int32 :=
  some x3
def X8_pickOf_9b  (rc9 : Int32 → Int32 → Int32 → Option Int32) (x1 : Int32) (x2 : Int32) (x3 : Int32) (x4 : Int32) (x5 : Int32) (st : Sg) : Option Int32 :=
  if (st.1 0 1) ≤ x5 then
    X8_pickOf_72 x3 st
  else
    bnd1 (X8_worthOf x1 x5 st) fun v3 =>
    cix x5 6 <|
    cix (st.1 11 x5.toNatClampNeg) 5 <|
    cix x1 3 <|
    nm ((v3 - (st.1 1 (st.1 11 x5.toNatClampNeg).toNatClampNeg)) - ((st.1 5 x1.toNatClampNeg) * (x5 - x2))) fun v7 =>
    if v7 ≤ x4 then
      X8_pickOf_66 rc9 x1 x2 x3 x4 x5 st
    else
      X8_pickOf_66 rc9 x1 x2 x5 v7 x5 st
def X8_pickOf_9   (x1 : Int32) (x2 : Int32) (st : Sg) : Nat → Int32 → Int32 → Int32 → Option Int32
  | 0, _, _, _ => none
  | k + 1, x3, x4, x5 => X8_pickOf_9b   (X8_pickOf_9 x1 x2 st k) x1 x2 x3 x4 x5 st
def X8_pickOf   (x1 : Int32) (x2 : Int32) (st : Sg) : Option Int32 :=
  X8_pickOf_9 x1 x2 st FU (-6) (-1) x2
abbrev rm_X8_pickOf : Room := { frames := 1, cells := 0, slots := 0, locals := 23 }
set_option maxHeartbeats 4000000 in
set_option maxRecDepth 100000 in
theorem w_X8_pickOf_66 (X : Cx g p s m args meth c cX8_pickOf 7 RX8 (some .int)) {x1 : Int32} {x2 : Int32} {x3 : Int32} {x4 : Int32} {x5 : Int32} {st : Sg} {r9 : Int32} (rc9 : Int32 → Int32 → Int32 → Option Int32) (hrc9 : ∀ (x3 : Int32) (x4 : Int32) (x5 : Int32) (ls : Array Slot) (H : Heap) (locs : List Loc), rc9 x3 x4 x5 = some r9 → Hp g nwM (ceM g) A s.heap st H locs → lv_has ls 7 [(0, .ref (g.2.1 0)), (1, .int x1), (2, .int x2), (3, .int x3), (4, .int x4), (5, .int x5)] → W p l e rm_X8_pickOf s m args below meth c H locs 0 0 (MQ below (QI g nwM (ceM g) A r9 st) args s 0 0 A) (F0 m 9 ls [])) (h : X8_pickOf_66 rc9 x1 x2 x3 x4 x5 st = some r9) (Y : Hp g nwM (ceM g) A s.heap st H locs)  (hl : lv_has ls 7 [(0, .ref (g.2.1 0)), (1, .int x1), (2, .int x2), (3, .int x3), (4, .int x4), (5, .int x5)]) : W p l e rm_X8_pickOf s m args below meth c H locs 0 0 (MQ below (QI g nwM (ceM g) A r9 st) args s 0 0 A) (F0 m 66 ls []) := by
  have hx := X.1
  have hb := X.2.1
  unfold X8_pickOf_66 at h
  obtain ⟨v1, ev1, h⟩ := nm_s h
  refine lv_iinc (v := v1) (lv' := [(5, .int v1), (0, .ref (g.2.1 0)), (1, .int x1), (2, .int x2), (3, .int x3), (4, .int x4)]) hx hb dX8_pickOf_66 hl (k := 5) rfl (by rw [ev1]; rfl) (by decide) rfl (fun ls hl => ?_)
  refine lv_goto (tgt := 9) hx hb dX8_pickOf_69 (by decide) ?_
  exact hrc9 x3 x4 v1 _ _ _ h Y (lv_sub hl [1, 2, 3, 4, 5, 0] rfl)
set_option maxHeartbeats 4000000 in
set_option maxRecDepth 100000 in
theorem w_X8_pickOf_72 (X : Cx g p s m args meth c cX8_pickOf 7 RX8 (some .int)) {x3 : Int32} {st : Sg} {r9 : Int32}  (h : X8_pickOf_72 x3 st = some r9) (Y : Hp g nwM (ceM g) A s.heap st H locs)  (hl : lv_has ls 7 [(3, .int x3)]) : W p l e rm_X8_pickOf s m args below meth c H locs 0 0 (MQ below (QI g nwM (ceM g) A r9 st) args s 0 0 A) (F0 m 72 ls []) := by
  have hx := X.1
  have hb := X.2.1
  unfold X8_pickOf_72 at h
  refine lv_iload_n hx hb dX8_pickOf_72 rfl (lv_at hl 0 rfl) ?_
  exact k_iretR X Y h dX8_pickOf_73
set_option maxHeartbeats 4000000 in
set_option maxRecDepth 100000 in
theorem w_X8_pickOf_9b (X : Cx g p s m args meth c cX8_pickOf 7 RX8 (some .int)) {x1 : Int32} {x2 : Int32} {x3 : Int32} {x4 : Int32} {x5 : Int32} {st : Sg} {r9 : Int32} (rc9 : Int32 → Int32 → Int32 → Option Int32) (hrc9 : ∀ (x3 : Int32) (x4 : Int32) (x5 : Int32) (ls : Array Slot) (H : Heap) (locs : List Loc), rc9 x3 x4 x5 = some r9 → Hp g nwM (ceM g) A s.heap st H locs → lv_has ls 7 [(0, .ref (g.2.1 0)), (1, .int x1), (2, .int x2), (3, .int x3), (4, .int x4), (5, .int x5)] → W p l e rm_X8_pickOf s m args below meth c H locs 0 0 (MQ below (QI g nwM (ceM g) A r9 st) args s 0 0 A) (F0 m 9 ls [])) (h : X8_pickOf_9b rc9 x1 x2 x3 x4 x5 st = some r9) (Y : Hp g nwM (ceM g) A s.heap st H locs)  (hl : lv_has ls 7 [(0, .ref (g.2.1 0)), (1, .int x1), (2, .int x2), (3, .int x3), (4, .int x4), (5, .int x5)]) : W p l e rm_X8_pickOf s m args below meth c H locs 0 0 (MQ below (QI g nwM (ceM g) A r9 st) args s 0 0 A) (F0 m 9 ls []) := by
  have hx := X.1
  have hb := X.2.1
  unfold X8_pickOf_9b at h
  refine lv_iload hx hb dX8_pickOf_9 (lv_at hl 5 rfl) ?_
  refine lv_aload_n hx hb dX8_pickOf_11 rfl (lv_at hl 0 rfl) ?_
  refine k_get (v := .int (st.1 0 1)) X Y fl_8_78 0 (Nat.le_of_ble_eq_true rfl) rfl rfl dX8_pickOf_12 ?_
  refine lv_icmp_ge (tgt := 72) hx hb dX8_pickOf_15 (by decide) (fun c1 => ?_) (fun c1 => ?_)
  · have h := ite_t h c1
    exact w_X8_pickOf_72 X  h Y  (lv_sub hl [3] rfl)
  · have h := ite_f h c1
    refine lv_aload_n hx hb dX8_pickOf_18 rfl (lv_at hl 0 rfl) ?_
    refine lv_iload_n hx hb dX8_pickOf_19 rfl (lv_at hl 1 rfl) ?_
    refine lv_iload hx hb dX8_pickOf_20 (lv_at hl 5 rfl) ?_
    obtain ⟨v3, hc2, h⟩ := bnd1_s h
    refine k_cI Y (k_runV (As := [.int x1, .int x5]) (rest := []) (o := 0) X Y cl_8_116 (c_X8_worthOf l hc2 _) ⟨rfl, rfl, Nat.le_of_ble_eq_true rfl, Nat.le_of_ble_eq_true rfl⟩ (Nat.le_of_ble_eq_true rfl) rfl rfl hl.1 rfl (Nat.le_of_ble_eq_true rfl) dX8_pickOf_22 ⟨Nat.zero_le _, Nat.zero_le _⟩) (fun H locs Y => ?_)
    refine lv_aload_n hx hb dX8_pickOf_25 rfl (lv_at hl 0 rfl) ?_
    refine k_get (v := .ref (g.2.1 1)) X Y fl_8_7 0 (Nat.le_of_ble_eq_true rfl) rfl rfl dX8_pickOf_26 ?_
    refine lv_aload_n hx hb dX8_pickOf_29 rfl (lv_at hl 0 rfl) ?_
    refine k_get (v := .ref (g.2.1 11)) X Y fl_8_41 0 (Nat.le_of_ble_eq_true rfl) rfl rfl dX8_pickOf_30 ?_
    refine lv_iload hx hb dX8_pickOf_33 (lv_at hl 5 rfl) ?_
    obtain ⟨i4, h⟩ := cix_s h
    refine k_iald X Y 11 (Nat.le_of_ble_eq_true rfl) (fun _ _ => rfl) i4 dX8_pickOf_35 ?_
    obtain ⟨i5, h⟩ := cix_s h
    refine k_iald X Y 1 (Nat.le_of_ble_eq_true rfl) (fun _ _ => rfl) i5 dX8_pickOf_36 ?_
    refine lv_isub hx hb dX8_pickOf_37 ?_
    refine lv_aload_n hx hb dX8_pickOf_38 rfl (lv_at hl 0 rfl) ?_
    refine k_get (v := .ref (g.2.1 5)) X Y fl_8_22 0 (Nat.le_of_ble_eq_true rfl) rfl rfl dX8_pickOf_39 ?_
    refine lv_iload_n hx hb dX8_pickOf_42 rfl (lv_at hl 1 rfl) ?_
    obtain ⟨i6, h⟩ := cix_s h
    refine k_iald X Y 5 (Nat.le_of_ble_eq_true rfl) (fun _ _ => rfl) i6 dX8_pickOf_43 ?_
    refine lv_iload hx hb dX8_pickOf_44 (lv_at hl 5 rfl) ?_
    refine lv_iload_n hx hb dX8_pickOf_46 rfl (lv_at hl 2 rfl) ?_
    refine lv_isub hx hb dX8_pickOf_47 ?_
    refine lv_imul hx hb dX8_pickOf_48 ?_
    refine lv_isub hx hb dX8_pickOf_49 ?_
    obtain ⟨v7, ev7, h⟩ := nm_s h
    refine k_nmI ev7 ?_
    refine lv_istore (lv' := [(6, .int v7), (0, .ref (g.2.1 0)), (1, .int x1), (2, .int x2), (3, .int x3), (4, .int x4), (5, .int x5)]) hx hb dX8_pickOf_50 hl (by decide) rfl (fun ls hl => ?_)
    refine lv_iload hx hb dX8_pickOf_52 (lv_at hl 0 rfl) ?_
    refine lv_iload hx hb dX8_pickOf_54 (lv_at hl 5 rfl) ?_
    refine lv_icmp_le (tgt := 66) hx hb dX8_pickOf_56 (by decide) (fun c8 => ?_) (fun c8 => ?_)
    · have h := ite_t h c8
      exact w_X8_pickOf_66 X rc9 hrc9 h Y  (lv_sub hl [1, 2, 3, 4, 5, 6] rfl)
    · have h := ite_f h c8
      refine lv_iload hx hb dX8_pickOf_59 (lv_at hl 0 rfl) ?_
      refine lv_istore (lv' := [(4, .int v7), (6, .int v7), (0, .ref (g.2.1 0)), (1, .int x1), (2, .int x2), (3, .int x3), (5, .int x5)]) hx hb dX8_pickOf_61 hl (by decide) rfl (fun ls hl => ?_)
      refine lv_iload hx hb dX8_pickOf_63 (lv_at hl 6 rfl) ?_
      refine lv_istore_n (lv' := [(3, .int x5), (4, .int v7), (6, .int v7), (0, .ref (g.2.1 0)), (1, .int x1), (2, .int x2), (5, .int x5)]) hx hb dX8_pickOf_65 rfl hl (by decide) rfl (fun ls hl => ?_)
      exact w_X8_pickOf_66 X rc9 hrc9 h Y  (lv_sub hl [3, 4, 5, 0, 1, 6] rfl)
theorem w_X8_pickOf_9 (X : Cx g p s m args meth c cX8_pickOf 7 RX8 (some .int)) {x1 : Int32} {x2 : Int32} {st : Sg} {r9 : Int32}   : ∀ (k : Nat) (x3 : Int32) (x4 : Int32) (x5 : Int32) (ls : Array Slot) (H : Heap) (locs : List Loc), X8_pickOf_9 x1 x2 st k x3 x4 x5 = some r9 → Hp g nwM (ceM g) A s.heap st H locs → lv_has ls 7 [(0, .ref (g.2.1 0)), (1, .int x1), (2, .int x2), (3, .int x3), (4, .int x4), (5, .int x5)] → W p l e rm_X8_pickOf s m args below meth c H locs 0 0 (MQ below (QI g nwM (ceM g) A r9 st) args s 0 0 A) (F0 m 9 ls []) := by
  intro k
  induction k with
  | zero =>
    intro x3 x4 x5 ls H locs h
    exact none_s h
  | succ k ih =>
    intro x3 x4 x5 ls H locs h Y hl
    exact w_X8_pickOf_9b X  (X8_pickOf_9 x1 x2 st k) ih h Y  hl
set_option maxHeartbeats 4000000 in
set_option maxRecDepth 100000 in
theorem w_X8_pickOf (X : Cx g p s m args meth c cX8_pickOf 7 RX8 (some .int)) {x1 : Int32} {x2 : Int32} {st : Sg} {r9 : Int32}  (h : X8_pickOf x1 x2 st = some r9) (Y : Hp g nwM (ceM g) A s.heap st H locs)  (hl : lv_has ls 7 [(0, .ref (g.2.1 0)), (1, .int x1), (2, .int x2)]) : W p l e rm_X8_pickOf s m args below meth c H locs 0 0 (MQ below (QI g nwM (ceM g) A r9 st) args s 0 0 A) (F0 m 0 ls []) := by
  have hx := X.1
  have hb := X.2.1
  unfold X8_pickOf at h
  refine lv_bipush (v := (-6)) hx hb dX8_pickOf_0 (by decide) ?_
  refine lv_istore_n (lv' := [(3, .int (-6)), (0, .ref (g.2.1 0)), (1, .int x1), (2, .int x2)]) hx hb dX8_pickOf_2 rfl hl (by decide) rfl (fun ls hl => ?_)
  refine lv_iconst (v := (-1)) hx hb dX8_pickOf_3 (by decide) ?_
  refine lv_istore (lv' := [(4, .int (-1)), (3, .int (-6)), (0, .ref (g.2.1 0)), (1, .int x1), (2, .int x2)]) hx hb dX8_pickOf_4 hl (by decide) rfl (fun ls hl => ?_)
  refine lv_iload_n hx hb dX8_pickOf_6 rfl (lv_at hl 4 rfl) ?_
  refine lv_istore (lv' := [(5, .int x2), (4, .int (-1)), (3, .int (-6)), (0, .ref (g.2.1 0)), (1, .int x1), (2, .int x2)]) hx hb dX8_pickOf_7 hl (by decide) rfl (fun ls hl => ?_)
  exact w_X8_pickOf_9 X   FU (-6) (-1) x2 _ _ _ h Y (lv_sub hl [3, 4, 5, 2, 1, 0] rfl)
theorem c_X8_pickOf (l : Launch) {g : Gx} {x1 : Int32} {x2 : Int32} {st : Sg} {r9 : Int32} (h : X8_pickOf x1 x2 st = some r9) : MetI l yX8_pickOf cX8_pickOf 7 (some .int) rm_X8_pickOf g nwM (ceM g) [.ref (g.2.1 0), .int x1, .int x2] st r9 st :=
  met_of (Qc := fun A => QI g nwM (ceM g) A r9 st) (by decide) (Nat.le_of_ble_eq_true rfl) (fun p e s m below meth c A ls X Y hl => w_X8_pickOf X h Y hl)
def X8_meet_127  (rc11 : Int32 → Sg → Option Sg) (rc29 : Int32 → Sg → Option Sg) (rc41 : Int32 → Sg → Option Sg) (x1 : Int32) (x2 : Int32) (x3 : Int32) (x4 : Int32) (st : Sg) : Option Sg :=
  nm (x4 + (-1)) fun v1 =>
  rc41 v1 st
def X8_meet_108  (rc11 : Int32 → Sg → Option Sg) (rc29 : Int32 → Sg → Option Sg) (rc41 : Int32 → Sg → Option Sg) (k0 : Int32) (x1 : Int32) (x2 : Int32) (x3 : Int32) (x4 : Int32) (st : Sg) : Option Sg :=
  if k0 = (0 : Int32) then
    X8_meet_127 rc11 rc29 rc41 x1 x2 x3 x4 st
  else
    cix x4 3 <|
    bnd1 (X8_buyer (st.1 2 x4.toNatClampNeg) x2 st) fun st4 =>
    X8_meet_127 rc11 rc29 rc41 x1 x2 x3 x4 st4
def X8_meet_107  (rc11 : Int32 → Sg → Option Sg) (rc29 : Int32 → Sg → Option Sg) (rc41 : Int32 → Sg → Option Sg) (x1 : Int32) (x2 : Int32) (x3 : Int32) (x4 : Int32) (st : Sg) : Option Sg :=
  X8_meet_108 rc11 rc29 rc41 0 x1 x2 x3 x4 st
def X8_meet_61  (rc11 : Int32 → Sg → Option Sg) (rc29 : Int32 → Sg → Option Sg) (rc41 : Int32 → Sg → Option Sg) (k0 : Int32) (x1 : Int32) (x2 : Int32) (x3 : Int32) (x4 : Int32) (st : Sg) : Option Sg :=
  if k0 = (0 : Int32) then
    if x3 = x1 then
      bnd1 (X8_worthOf x4 x1 st) fun v4 =>
      if v4 < x2 then
        X8_meet_107 rc11 rc29 rc41 x1 x2 x3 x4 st
      else
        X8_meet_108 rc11 rc29 rc41 1 x1 x2 x3 x4 st
    else
      X8_meet_107 rc11 rc29 rc41 x1 x2 x3 x4 st
  else
    bnd1 (X8_pickOf x4 x3 st) fun v7 =>
    if v7 = x1 then
      X8_meet_108 rc11 rc29 rc41 1 x1 x2 x3 x4 st
    else
      X8_meet_108 rc11 rc29 rc41 0 x1 x2 x3 x4 st
def X8_meet_133  (rc11 : Int32 → Sg → Option Sg) (rc29 : Int32 → Sg → Option Sg) (x1 : Int32) (x2 : Int32) (x3 : Int32) (st : Sg) : Option Sg :=
  nm (x3 + (-1)) fun v1 =>
  rc29 v1 st
def X8_meet_41b  (rc11 : Int32 → Sg → Option Sg) (rc29 : Int32 → Sg → Option Sg) (rc41 : Int32 → Sg → Option Sg) (x1 : Int32) (x2 : Int32) (x3 : Int32) (x4 : Int32) (st : Sg) : Option Sg :=
  if x4 < (0 : Int32) then
    X8_meet_133 rc11 rc29 x1 x2 x3 st
  else
    cix x4 3 <|
    if (st.1 5 x4.toNatClampNeg) < (0 : Int32) then
      X8_meet_61 rc11 rc29 rc41 0 x1 x2 x3 x4 st
    else
      X8_meet_61 rc11 rc29 rc41 1 x1 x2 x3 x4 st
def X8_meet_41  (rc11 : Int32 → Sg → Option Sg) (rc29 : Int32 → Sg → Option Sg) (x1 : Int32) (x2 : Int32) (x3 : Int32) : Nat → Int32 → Sg → Option Sg
  | 0, _, _ => none
  | k + 1, x4, st => X8_meet_41b  rc11 rc29 (X8_meet_41 rc11 rc29 x1 x2 x3 k) x1 x2 x3 x4 st
def X8_meet_139  (rc11 : Int32 → Sg → Option Sg) (x1 : Int32) (st : Sg) : Option Sg :=
  nm (x1 + (-1)) fun v1 =>
  rc11 v1 st
def X8_meet_29b  (rc11 : Int32 → Sg → Option Sg) (rc29 : Int32 → Sg → Option Sg) (x1 : Int32) (x2 : Int32) (x3 : Int32) (st : Sg) : Option Sg :=
  if x3 < (0 : Int32) then
    X8_meet_139 rc11 x1 st
  else
    nm ((st.1 0 9) - 1) fun v2 =>
    X8_meet_41 rc11 rc29 x1 x2 x3 FU v2 st
def X8_meet_29  (rc11 : Int32 → Sg → Option Sg) (x1 : Int32) (x2 : Int32) : Nat → Int32 → Sg → Option Sg
  | 0, _, _ => none
  | k + 1, x3, st => X8_meet_29b  rc11 (X8_meet_29 rc11 x1 x2 k) x1 x2 x3 st
def X8_meet_174    (st : Sg) : Option Sg :=
  some st
def X8_meet_145b  (rc145 : Sg → Option Sg)  (st : Sg) : Option Sg :=
  bnd1 (X8_power ((st.1 0 9) * (st.1 0 1))) fun v2 =>
  if (0 : Int32) ≤ (lg_cmp (st.2 0 12) v2) then
    X8_meet_174 st
  else
    bnd1 (X8_buyer 0 0 st) fun st5 =>
    rc145 st5
def X8_meet_145    : Nat → Sg → Option Sg
  | 0, _ => none
  | k + 1, st => X8_meet_145b   (X8_meet_145 k)  st
def X8_meet_11b  (rc11 : Int32 → Sg → Option Sg) (x1 : Int32) (st : Sg) : Option Sg :=
  if x1 < (0 : Int32) then
    X8_meet_145 FU st
  else
    cix x1 6 <|
    cix (st.1 11 x1.toNatClampNeg) 5 <|
    nm (st.1 1 (st.1 11 x1.toNatClampNeg).toNatClampNeg) fun v4 =>
    X8_meet_29 rc11 x1 v4 FU x1 st
def X8_meet_11    : Nat → Int32 → Sg → Option Sg
  | 0, _, _ => none
  | k + 1, x1, st => X8_meet_11b   (X8_meet_11 k) x1 st
def X8_meet    (st : Sg) : Option Sg :=
  bnd1 (X8_beginEnd st) fun st2 =>
  nm ((st2.1 0 1) - 1) fun v3 =>
  X8_meet_11 FU v3 st2
abbrev rm_X8_meet : Room := { frames := 2, cells := 0, slots := 0, locals := 49 }
set_option maxHeartbeats 4000000 in
set_option maxRecDepth 100000 in
theorem w_X8_meet_127 (X : Cx g p s m args meth c cX8_meet 7 RX8 none) {x1 : Int32} {x2 : Int32} {x3 : Int32} {x4 : Int32} {st : Sg} {st9 : Sg} (rc11 : Int32 → Sg → Option Sg) (hrc11 : ∀ (x1 : Int32) (st : Sg) (ls : Array Slot) (H : Heap) (locs : List Loc), rc11 x1 st = some st9 → Hp g nwM (ceM g) A s.heap st H locs → lv_has ls 7 [(0, .ref (g.2.1 0)), (1, .int x1)] → W p l e rm_X8_meet s m args below meth c H locs 0 0 (MQ below (QV g nwM (ceM g) A st9) args s 0 0 A) (F0 m 11 ls [])) (rc29 : Int32 → Sg → Option Sg) (hrc29 : ∀ (x3 : Int32) (st : Sg) (ls : Array Slot) (H : Heap) (locs : List Loc), rc29 x3 st = some st9 → Hp g nwM (ceM g) A s.heap st H locs → lv_has ls 7 [(0, .ref (g.2.1 0)), (1, .int x1), (2, .int x2), (3, .int x3)] → W p l e rm_X8_meet s m args below meth c H locs 0 0 (MQ below (QV g nwM (ceM g) A st9) args s 0 0 A) (F0 m 29 ls [])) (rc41 : Int32 → Sg → Option Sg) (hrc41 : ∀ (x4 : Int32) (st : Sg) (ls : Array Slot) (H : Heap) (locs : List Loc), rc41 x4 st = some st9 → Hp g nwM (ceM g) A s.heap st H locs → lv_has ls 7 [(0, .ref (g.2.1 0)), (1, .int x1), (2, .int x2), (3, .int x3), (4, .int x4)] → W p l e rm_X8_meet s m args below meth c H locs 0 0 (MQ below (QV g nwM (ceM g) A st9) args s 0 0 A) (F0 m 41 ls [])) (h : X8_meet_127 rc11 rc29 rc41 x1 x2 x3 x4 st = some st9) (Y : Hp g nwM (ceM g) A s.heap st H locs)  (hl : lv_has ls 7 [(0, .ref (g.2.1 0)), (1, .int x1), (2, .int x2), (3, .int x3), (4, .int x4)]) : W p l e rm_X8_meet s m args below meth c H locs 0 0 (MQ below (QV g nwM (ceM g) A st9) args s 0 0 A) (F0 m 127 ls []) := by
  have hx := X.1
  have hb := X.2.1
  unfold X8_meet_127 at h
  obtain ⟨v1, ev1, h⟩ := nm_s h
  refine lv_iinc (v := v1) (lv' := [(4, .int v1), (0, .ref (g.2.1 0)), (1, .int x1), (2, .int x2), (3, .int x3)]) hx hb dX8_meet_127 hl (k := 4) rfl (by rw [ev1]; rfl) (by decide) rfl (fun ls hl => ?_)
  refine lv_goto (tgt := 41) hx hb dX8_meet_130 (by decide) ?_
  exact hrc41 v1 st _ _ _ h Y (lv_sub hl [1, 2, 3, 4, 0] rfl)
set_option maxHeartbeats 4000000 in
set_option maxRecDepth 100000 in
theorem w_X8_meet_108 (X : Cx g p s m args meth c cX8_meet 7 RX8 none) {k0 : Int32} {x1 : Int32} {x2 : Int32} {x3 : Int32} {x4 : Int32} {st : Sg} {st9 : Sg} (rc11 : Int32 → Sg → Option Sg) (hrc11 : ∀ (x1 : Int32) (st : Sg) (ls : Array Slot) (H : Heap) (locs : List Loc), rc11 x1 st = some st9 → Hp g nwM (ceM g) A s.heap st H locs → lv_has ls 7 [(0, .ref (g.2.1 0)), (1, .int x1)] → W p l e rm_X8_meet s m args below meth c H locs 0 0 (MQ below (QV g nwM (ceM g) A st9) args s 0 0 A) (F0 m 11 ls [])) (rc29 : Int32 → Sg → Option Sg) (hrc29 : ∀ (x3 : Int32) (st : Sg) (ls : Array Slot) (H : Heap) (locs : List Loc), rc29 x3 st = some st9 → Hp g nwM (ceM g) A s.heap st H locs → lv_has ls 7 [(0, .ref (g.2.1 0)), (1, .int x1), (2, .int x2), (3, .int x3)] → W p l e rm_X8_meet s m args below meth c H locs 0 0 (MQ below (QV g nwM (ceM g) A st9) args s 0 0 A) (F0 m 29 ls [])) (rc41 : Int32 → Sg → Option Sg) (hrc41 : ∀ (x4 : Int32) (st : Sg) (ls : Array Slot) (H : Heap) (locs : List Loc), rc41 x4 st = some st9 → Hp g nwM (ceM g) A s.heap st H locs → lv_has ls 7 [(0, .ref (g.2.1 0)), (1, .int x1), (2, .int x2), (3, .int x3), (4, .int x4)] → W p l e rm_X8_meet s m args below meth c H locs 0 0 (MQ below (QV g nwM (ceM g) A st9) args s 0 0 A) (F0 m 41 ls [])) (h : X8_meet_108 rc11 rc29 rc41 k0 x1 x2 x3 x4 st = some st9) (Y : Hp g nwM (ceM g) A s.heap st H locs)  (hl : lv_has ls 7 [(0, .ref (g.2.1 0)), (1, .int x1), (2, .int x2), (3, .int x3), (4, .int x4)]) : W p l e rm_X8_meet s m args below meth c H locs 0 0 (MQ below (QV g nwM (ceM g) A st9) args s 0 0 A) (F0 m 108 ls [.int k0]) := by
  have hx := X.1
  have hb := X.2.1
  unfold X8_meet_108 at h
  refine lv_istore (lv' := [(6, .int k0), (0, .ref (g.2.1 0)), (1, .int x1), (2, .int x2), (3, .int x3), (4, .int x4)]) hx hb dX8_meet_108 hl (by decide) rfl (fun ls hl => ?_)
  refine lv_iload hx hb dX8_meet_110 (lv_at hl 0 rfl) ?_
  refine lv_if_eq (tgt := 127) hx hb dX8_meet_112 (by decide) (fun c1 => ?_) (fun c1 => ?_)
  · have h := ite_t h c1
    exact w_X8_meet_127 X rc11 hrc11 rc29 hrc29 rc41 hrc41 h Y  (lv_sub hl [1, 2, 3, 4, 5] rfl)
  · have h := ite_f h c1
    refine lv_aload_n hx hb dX8_meet_115 rfl (lv_at hl 1 rfl) ?_
    refine lv_aload_n hx hb dX8_meet_116 rfl (lv_at hl 1 rfl) ?_
    refine k_get (v := .ref (g.2.1 2)) X Y fl_8_13 0 (Nat.le_of_ble_eq_true rfl) rfl rfl dX8_meet_117 ?_
    refine lv_iload hx hb dX8_meet_120 (lv_at hl 5 rfl) ?_
    obtain ⟨i2, h⟩ := cix_s h
    refine k_iald X Y 2 (Nat.le_of_ble_eq_true rfl) (fun _ _ => rfl) i2 dX8_meet_122 ?_
    refine lv_iload_n hx hb dX8_meet_123 rfl (lv_at hl 3 rfl) ?_
    obtain ⟨st4, hc3, h⟩ := bnd1_s h
    refine k_cV Y (k_runV (As := [.int (st.1 2 x4.toNatClampNeg), .int x2]) (rest := []) (o := 0) X Y cl_8_124 (c_X8_buyer l hc3 _) ⟨rfl, rfl, Nat.le_of_ble_eq_true rfl, Nat.le_of_ble_eq_true rfl⟩ (Nat.le_of_ble_eq_true rfl) rfl rfl hl.1 rfl (Nat.le_of_ble_eq_true rfl) dX8_meet_124 ⟨Nat.zero_le _, Nat.zero_le _⟩) (fun H locs Y => ?_)
    exact w_X8_meet_127 X rc11 hrc11 rc29 hrc29 rc41 hrc41 h Y  (lv_sub hl [1, 2, 3, 4, 5] rfl)
set_option maxHeartbeats 4000000 in
set_option maxRecDepth 100000 in
theorem w_X8_meet_107 (X : Cx g p s m args meth c cX8_meet 7 RX8 none) {x1 : Int32} {x2 : Int32} {x3 : Int32} {x4 : Int32} {st : Sg} {st9 : Sg} (rc11 : Int32 → Sg → Option Sg) (hrc11 : ∀ (x1 : Int32) (st : Sg) (ls : Array Slot) (H : Heap) (locs : List Loc), rc11 x1 st = some st9 → Hp g nwM (ceM g) A s.heap st H locs → lv_has ls 7 [(0, .ref (g.2.1 0)), (1, .int x1)] → W p l e rm_X8_meet s m args below meth c H locs 0 0 (MQ below (QV g nwM (ceM g) A st9) args s 0 0 A) (F0 m 11 ls [])) (rc29 : Int32 → Sg → Option Sg) (hrc29 : ∀ (x3 : Int32) (st : Sg) (ls : Array Slot) (H : Heap) (locs : List Loc), rc29 x3 st = some st9 → Hp g nwM (ceM g) A s.heap st H locs → lv_has ls 7 [(0, .ref (g.2.1 0)), (1, .int x1), (2, .int x2), (3, .int x3)] → W p l e rm_X8_meet s m args below meth c H locs 0 0 (MQ below (QV g nwM (ceM g) A st9) args s 0 0 A) (F0 m 29 ls [])) (rc41 : Int32 → Sg → Option Sg) (hrc41 : ∀ (x4 : Int32) (st : Sg) (ls : Array Slot) (H : Heap) (locs : List Loc), rc41 x4 st = some st9 → Hp g nwM (ceM g) A s.heap st H locs → lv_has ls 7 [(0, .ref (g.2.1 0)), (1, .int x1), (2, .int x2), (3, .int x3), (4, .int x4)] → W p l e rm_X8_meet s m args below meth c H locs 0 0 (MQ below (QV g nwM (ceM g) A st9) args s 0 0 A) (F0 m 41 ls [])) (h : X8_meet_107 rc11 rc29 rc41 x1 x2 x3 x4 st = some st9) (Y : Hp g nwM (ceM g) A s.heap st H locs)  (hl : lv_has ls 7 [(0, .ref (g.2.1 0)), (1, .int x1), (2, .int x2), (3, .int x3), (4, .int x4)]) : W p l e rm_X8_meet s m args below meth c H locs 0 0 (MQ below (QV g nwM (ceM g) A st9) args s 0 0 A) (F0 m 107 ls []) := by
  have hx := X.1
  have hb := X.2.1
  unfold X8_meet_107 at h
  refine lv_iconst (v := 0) hx hb dX8_meet_107 (by decide) ?_
  exact w_X8_meet_108 X rc11 hrc11 rc29 hrc29 rc41 hrc41 h Y  (lv_sub hl [0, 1, 2, 3, 4] rfl)
set_option maxHeartbeats 4000000 in
set_option maxRecDepth 100000 in
theorem w_X8_meet_61 (X : Cx g p s m args meth c cX8_meet 7 RX8 none) {k0 : Int32} {x1 : Int32} {x2 : Int32} {x3 : Int32} {x4 : Int32} {st : Sg} {st9 : Sg} (rc11 : Int32 → Sg → Option Sg) (hrc11 : ∀ (x1 : Int32) (st : Sg) (ls : Array Slot) (H : Heap) (locs : List Loc), rc11 x1 st = some st9 → Hp g nwM (ceM g) A s.heap st H locs → lv_has ls 7 [(0, .ref (g.2.1 0)), (1, .int x1)] → W p l e rm_X8_meet s m args below meth c H locs 0 0 (MQ below (QV g nwM (ceM g) A st9) args s 0 0 A) (F0 m 11 ls [])) (rc29 : Int32 → Sg → Option Sg) (hrc29 : ∀ (x3 : Int32) (st : Sg) (ls : Array Slot) (H : Heap) (locs : List Loc), rc29 x3 st = some st9 → Hp g nwM (ceM g) A s.heap st H locs → lv_has ls 7 [(0, .ref (g.2.1 0)), (1, .int x1), (2, .int x2), (3, .int x3)] → W p l e rm_X8_meet s m args below meth c H locs 0 0 (MQ below (QV g nwM (ceM g) A st9) args s 0 0 A) (F0 m 29 ls [])) (rc41 : Int32 → Sg → Option Sg) (hrc41 : ∀ (x4 : Int32) (st : Sg) (ls : Array Slot) (H : Heap) (locs : List Loc), rc41 x4 st = some st9 → Hp g nwM (ceM g) A s.heap st H locs → lv_has ls 7 [(0, .ref (g.2.1 0)), (1, .int x1), (2, .int x2), (3, .int x3), (4, .int x4)] → W p l e rm_X8_meet s m args below meth c H locs 0 0 (MQ below (QV g nwM (ceM g) A st9) args s 0 0 A) (F0 m 41 ls [])) (h : X8_meet_61 rc11 rc29 rc41 k0 x1 x2 x3 x4 st = some st9) (Y : Hp g nwM (ceM g) A s.heap st H locs)  (hl : lv_has ls 7 [(0, .ref (g.2.1 0)), (1, .int x1), (2, .int x2), (3, .int x3), (4, .int x4)]) : W p l e rm_X8_meet s m args below meth c H locs 0 0 (MQ below (QV g nwM (ceM g) A st9) args s 0 0 A) (F0 m 61 ls [.int k0]) := by
  have hx := X.1
  have hb := X.2.1
  unfold X8_meet_61 at h
  refine lv_istore (lv' := [(5, .int k0), (0, .ref (g.2.1 0)), (1, .int x1), (2, .int x2), (3, .int x3), (4, .int x4)]) hx hb dX8_meet_61 hl (by decide) rfl (fun ls hl => ?_)
  refine lv_iload hx hb dX8_meet_63 (lv_at hl 0 rfl) ?_
  refine lv_if_eq (tgt := 87) hx hb dX8_meet_65 (by decide) (fun c1 => ?_) (fun c1 => ?_)
  · have h := ite_t h c1
    refine lv_iload_n hx hb dX8_meet_87 rfl (lv_at hl 4 rfl) ?_
    refine lv_iload_n hx hb dX8_meet_88 rfl (lv_at hl 2 rfl) ?_
    refine lv_icmp_ne (tgt := 107) hx hb dX8_meet_89 (by decide) (fun c2 => ?_) (fun c2 => ?_)
    · have h := ite_f h c2
      exact w_X8_meet_107 X rc11 hrc11 rc29 hrc29 rc41 hrc41 h Y  (lv_sub hl [1, 2, 3, 4, 5] rfl)
    · have h := ite_t h c2
      refine lv_aload_n hx hb dX8_meet_92 rfl (lv_at hl 1 rfl) ?_
      refine lv_iload hx hb dX8_meet_93 (lv_at hl 5 rfl) ?_
      refine lv_iload_n hx hb dX8_meet_95 rfl (lv_at hl 2 rfl) ?_
      obtain ⟨v4, hc3, h⟩ := bnd1_s h
      refine k_cI Y (k_runV (As := [.int x4, .int x1]) (rest := []) (o := 0) X Y cl_8_116 (c_X8_worthOf l hc3 _) ⟨rfl, rfl, Nat.le_of_ble_eq_true rfl, Nat.le_of_ble_eq_true rfl⟩ (Nat.le_of_ble_eq_true rfl) rfl rfl hl.1 rfl (Nat.le_of_ble_eq_true rfl) dX8_meet_96 ⟨Nat.zero_le _, Nat.zero_le _⟩) (fun H locs Y => ?_)
      refine lv_iload_n hx hb dX8_meet_99 rfl (lv_at hl 3 rfl) ?_
      refine lv_icmp_lt (tgt := 107) hx hb dX8_meet_100 (by decide) (fun c5 => ?_) (fun c5 => ?_)
      · have h := ite_t h c5
        exact w_X8_meet_107 X rc11 hrc11 rc29 hrc29 rc41 hrc41 h Y  (lv_sub hl [1, 2, 3, 4, 5] rfl)
      · have h := ite_f h c5
        refine lv_iconst (v := 1) hx hb dX8_meet_103 (by decide) ?_
        refine lv_goto (tgt := 108) hx hb dX8_meet_104 (by decide) ?_
        exact w_X8_meet_108 X rc11 hrc11 rc29 hrc29 rc41 hrc41 h Y  (lv_sub hl [1, 2, 3, 4, 5] rfl)
  · have h := ite_f h c1
    refine lv_aload_n hx hb dX8_meet_68 rfl (lv_at hl 1 rfl) ?_
    refine lv_iload hx hb dX8_meet_69 (lv_at hl 5 rfl) ?_
    refine lv_iload_n hx hb dX8_meet_71 rfl (lv_at hl 4 rfl) ?_
    obtain ⟨v7, hc6, h⟩ := bnd1_s h
    refine k_cI Y (k_runV (As := [.int x4, .int x3]) (rest := []) (o := 0) X Y cl_8_165 (c_X8_pickOf l hc6 _) ⟨rfl, rfl, Nat.le_of_ble_eq_true rfl, Nat.le_of_ble_eq_true rfl⟩ (Nat.le_of_ble_eq_true rfl) rfl rfl hl.1 rfl (Nat.le_of_ble_eq_true rfl) dX8_meet_72 ⟨Nat.zero_le _, Nat.zero_le _⟩) (fun H locs Y => ?_)
    refine lv_iload_n hx hb dX8_meet_75 rfl (lv_at hl 2 rfl) ?_
    refine lv_icmp_ne (tgt := 83) hx hb dX8_meet_76 (by decide) (fun c8 => ?_) (fun c8 => ?_)
    · have h := ite_f h c8
      refine lv_iconst (v := 0) hx hb dX8_meet_83 (by decide) ?_
      refine lv_goto (tgt := 108) hx hb dX8_meet_84 (by decide) ?_
      exact w_X8_meet_108 X rc11 hrc11 rc29 hrc29 rc41 hrc41 h Y  (lv_sub hl [1, 2, 3, 4, 5] rfl)
    · have h := ite_t h c8
      refine lv_iconst (v := 1) hx hb dX8_meet_79 (by decide) ?_
      refine lv_goto (tgt := 108) hx hb dX8_meet_80 (by decide) ?_
      exact w_X8_meet_108 X rc11 hrc11 rc29 hrc29 rc41 hrc41 h Y  (lv_sub hl [1, 2, 3, 4, 5] rfl)
set_option maxHeartbeats 4000000 in
set_option maxRecDepth 100000 in
theorem w_X8_meet_133 (X : Cx g p s m args meth c cX8_meet 7 RX8 none) {x1 : Int32} {x2 : Int32} {x3 : Int32} {st : Sg} {st9 : Sg} (rc11 : Int32 → Sg → Option Sg) (hrc11 : ∀ (x1 : Int32) (st : Sg) (ls : Array Slot) (H : Heap) (locs : List Loc), rc11 x1 st = some st9 → Hp g nwM (ceM g) A s.heap st H locs → lv_has ls 7 [(0, .ref (g.2.1 0)), (1, .int x1)] → W p l e rm_X8_meet s m args below meth c H locs 0 0 (MQ below (QV g nwM (ceM g) A st9) args s 0 0 A) (F0 m 11 ls [])) (rc29 : Int32 → Sg → Option Sg) (hrc29 : ∀ (x3 : Int32) (st : Sg) (ls : Array Slot) (H : Heap) (locs : List Loc), rc29 x3 st = some st9 → Hp g nwM (ceM g) A s.heap st H locs → lv_has ls 7 [(0, .ref (g.2.1 0)), (1, .int x1), (2, .int x2), (3, .int x3)] → W p l e rm_X8_meet s m args below meth c H locs 0 0 (MQ below (QV g nwM (ceM g) A st9) args s 0 0 A) (F0 m 29 ls [])) (h : X8_meet_133 rc11 rc29 x1 x2 x3 st = some st9) (Y : Hp g nwM (ceM g) A s.heap st H locs)  (hl : lv_has ls 7 [(0, .ref (g.2.1 0)), (1, .int x1), (2, .int x2), (3, .int x3)]) : W p l e rm_X8_meet s m args below meth c H locs 0 0 (MQ below (QV g nwM (ceM g) A st9) args s 0 0 A) (F0 m 133 ls []) := by
  have hx := X.1
  have hb := X.2.1
  unfold X8_meet_133 at h
  obtain ⟨v1, ev1, h⟩ := nm_s h
  refine lv_iinc (v := v1) (lv' := [(3, .int v1), (0, .ref (g.2.1 0)), (1, .int x1), (2, .int x2)]) hx hb dX8_meet_133 hl (k := 3) rfl (by rw [ev1]; rfl) (by decide) rfl (fun ls hl => ?_)
  refine lv_goto (tgt := 29) hx hb dX8_meet_136 (by decide) ?_
  exact hrc29 v1 st _ _ _ h Y (lv_sub hl [1, 2, 3, 0] rfl)
set_option maxHeartbeats 4000000 in
set_option maxRecDepth 100000 in
theorem w_X8_meet_41b (X : Cx g p s m args meth c cX8_meet 7 RX8 none) {x1 : Int32} {x2 : Int32} {x3 : Int32} {x4 : Int32} {st : Sg} {st9 : Sg} (rc11 : Int32 → Sg → Option Sg) (hrc11 : ∀ (x1 : Int32) (st : Sg) (ls : Array Slot) (H : Heap) (locs : List Loc), rc11 x1 st = some st9 → Hp g nwM (ceM g) A s.heap st H locs → lv_has ls 7 [(0, .ref (g.2.1 0)), (1, .int x1)] → W p l e rm_X8_meet s m args below meth c H locs 0 0 (MQ below (QV g nwM (ceM g) A st9) args s 0 0 A) (F0 m 11 ls [])) (rc29 : Int32 → Sg → Option Sg) (hrc29 : ∀ (x3 : Int32) (st : Sg) (ls : Array Slot) (H : Heap) (locs : List Loc), rc29 x3 st = some st9 → Hp g nwM (ceM g) A s.heap st H locs → lv_has ls 7 [(0, .ref (g.2.1 0)), (1, .int x1), (2, .int x2), (3, .int x3)] → W p l e rm_X8_meet s m args below meth c H locs 0 0 (MQ below (QV g nwM (ceM g) A st9) args s 0 0 A) (F0 m 29 ls [])) (rc41 : Int32 → Sg → Option Sg) (hrc41 : ∀ (x4 : Int32) (st : Sg) (ls : Array Slot) (H : Heap) (locs : List Loc), rc41 x4 st = some st9 → Hp g nwM (ceM g) A s.heap st H locs → lv_has ls 7 [(0, .ref (g.2.1 0)), (1, .int x1), (2, .int x2), (3, .int x3), (4, .int x4)] → W p l e rm_X8_meet s m args below meth c H locs 0 0 (MQ below (QV g nwM (ceM g) A st9) args s 0 0 A) (F0 m 41 ls [])) (h : X8_meet_41b rc11 rc29 rc41 x1 x2 x3 x4 st = some st9) (Y : Hp g nwM (ceM g) A s.heap st H locs)  (hl : lv_has ls 7 [(0, .ref (g.2.1 0)), (1, .int x1), (2, .int x2), (3, .int x3), (4, .int x4)]) : W p l e rm_X8_meet s m args below meth c H locs 0 0 (MQ below (QV g nwM (ceM g) A st9) args s 0 0 A) (F0 m 41 ls []) := by
  have hx := X.1
  have hb := X.2.1
  unfold X8_meet_41b at h
  refine lv_iload hx hb dX8_meet_41 (lv_at hl 4 rfl) ?_
  refine lv_if_lt (tgt := 133) hx hb dX8_meet_43 (by decide) (fun c1 => ?_) (fun c1 => ?_)
  · have h := ite_t h c1
    exact w_X8_meet_133 X rc11 hrc11 rc29 hrc29 h Y  (lv_sub hl [0, 1, 2, 3] rfl)
  · have h := ite_f h c1
    refine lv_aload_n hx hb dX8_meet_46 rfl (lv_at hl 0 rfl) ?_
    refine k_get (v := .ref (g.2.1 5)) X Y fl_8_22 0 (Nat.le_of_ble_eq_true rfl) rfl rfl dX8_meet_47 ?_
    refine lv_iload hx hb dX8_meet_50 (lv_at hl 4 rfl) ?_
    obtain ⟨i2, h⟩ := cix_s h
    refine k_iald X Y 5 (Nat.le_of_ble_eq_true rfl) (fun _ _ => rfl) i2 dX8_meet_52 ?_
    refine lv_if_lt (tgt := 60) hx hb dX8_meet_53 (by decide) (fun c3 => ?_) (fun c3 => ?_)
    · have h := ite_t h c3
      refine lv_iconst (v := 0) hx hb dX8_meet_60 (by decide) ?_
      exact w_X8_meet_61 X rc11 hrc11 rc29 hrc29 rc41 hrc41 h Y  (lv_sub hl [0, 1, 2, 3, 4] rfl)
    · have h := ite_f h c3
      refine lv_iconst (v := 1) hx hb dX8_meet_56 (by decide) ?_
      refine lv_goto (tgt := 61) hx hb dX8_meet_57 (by decide) ?_
      exact w_X8_meet_61 X rc11 hrc11 rc29 hrc29 rc41 hrc41 h Y  (lv_sub hl [0, 1, 2, 3, 4] rfl)
theorem w_X8_meet_41 (X : Cx g p s m args meth c cX8_meet 7 RX8 none) {x1 : Int32} {x2 : Int32} {x3 : Int32}  {st9 : Sg} (rc11 : Int32 → Sg → Option Sg) (hrc11 : ∀ (x1 : Int32) (st : Sg) (ls : Array Slot) (H : Heap) (locs : List Loc), rc11 x1 st = some st9 → Hp g nwM (ceM g) A s.heap st H locs → lv_has ls 7 [(0, .ref (g.2.1 0)), (1, .int x1)] → W p l e rm_X8_meet s m args below meth c H locs 0 0 (MQ below (QV g nwM (ceM g) A st9) args s 0 0 A) (F0 m 11 ls [])) (rc29 : Int32 → Sg → Option Sg) (hrc29 : ∀ (x3 : Int32) (st : Sg) (ls : Array Slot) (H : Heap) (locs : List Loc), rc29 x3 st = some st9 → Hp g nwM (ceM g) A s.heap st H locs → lv_has ls 7 [(0, .ref (g.2.1 0)), (1, .int x1), (2, .int x2), (3, .int x3)] → W p l e rm_X8_meet s m args below meth c H locs 0 0 (MQ below (QV g nwM (ceM g) A st9) args s 0 0 A) (F0 m 29 ls []))  : ∀ (k : Nat) (x4 : Int32) (st : Sg) (ls : Array Slot) (H : Heap) (locs : List Loc), X8_meet_41 rc11 rc29 x1 x2 x3 k x4 st = some st9 → Hp g nwM (ceM g) A s.heap st H locs → lv_has ls 7 [(0, .ref (g.2.1 0)), (1, .int x1), (2, .int x2), (3, .int x3), (4, .int x4)] → W p l e rm_X8_meet s m args below meth c H locs 0 0 (MQ below (QV g nwM (ceM g) A st9) args s 0 0 A) (F0 m 41 ls []) := by
  intro k
  induction k with
  | zero =>
    intro x4 st ls H locs h
    exact none_s h
  | succ k ih =>
    intro x4 st ls H locs h Y hl
    exact w_X8_meet_41b X rc11 hrc11 rc29 hrc29 (X8_meet_41 rc11 rc29 x1 x2 x3 k) ih h Y  hl
set_option maxHeartbeats 4000000 in
set_option maxRecDepth 100000 in
theorem w_X8_meet_139 (X : Cx g p s m args meth c cX8_meet 7 RX8 none) {x1 : Int32} {st : Sg} {st9 : Sg} (rc11 : Int32 → Sg → Option Sg) (hrc11 : ∀ (x1 : Int32) (st : Sg) (ls : Array Slot) (H : Heap) (locs : List Loc), rc11 x1 st = some st9 → Hp g nwM (ceM g) A s.heap st H locs → lv_has ls 7 [(0, .ref (g.2.1 0)), (1, .int x1)] → W p l e rm_X8_meet s m args below meth c H locs 0 0 (MQ below (QV g nwM (ceM g) A st9) args s 0 0 A) (F0 m 11 ls [])) (h : X8_meet_139 rc11 x1 st = some st9) (Y : Hp g nwM (ceM g) A s.heap st H locs)  (hl : lv_has ls 7 [(0, .ref (g.2.1 0)), (1, .int x1)]) : W p l e rm_X8_meet s m args below meth c H locs 0 0 (MQ below (QV g nwM (ceM g) A st9) args s 0 0 A) (F0 m 139 ls []) := by
  have hx := X.1
  have hb := X.2.1
  unfold X8_meet_139 at h
  obtain ⟨v1, ev1, h⟩ := nm_s h
  refine lv_iinc (v := v1) (lv' := [(1, .int v1), (0, .ref (g.2.1 0))]) hx hb dX8_meet_139 hl (k := 1) rfl (by rw [ev1]; rfl) (by decide) rfl (fun ls hl => ?_)
  refine lv_goto (tgt := 11) hx hb dX8_meet_142 (by decide) ?_
  exact hrc11 v1 st _ _ _ h Y (lv_sub hl [1, 0] rfl)
set_option maxHeartbeats 4000000 in
set_option maxRecDepth 100000 in
theorem w_X8_meet_29b (X : Cx g p s m args meth c cX8_meet 7 RX8 none) {x1 : Int32} {x2 : Int32} {x3 : Int32} {st : Sg} {st9 : Sg} (rc11 : Int32 → Sg → Option Sg) (hrc11 : ∀ (x1 : Int32) (st : Sg) (ls : Array Slot) (H : Heap) (locs : List Loc), rc11 x1 st = some st9 → Hp g nwM (ceM g) A s.heap st H locs → lv_has ls 7 [(0, .ref (g.2.1 0)), (1, .int x1)] → W p l e rm_X8_meet s m args below meth c H locs 0 0 (MQ below (QV g nwM (ceM g) A st9) args s 0 0 A) (F0 m 11 ls [])) (rc29 : Int32 → Sg → Option Sg) (hrc29 : ∀ (x3 : Int32) (st : Sg) (ls : Array Slot) (H : Heap) (locs : List Loc), rc29 x3 st = some st9 → Hp g nwM (ceM g) A s.heap st H locs → lv_has ls 7 [(0, .ref (g.2.1 0)), (1, .int x1), (2, .int x2), (3, .int x3)] → W p l e rm_X8_meet s m args below meth c H locs 0 0 (MQ below (QV g nwM (ceM g) A st9) args s 0 0 A) (F0 m 29 ls [])) (h : X8_meet_29b rc11 rc29 x1 x2 x3 st = some st9) (Y : Hp g nwM (ceM g) A s.heap st H locs)  (hl : lv_has ls 7 [(0, .ref (g.2.1 0)), (1, .int x1), (2, .int x2), (3, .int x3)]) : W p l e rm_X8_meet s m args below meth c H locs 0 0 (MQ below (QV g nwM (ceM g) A st9) args s 0 0 A) (F0 m 29 ls []) := by
  have hx := X.1
  have hb := X.2.1
  unfold X8_meet_29b at h
  refine lv_iload_n hx hb dX8_meet_29 rfl (lv_at hl 3 rfl) ?_
  refine lv_if_lt (tgt := 139) hx hb dX8_meet_30 (by decide) (fun c1 => ?_) (fun c1 => ?_)
  · have h := ite_t h c1
    exact w_X8_meet_139 X rc11 hrc11 h Y  (lv_sub hl [0, 1] rfl)
  · have h := ite_f h c1
    refine lv_aload_n hx hb dX8_meet_33 rfl (lv_at hl 0 rfl) ?_
    refine k_get (v := .int (st.1 0 9)) X Y fl_8_103 0 (Nat.le_of_ble_eq_true rfl) rfl rfl dX8_meet_34 ?_
    refine lv_iconst (v := 1) hx hb dX8_meet_37 (by decide) ?_
    refine lv_isub hx hb dX8_meet_38 ?_
    obtain ⟨v2, ev2, h⟩ := nm_s h
    refine k_nmI ev2 ?_
    refine lv_istore (lv' := [(4, .int v2), (0, .ref (g.2.1 0)), (1, .int x1), (2, .int x2), (3, .int x3)]) hx hb dX8_meet_39 hl (by decide) rfl (fun ls hl => ?_)
    exact w_X8_meet_41 X rc11 hrc11 rc29 hrc29  FU v2 st _ _ _ h Y (lv_sub hl [1, 2, 3, 4, 0] rfl)
theorem w_X8_meet_29 (X : Cx g p s m args meth c cX8_meet 7 RX8 none) {x1 : Int32} {x2 : Int32}  {st9 : Sg} (rc11 : Int32 → Sg → Option Sg) (hrc11 : ∀ (x1 : Int32) (st : Sg) (ls : Array Slot) (H : Heap) (locs : List Loc), rc11 x1 st = some st9 → Hp g nwM (ceM g) A s.heap st H locs → lv_has ls 7 [(0, .ref (g.2.1 0)), (1, .int x1)] → W p l e rm_X8_meet s m args below meth c H locs 0 0 (MQ below (QV g nwM (ceM g) A st9) args s 0 0 A) (F0 m 11 ls []))  : ∀ (k : Nat) (x3 : Int32) (st : Sg) (ls : Array Slot) (H : Heap) (locs : List Loc), X8_meet_29 rc11 x1 x2 k x3 st = some st9 → Hp g nwM (ceM g) A s.heap st H locs → lv_has ls 7 [(0, .ref (g.2.1 0)), (1, .int x1), (2, .int x2), (3, .int x3)] → W p l e rm_X8_meet s m args below meth c H locs 0 0 (MQ below (QV g nwM (ceM g) A st9) args s 0 0 A) (F0 m 29 ls []) := by
  intro k
  induction k with
  | zero =>
    intro x3 st ls H locs h
    exact none_s h
  | succ k ih =>
    intro x3 st ls H locs h Y hl
    exact w_X8_meet_29b X rc11 hrc11 (X8_meet_29 rc11 x1 x2 k) ih h Y  hl
set_option maxHeartbeats 4000000 in
set_option maxRecDepth 100000 in
theorem w_X8_meet_174 (X : Cx g p s m args meth c cX8_meet 7 RX8 none)  {st : Sg} {st9 : Sg}  (h : X8_meet_174 st = some st9) (Y : Hp g nwM (ceM g) A s.heap st H locs)  (hl : lv_has ls 7 []) : W p l e rm_X8_meet s m args below meth c H locs 0 0 (MQ below (QV g nwM (ceM g) A st9) args s 0 0 A) (F0 m 174 ls []) := by
  have hx := X.1
  have hb := X.2.1
  unfold X8_meet_174 at h
  exact k_vretW X Y h dX8_meet_174
set_option maxHeartbeats 4000000 in
set_option maxRecDepth 100000 in
theorem w_X8_meet_145b (X : Cx g p s m args meth c cX8_meet 7 RX8 none)  {st : Sg} {st9 : Sg} (rc145 : Sg → Option Sg) (hrc145 : ∀  (st : Sg) (ls : Array Slot) (H : Heap) (locs : List Loc), rc145  st = some st9 → Hp g nwM (ceM g) A s.heap st H locs → lv_has ls 7 [(0, .ref (g.2.1 0))] → W p l e rm_X8_meet s m args below meth c H locs 0 0 (MQ below (QV g nwM (ceM g) A st9) args s 0 0 A) (F0 m 145 ls [])) (h : X8_meet_145b rc145 st = some st9) (Y : Hp g nwM (ceM g) A s.heap st H locs)  (hl : lv_has ls 7 [(0, .ref (g.2.1 0))]) : W p l e rm_X8_meet s m args below meth c H locs 0 0 (MQ below (QV g nwM (ceM g) A st9) args s 0 0 A) (F0 m 145 ls []) := by
  have hx := X.1
  have hb := X.2.1
  unfold X8_meet_145b at h
  refine lv_aload_n hx hb dX8_meet_145 rfl (lv_at hl 0 rfl) ?_
  refine k_get (v := .long (st.2 0 12)) X Y fl_8_120 0 (Nat.le_of_ble_eq_true rfl) rfl rfl dX8_meet_146 ?_
  refine lv_aload_n hx hb dX8_meet_149 rfl (lv_at hl 0 rfl) ?_
  refine k_get (v := .int (st.1 0 9)) X Y fl_8_103 0 (Nat.le_of_ble_eq_true rfl) rfl rfl dX8_meet_150 ?_
  refine lv_aload_n hx hb dX8_meet_153 rfl (lv_at hl 0 rfl) ?_
  refine k_get (v := .int (st.1 0 1)) X Y fl_8_78 0 (Nat.le_of_ble_eq_true rfl) rfl rfl dX8_meet_154 ?_
  refine lv_imul hx hb dX8_meet_157 ?_
  obtain ⟨v2, hc1, h⟩ := bnd1_s h
  refine k_cJ Y (k_runS (As := [.int ((st.1 0 9) * (st.1 0 1))]) (rest := [.long (st.2 0 12)]) X Y cl_8_161 (c_X8_power l hc1 _) ⟨rfl, rfl, Nat.le_of_ble_eq_true rfl, Nat.le_of_ble_eq_true rfl⟩ rfl hl.1 rfl (Nat.le_of_ble_eq_true rfl) dX8_meet_158 ⟨Nat.zero_le _, Nat.zero_le _⟩) (fun H locs Y => ?_)
  refine W.lcmp hx hb dX8_meet_161 ?_
  refine lv_if_ge (tgt := 174) hx hb dX8_meet_162 (by decide) (fun c3 => ?_) (fun c3 => ?_)
  · have h := ite_t h c3
    exact w_X8_meet_174 X  h Y  (lv_sub hl [] rfl)
  · have h := ite_f h c3
    refine lv_aload_n hx hb dX8_meet_165 rfl (lv_at hl 0 rfl) ?_
    refine lv_iconst (v := 0) hx hb dX8_meet_166 (by decide) ?_
    refine lv_iconst (v := 0) hx hb dX8_meet_167 (by decide) ?_
    obtain ⟨st5, hc4, h⟩ := bnd1_s h
    refine k_cV Y (k_runV (As := [.int 0, .int 0]) (rest := []) (o := 0) X Y cl_8_124 (c_X8_buyer l hc4 _) ⟨rfl, rfl, Nat.le_of_ble_eq_true rfl, Nat.le_of_ble_eq_true rfl⟩ (Nat.le_of_ble_eq_true rfl) rfl rfl hl.1 rfl (Nat.le_of_ble_eq_true rfl) dX8_meet_168 ⟨Nat.zero_le _, Nat.zero_le _⟩) (fun H locs Y => ?_)
    refine lv_goto (tgt := 145) hx hb dX8_meet_171 (by decide) ?_
    exact hrc145 st5 _ _ _ h Y (lv_sub hl [0] rfl)
theorem w_X8_meet_145 (X : Cx g p s m args meth c cX8_meet 7 RX8 none)   {st9 : Sg}   : ∀ (k : Nat)  (st : Sg) (ls : Array Slot) (H : Heap) (locs : List Loc), X8_meet_145 k  st = some st9 → Hp g nwM (ceM g) A s.heap st H locs → lv_has ls 7 [(0, .ref (g.2.1 0))] → W p l e rm_X8_meet s m args below meth c H locs 0 0 (MQ below (QV g nwM (ceM g) A st9) args s 0 0 A) (F0 m 145 ls []) := by
  intro k
  induction k with
  | zero =>
    intro st ls H locs h
    exact none_s h
  | succ k ih =>
    intro st ls H locs h Y hl
    exact w_X8_meet_145b X  (X8_meet_145 k) ih h Y  hl
set_option maxHeartbeats 4000000 in
set_option maxRecDepth 100000 in
theorem w_X8_meet_11b (X : Cx g p s m args meth c cX8_meet 7 RX8 none) {x1 : Int32} {st : Sg} {st9 : Sg} (rc11 : Int32 → Sg → Option Sg) (hrc11 : ∀ (x1 : Int32) (st : Sg) (ls : Array Slot) (H : Heap) (locs : List Loc), rc11 x1 st = some st9 → Hp g nwM (ceM g) A s.heap st H locs → lv_has ls 7 [(0, .ref (g.2.1 0)), (1, .int x1)] → W p l e rm_X8_meet s m args below meth c H locs 0 0 (MQ below (QV g nwM (ceM g) A st9) args s 0 0 A) (F0 m 11 ls [])) (h : X8_meet_11b rc11 x1 st = some st9) (Y : Hp g nwM (ceM g) A s.heap st H locs)  (hl : lv_has ls 7 [(0, .ref (g.2.1 0)), (1, .int x1)]) : W p l e rm_X8_meet s m args below meth c H locs 0 0 (MQ below (QV g nwM (ceM g) A st9) args s 0 0 A) (F0 m 11 ls []) := by
  have hx := X.1
  have hb := X.2.1
  unfold X8_meet_11b at h
  refine lv_iload_n hx hb dX8_meet_11 rfl (lv_at hl 1 rfl) ?_
  refine lv_if_lt (tgt := 145) hx hb dX8_meet_12 (by decide) (fun c1 => ?_) (fun c1 => ?_)
  · have h := ite_t h c1
    exact w_X8_meet_145 X   FU st _ _ _ h Y (lv_sub hl [0] rfl)
  · have h := ite_f h c1
    refine lv_aload_n hx hb dX8_meet_15 rfl (lv_at hl 0 rfl) ?_
    refine k_get (v := .ref (g.2.1 1)) X Y fl_8_7 0 (Nat.le_of_ble_eq_true rfl) rfl rfl dX8_meet_16 ?_
    refine lv_aload_n hx hb dX8_meet_19 rfl (lv_at hl 0 rfl) ?_
    refine k_get (v := .ref (g.2.1 11)) X Y fl_8_41 0 (Nat.le_of_ble_eq_true rfl) rfl rfl dX8_meet_20 ?_
    refine lv_iload_n hx hb dX8_meet_23 rfl (lv_at hl 1 rfl) ?_
    obtain ⟨i2, h⟩ := cix_s h
    refine k_iald X Y 11 (Nat.le_of_ble_eq_true rfl) (fun _ _ => rfl) i2 dX8_meet_24 ?_
    obtain ⟨i3, h⟩ := cix_s h
    refine k_iald X Y 1 (Nat.le_of_ble_eq_true rfl) (fun _ _ => rfl) i3 dX8_meet_25 ?_
    obtain ⟨v4, ev4, h⟩ := nm_s h
    refine k_nmI ev4 ?_
    refine lv_istore_n (lv' := [(2, .int v4), (0, .ref (g.2.1 0)), (1, .int x1)]) hx hb dX8_meet_26 rfl hl (by decide) rfl (fun ls hl => ?_)
    refine lv_iload_n hx hb dX8_meet_27 rfl (lv_at hl 2 rfl) ?_
    refine lv_istore_n (lv' := [(3, .int x1), (2, .int v4), (0, .ref (g.2.1 0)), (1, .int x1)]) hx hb dX8_meet_28 rfl hl (by decide) rfl (fun ls hl => ?_)
    exact w_X8_meet_29 X rc11 hrc11  FU x1 st _ _ _ h Y (lv_sub hl [2, 3, 1, 0] rfl)
theorem w_X8_meet_11 (X : Cx g p s m args meth c cX8_meet 7 RX8 none)   {st9 : Sg}   : ∀ (k : Nat) (x1 : Int32) (st : Sg) (ls : Array Slot) (H : Heap) (locs : List Loc), X8_meet_11 k x1 st = some st9 → Hp g nwM (ceM g) A s.heap st H locs → lv_has ls 7 [(0, .ref (g.2.1 0)), (1, .int x1)] → W p l e rm_X8_meet s m args below meth c H locs 0 0 (MQ below (QV g nwM (ceM g) A st9) args s 0 0 A) (F0 m 11 ls []) := by
  intro k
  induction k with
  | zero =>
    intro x1 st ls H locs h
    exact none_s h
  | succ k ih =>
    intro x1 st ls H locs h Y hl
    exact w_X8_meet_11b X  (X8_meet_11 k) ih h Y  hl
set_option maxHeartbeats 4000000 in
set_option maxRecDepth 100000 in
theorem w_X8_meet (X : Cx g p s m args meth c cX8_meet 7 RX8 none)  {st : Sg} {st9 : Sg}  (h : X8_meet st = some st9) (Y : Hp g nwM (ceM g) A s.heap st H locs)  (hl : lv_has ls 7 [(0, .ref (g.2.1 0))]) : W p l e rm_X8_meet s m args below meth c H locs 0 0 (MQ below (QV g nwM (ceM g) A st9) args s 0 0 A) (F0 m 0 ls []) := by
  have hx := X.1
  have hb := X.2.1
  unfold X8_meet at h
  refine lv_aload_n hx hb dX8_meet_0 rfl (lv_at hl 0 rfl) ?_
  obtain ⟨st2, hc1, h⟩ := bnd1_s h
  refine k_cV Y (k_runV (As := []) (rest := []) (o := 0) X Y cl_8_128 (c_X8_beginEnd l hc1 _) ⟨rfl, rfl, Nat.le_of_ble_eq_true rfl, Nat.le_of_ble_eq_true rfl⟩ (Nat.le_of_ble_eq_true rfl) rfl rfl hl.1 rfl (Nat.le_of_ble_eq_true rfl) dX8_meet_1 ⟨Nat.zero_le _, Nat.zero_le _⟩) (fun H locs Y => ?_)
  refine lv_aload_n hx hb dX8_meet_4 rfl (lv_at hl 0 rfl) ?_
  refine k_get (v := .int (st2.1 0 1)) X Y fl_8_78 0 (Nat.le_of_ble_eq_true rfl) rfl rfl dX8_meet_5 ?_
  refine lv_iconst (v := 1) hx hb dX8_meet_8 (by decide) ?_
  refine lv_isub hx hb dX8_meet_9 ?_
  obtain ⟨v3, ev3, h⟩ := nm_s h
  refine k_nmI ev3 ?_
  refine lv_istore_n (lv' := [(1, .int v3), (0, .ref (g.2.1 0))]) hx hb dX8_meet_10 rfl hl (by decide) rfl (fun ls hl => ?_)
  exact w_X8_meet_11 X   FU v3 st2 _ _ _ h Y (lv_sub hl [1, 0] rfl)
theorem c_X8_meet (l : Launch) {g : Gx}  {st : Sg} {st9 : Sg} (h : X8_meet st = some st9) : MetV l yX8_meet cX8_meet 7 none rm_X8_meet g nwM (ceM g) [.ref (g.2.1 0)] st st9 :=
  met_of (Qc := fun A => QV g nwM (ceM g) A st9) (by decide) (Nat.le_of_ble_eq_true rfl) (fun p e s m below meth c A ls X Y hl => w_X8_meet X h Y hl)
def X8_nextPlan_78    (st : Sg) : Option (Int32 × Sg) :=
  some (1, st)
def X8_nextPlan_52b  (rc52 : Int32 → Sg → Option (Int32 × Sg)) (x1 : Int32) (x2 : Int32) (st : Sg) : Option (Int32 × Sg) :=
  if (st.1 0 1) ≤ x2 then
    X8_nextPlan_78 st
  else
    cix x1 6 <|
    cix x2 6 <|
    nm (sI st 11 x2.toNatClampNeg (st.1 11 x1.toNatClampNeg)) fun st4 =>
    nm (x2 + 1) fun v5 =>
    rc52 v5 st4
def X8_nextPlan_52   (x1 : Int32) : Nat → Int32 → Sg → Option (Int32 × Sg)
  | 0, _, _ => none
  | k + 1, x2, st => X8_nextPlan_52b   (X8_nextPlan_52 x1 k) x1 x2 st
def X8_nextPlan_32   (x1 : Int32) (st : Sg) : Option (Int32 × Sg) :=
  if (0 : Int32) ≤ x1 then
    cix x1 6 <|
    cix x1 6 <|
    nm (sI st 11 x1.toNatClampNeg ((st.1 11 x1.toNatClampNeg) + 1)) fun st4 =>
    nm (x1 + 1) fun v5 =>
    X8_nextPlan_52 x1 FU v5 st4
  else
    some (0, st)
def X8_nextPlan_7b  (rc7 : Int32 → Sg → Option (Int32 × Sg)) (x1 : Int32) (st : Sg) : Option (Int32 × Sg) :=
  if x1 < (0 : Int32) then
    X8_nextPlan_32 x1 st
  else
    cix x1 6 <|
    if (st.1 11 x1.toNatClampNeg) = ((st.1 0 4) - 1) then
      nm (x1 + (-1)) fun v4 =>
      rc7 v4 st
    else
      X8_nextPlan_32 x1 st
def X8_nextPlan_7    : Nat → Int32 → Sg → Option (Int32 × Sg)
  | 0, _, _ => none
  | k + 1, x1, st => X8_nextPlan_7b   (X8_nextPlan_7 k) x1 st
def X8_nextPlan    (st : Sg) : Option (Int32 × Sg) :=
  nm ((st.1 0 1) - 1) fun v1 =>
  X8_nextPlan_7 FU v1 st
abbrev rm_X8_nextPlan : Room := { frames := 0, cells := 0, slots := 0, locals := 0 }
set_option maxHeartbeats 4000000 in
set_option maxRecDepth 100000 in
theorem w_X8_nextPlan_78 (X : Cx g p s m args meth c cX8_nextPlan 3 RX8 (some .boolean))  {st : Sg} {r9 : Int32} {st9 : Sg}  (h : X8_nextPlan_78 st = some (r9, st9)) (Y : Hp g nwM (ceM g) A s.heap st H locs)  (hl : lv_has ls 3 []) : W p l e rm_X8_nextPlan s m args below meth c H locs 0 0 (MQ below (QI g nwM (ceM g) A r9 st9) args s 0 0 A) (F0 m 78 ls []) := by
  have hx := X.1
  have hb := X.2.1
  unfold X8_nextPlan_78 at h
  refine lv_iconst (v := 1) hx hb dX8_nextPlan_78 (by decide) ?_
  exact k_zretW X Y (Or.inr rfl) h dX8_nextPlan_79
set_option maxHeartbeats 4000000 in
set_option maxRecDepth 100000 in
theorem w_X8_nextPlan_52b (X : Cx g p s m args meth c cX8_nextPlan 3 RX8 (some .boolean)) {x1 : Int32} {x2 : Int32} {st : Sg} {r9 : Int32} {st9 : Sg} (rc52 : Int32 → Sg → Option (Int32 × Sg)) (hrc52 : ∀ (x2 : Int32) (st : Sg) (ls : Array Slot) (H : Heap) (locs : List Loc), rc52 x2 st = some (r9, st9) → Hp g nwM (ceM g) A s.heap st H locs → lv_has ls 3 [(0, .ref (g.2.1 0)), (1, .int x1), (2, .int x2)] → W p l e rm_X8_nextPlan s m args below meth c H locs 0 0 (MQ below (QI g nwM (ceM g) A r9 st9) args s 0 0 A) (F0 m 52 ls [])) (h : X8_nextPlan_52b rc52 x1 x2 st = some (r9, st9)) (Y : Hp g nwM (ceM g) A s.heap st H locs)  (hl : lv_has ls 3 [(0, .ref (g.2.1 0)), (1, .int x1), (2, .int x2)]) : W p l e rm_X8_nextPlan s m args below meth c H locs 0 0 (MQ below (QI g nwM (ceM g) A r9 st9) args s 0 0 A) (F0 m 52 ls []) := by
  have hx := X.1
  have hb := X.2.1
  unfold X8_nextPlan_52b at h
  refine lv_iload_n hx hb dX8_nextPlan_52 rfl (lv_at hl 2 rfl) ?_
  refine lv_aload_n hx hb dX8_nextPlan_53 rfl (lv_at hl 0 rfl) ?_
  refine k_get (v := .int (st.1 0 1)) X Y fl_8_78 0 (Nat.le_of_ble_eq_true rfl) rfl rfl dX8_nextPlan_54 ?_
  refine lv_icmp_ge (tgt := 78) hx hb dX8_nextPlan_57 (by decide) (fun c1 => ?_) (fun c1 => ?_)
  · have h := ite_t h c1
    exact w_X8_nextPlan_78 X  h Y  (lv_sub hl [] rfl)
  · have h := ite_f h c1
    refine lv_aload_n hx hb dX8_nextPlan_60 rfl (lv_at hl 0 rfl) ?_
    refine k_get (v := .ref (g.2.1 11)) X Y fl_8_41 0 (Nat.le_of_ble_eq_true rfl) rfl rfl dX8_nextPlan_61 ?_
    refine lv_iload_n hx hb dX8_nextPlan_64 rfl (lv_at hl 2 rfl) ?_
    refine lv_aload_n hx hb dX8_nextPlan_65 rfl (lv_at hl 0 rfl) ?_
    refine k_get (v := .ref (g.2.1 11)) X Y fl_8_41 0 (Nat.le_of_ble_eq_true rfl) rfl rfl dX8_nextPlan_66 ?_
    refine lv_iload_n hx hb dX8_nextPlan_69 rfl (lv_at hl 1 rfl) ?_
    obtain ⟨i2, h⟩ := cix_s h
    refine k_iald X Y 11 (Nat.le_of_ble_eq_true rfl) (fun _ _ => rfl) i2 dX8_nextPlan_70 ?_
    obtain ⟨i3, h⟩ := cix_s h
    refine k_iast X Y 11 (Nat.le_of_ble_eq_true rfl) (fun _ _ => rfl) i3 dX8_nextPlan_71 (fun H locs Y => ?_)
    obtain ⟨st4, est4, h⟩ := nm_s h
    have Y : Hp g nwM (ceM g) A s.heap st4 H locs := by rw [est4]; exact Y
    obtain ⟨v5, ev5, h⟩ := nm_s h
    refine lv_iinc (v := v5) (lv' := [(2, .int v5), (0, .ref (g.2.1 0)), (1, .int x1)]) hx hb dX8_nextPlan_72 hl (k := 2) rfl (by rw [ev5]; rfl) (by decide) rfl (fun ls hl => ?_)
    refine lv_goto (tgt := 52) hx hb dX8_nextPlan_75 (by decide) ?_
    exact hrc52 v5 st4 _ _ _ h Y (lv_sub hl [1, 2, 0] rfl)
theorem w_X8_nextPlan_52 (X : Cx g p s m args meth c cX8_nextPlan 3 RX8 (some .boolean)) {x1 : Int32}  {r9 : Int32} {st9 : Sg}   : ∀ (k : Nat) (x2 : Int32) (st : Sg) (ls : Array Slot) (H : Heap) (locs : List Loc), X8_nextPlan_52 x1 k x2 st = some (r9, st9) → Hp g nwM (ceM g) A s.heap st H locs → lv_has ls 3 [(0, .ref (g.2.1 0)), (1, .int x1), (2, .int x2)] → W p l e rm_X8_nextPlan s m args below meth c H locs 0 0 (MQ below (QI g nwM (ceM g) A r9 st9) args s 0 0 A) (F0 m 52 ls []) := by
  intro k
  induction k with
  | zero =>
    intro x2 st ls H locs h
    exact none_s h
  | succ k ih =>
    intro x2 st ls H locs h Y hl
    exact w_X8_nextPlan_52b X  (X8_nextPlan_52 x1 k) ih h Y  hl
set_option maxHeartbeats 4000000 in
set_option maxRecDepth 100000 in
theorem w_X8_nextPlan_32 (X : Cx g p s m args meth c cX8_nextPlan 3 RX8 (some .boolean)) {x1 : Int32} {st : Sg} {r9 : Int32} {st9 : Sg}  (h : X8_nextPlan_32 x1 st = some (r9, st9)) (Y : Hp g nwM (ceM g) A s.heap st H locs)  (hl : lv_has ls 3 [(0, .ref (g.2.1 0)), (1, .int x1)]) : W p l e rm_X8_nextPlan s m args below meth c H locs 0 0 (MQ below (QI g nwM (ceM g) A r9 st9) args s 0 0 A) (F0 m 32 ls []) := by
  have hx := X.1
  have hb := X.2.1
  unfold X8_nextPlan_32 at h
  refine lv_iload_n hx hb dX8_nextPlan_32 rfl (lv_at hl 1 rfl) ?_
  refine lv_if_ge (tgt := 38) hx hb dX8_nextPlan_33 (by decide) (fun c1 => ?_) (fun c1 => ?_)
  · have h := ite_t h c1
    refine lv_aload_n hx hb dX8_nextPlan_38 rfl (lv_at hl 0 rfl) ?_
    refine k_get (v := .ref (g.2.1 11)) X Y fl_8_41 0 (Nat.le_of_ble_eq_true rfl) rfl rfl dX8_nextPlan_39 ?_
    refine lv_iload_n hx hb dX8_nextPlan_42 rfl (lv_at hl 1 rfl) ?_
    refine lv_dup2_11 hx hb dX8_nextPlan_43 rfl rfl ?_
    obtain ⟨i2, h⟩ := cix_s h
    refine k_iald X Y 11 (Nat.le_of_ble_eq_true rfl) (fun _ _ => rfl) i2 dX8_nextPlan_44 ?_
    refine lv_iconst (v := 1) hx hb dX8_nextPlan_45 (by decide) ?_
    refine lv_iadd hx hb dX8_nextPlan_46 ?_
    obtain ⟨i3, h⟩ := cix_s h
    refine k_iast X Y 11 (Nat.le_of_ble_eq_true rfl) (fun _ _ => rfl) i3 dX8_nextPlan_47 (fun H locs Y => ?_)
    obtain ⟨st4, est4, h⟩ := nm_s h
    have Y : Hp g nwM (ceM g) A s.heap st4 H locs := by rw [est4]; exact Y
    refine lv_iload_n hx hb dX8_nextPlan_48 rfl (lv_at hl 1 rfl) ?_
    refine lv_iconst (v := 1) hx hb dX8_nextPlan_49 (by decide) ?_
    refine lv_iadd hx hb dX8_nextPlan_50 ?_
    obtain ⟨v5, ev5, h⟩ := nm_s h
    refine k_nmI ev5 ?_
    refine lv_istore_n (lv' := [(2, .int v5), (0, .ref (g.2.1 0)), (1, .int x1)]) hx hb dX8_nextPlan_51 rfl hl (by decide) rfl (fun ls hl => ?_)
    exact w_X8_nextPlan_52 X   FU v5 st4 _ _ _ h Y (lv_sub hl [1, 2, 0] rfl)
  · have h := ite_f h c1
    refine lv_iconst (v := 0) hx hb dX8_nextPlan_36 (by decide) ?_
    exact k_zretW X Y (Or.inl rfl) h dX8_nextPlan_37
set_option maxHeartbeats 4000000 in
set_option maxRecDepth 100000 in
theorem w_X8_nextPlan_7b (X : Cx g p s m args meth c cX8_nextPlan 3 RX8 (some .boolean)) {x1 : Int32} {st : Sg} {r9 : Int32} {st9 : Sg} (rc7 : Int32 → Sg → Option (Int32 × Sg)) (hrc7 : ∀ (x1 : Int32) (st : Sg) (ls : Array Slot) (H : Heap) (locs : List Loc), rc7 x1 st = some (r9, st9) → Hp g nwM (ceM g) A s.heap st H locs → lv_has ls 3 [(0, .ref (g.2.1 0)), (1, .int x1)] → W p l e rm_X8_nextPlan s m args below meth c H locs 0 0 (MQ below (QI g nwM (ceM g) A r9 st9) args s 0 0 A) (F0 m 7 ls [])) (h : X8_nextPlan_7b rc7 x1 st = some (r9, st9)) (Y : Hp g nwM (ceM g) A s.heap st H locs)  (hl : lv_has ls 3 [(0, .ref (g.2.1 0)), (1, .int x1)]) : W p l e rm_X8_nextPlan s m args below meth c H locs 0 0 (MQ below (QI g nwM (ceM g) A r9 st9) args s 0 0 A) (F0 m 7 ls []) := by
  have hx := X.1
  have hb := X.2.1
  unfold X8_nextPlan_7b at h
  refine lv_iload_n hx hb dX8_nextPlan_7 rfl (lv_at hl 1 rfl) ?_
  refine lv_if_lt (tgt := 32) hx hb dX8_nextPlan_8 (by decide) (fun c1 => ?_) (fun c1 => ?_)
  · have h := ite_t h c1
    exact w_X8_nextPlan_32 X  h Y  (lv_sub hl [0, 1] rfl)
  · have h := ite_f h c1
    refine lv_aload_n hx hb dX8_nextPlan_11 rfl (lv_at hl 0 rfl) ?_
    refine k_get (v := .ref (g.2.1 11)) X Y fl_8_41 0 (Nat.le_of_ble_eq_true rfl) rfl rfl dX8_nextPlan_12 ?_
    refine lv_iload_n hx hb dX8_nextPlan_15 rfl (lv_at hl 1 rfl) ?_
    obtain ⟨i2, h⟩ := cix_s h
    refine k_iald X Y 11 (Nat.le_of_ble_eq_true rfl) (fun _ _ => rfl) i2 dX8_nextPlan_16 ?_
    refine lv_aload_n hx hb dX8_nextPlan_17 rfl (lv_at hl 0 rfl) ?_
    refine k_get (v := .int (st.1 0 4)) X Y fl_8_96 0 (Nat.le_of_ble_eq_true rfl) rfl rfl dX8_nextPlan_18 ?_
    refine lv_iconst (v := 1) hx hb dX8_nextPlan_21 (by decide) ?_
    refine lv_isub hx hb dX8_nextPlan_22 ?_
    refine lv_icmp_ne (tgt := 32) hx hb dX8_nextPlan_23 (by decide) (fun c3 => ?_) (fun c3 => ?_)
    · have h := ite_f h c3
      exact w_X8_nextPlan_32 X  h Y  (lv_sub hl [0, 1] rfl)
    · have h := ite_t h c3
      obtain ⟨v4, ev4, h⟩ := nm_s h
      refine lv_iinc (v := v4) (lv' := [(1, .int v4), (0, .ref (g.2.1 0))]) hx hb dX8_nextPlan_26 hl (k := 1) rfl (by rw [ev4]; rfl) (by decide) rfl (fun ls hl => ?_)
      refine lv_goto (tgt := 7) hx hb dX8_nextPlan_29 (by decide) ?_
      exact hrc7 v4 st _ _ _ h Y (lv_sub hl [1, 0] rfl)
theorem w_X8_nextPlan_7 (X : Cx g p s m args meth c cX8_nextPlan 3 RX8 (some .boolean))   {r9 : Int32} {st9 : Sg}   : ∀ (k : Nat) (x1 : Int32) (st : Sg) (ls : Array Slot) (H : Heap) (locs : List Loc), X8_nextPlan_7 k x1 st = some (r9, st9) → Hp g nwM (ceM g) A s.heap st H locs → lv_has ls 3 [(0, .ref (g.2.1 0)), (1, .int x1)] → W p l e rm_X8_nextPlan s m args below meth c H locs 0 0 (MQ below (QI g nwM (ceM g) A r9 st9) args s 0 0 A) (F0 m 7 ls []) := by
  intro k
  induction k with
  | zero =>
    intro x1 st ls H locs h
    exact none_s h
  | succ k ih =>
    intro x1 st ls H locs h Y hl
    exact w_X8_nextPlan_7b X  (X8_nextPlan_7 k) ih h Y  hl
set_option maxHeartbeats 4000000 in
set_option maxRecDepth 100000 in
theorem w_X8_nextPlan (X : Cx g p s m args meth c cX8_nextPlan 3 RX8 (some .boolean))  {st : Sg} {r9 : Int32} {st9 : Sg}  (h : X8_nextPlan st = some (r9, st9)) (Y : Hp g nwM (ceM g) A s.heap st H locs)  (hl : lv_has ls 3 [(0, .ref (g.2.1 0))]) : W p l e rm_X8_nextPlan s m args below meth c H locs 0 0 (MQ below (QI g nwM (ceM g) A r9 st9) args s 0 0 A) (F0 m 0 ls []) := by
  have hx := X.1
  have hb := X.2.1
  unfold X8_nextPlan at h
  refine lv_aload_n hx hb dX8_nextPlan_0 rfl (lv_at hl 0 rfl) ?_
  refine k_get (v := .int (st.1 0 1)) X Y fl_8_78 0 (Nat.le_of_ble_eq_true rfl) rfl rfl dX8_nextPlan_1 ?_
  refine lv_iconst (v := 1) hx hb dX8_nextPlan_4 (by decide) ?_
  refine lv_isub hx hb dX8_nextPlan_5 ?_
  obtain ⟨v1, ev1, h⟩ := nm_s h
  refine k_nmI ev1 ?_
  refine lv_istore_n (lv' := [(1, .int v1), (0, .ref (g.2.1 0))]) hx hb dX8_nextPlan_6 rfl hl (by decide) rfl (fun ls hl => ?_)
  exact w_X8_nextPlan_7 X   FU v1 st _ _ _ h Y (lv_sub hl [1, 0] rfl)
theorem c_X8_nextPlan (l : Launch) {g : Gx}  {st : Sg} {r9 : Int32} {st9 : Sg} (h : X8_nextPlan st = some (r9, st9)) : MetI l yX8_nextPlan cX8_nextPlan 3 (some .boolean) rm_X8_nextPlan g nwM (ceM g) [.ref (g.2.1 0)] st r9 st9 :=
  met_of (Qc := fun A => QI g nwM (ceM g) A r9 st9) (by decide) (Nat.le_of_ble_eq_true rfl) (fun p e s m below meth c A ls X Y hl => w_X8_nextPlan X h Y hl)
def X8_findKept_121  (rc31 : Int64 → Int32 → Sg → Option (Int64 × Sg)) (x1 : Int32) (x2 : Int64) (st : Sg) : Option (Int64 × Sg) :=
  bnd2 (X8_nextPlan st) fun v3 st2 =>
  rc31 x2 v3 st2
def X8_findKept_92b  (rc31 : Int64 → Int32 → Sg → Option (Int64 × Sg)) (rc92 : Int32 → Sg → Option (Int64 × Sg)) (x1 : Int32) (x2 : Int64) (x5 : Int32) (st : Sg) : Option (Int64 × Sg) :=
  if (st.1 0 1) ≤ x5 then
    X8_findKept_121 rc31 x1 x2 st
  else
    cix x5 6 <|
    cix x5 6 <|
    nm (sI st 13 x5.toNatClampNeg (st.1 11 x5.toNatClampNeg)) fun st4 =>
    nm (x5 + 1) fun v5 =>
    rc92 v5 st4
def X8_findKept_92  (rc31 : Int64 → Int32 → Sg → Option (Int64 × Sg)) (x1 : Int32) (x2 : Int64) : Nat → Int32 → Sg → Option (Int64 × Sg)
  | 0, _, _ => none
  | k + 1, x5, st => X8_findKept_92b  rc31 (X8_findKept_92 rc31 x1 x2 k) x1 x2 x5 st
def X8_findKept_65  (rc31 : Int64 → Int32 → Sg → Option (Int64 × Sg)) (x1 : Int32) (x2 : Int64) (st : Sg) : Option (Int64 × Sg) :=
  cix (st.1 0 0) 13 <|
  if (lg_cmp (st.2 7 (st.1 0 0).toNatClampNeg) x2) ≤ (0 : Int32) then
    X8_findKept_121 rc31 x1 x2 st
  else
    cix (st.1 0 0) 13 <|
    nm (st.2 7 (st.1 0 0).toNatClampNeg) fun v4 =>
    X8_findKept_92 rc31 x1 v4 FU 0 st
def X8_findKept_48  (rc31 : Int64 → Int32 → Sg → Option (Int64 × Sg)) (x1 : Int32) (x2 : Int64) (st : Sg) : Option (Int64 × Sg) :=
  if x1 = (2 : Int32) then
    bnd1 (X8_meet st) fun st5 =>
    X8_findKept_65 rc31 x1 x2 st5
  else
    bnd1 (X8_bringFrom 0 st) fun st3 =>
    X8_findKept_65 rc31 x1 x2 st3
def X8_findKept_130   (x2 : Int64) (st : Sg) : Option (Int64 × Sg) :=
  some (x2, st)
def X8_findKept_31b  (rc31 : Int64 → Int32 → Sg → Option (Int64 × Sg)) (x1 : Int32) (x2 : Int64) (x4 : Int32) (st : Sg) : Option (Int64 × Sg) :=
  if x4 = (0 : Int32) then
    X8_findKept_130 x2 st
  else
    if x1 = (1 : Int32) then
      bnd1 (X8_isOnce st) fun v4 =>
      if v4 = (0 : Int32) then
        X8_findKept_121 rc31 x1 x2 st
      else
        X8_findKept_48 rc31 x1 x2 st
    else
      X8_findKept_48 rc31 x1 x2 st
def X8_findKept_31   (x1 : Int32) : Nat → Int64 → Int32 → Sg → Option (Int64 × Sg)
  | 0, _, _, _ => none
  | k + 1, x2, x4, st => X8_findKept_31b   (X8_findKept_31 x1 k) x1 x2 x4 st
def X8_findKept_28   (x1 : Int32) (x2 : Int64) (st : Sg) : Option (Int64 × Sg) :=
  X8_findKept_31 x1 FU x2 1 st
def X8_findKept_7b  (rc7 : Int32 → Sg → Option (Int64 × Sg)) (x1 : Int32) (x2 : Int64) (x4 : Int32) (st : Sg) : Option (Int64 × Sg) :=
  if (6 : Int32) ≤ x4 then
    X8_findKept_28 x1 x2 st
  else
    cix x4 6 <|
    nm (sI st 11 x4.toNatClampNeg 0) fun st3 =>
    nm (x4 + 1) fun v4 =>
    rc7 v4 st3
def X8_findKept_7   (x1 : Int32) (x2 : Int64) : Nat → Int32 → Sg → Option (Int64 × Sg)
  | 0, _, _ => none
  | k + 1, x4, st => X8_findKept_7b   (X8_findKept_7 x1 x2 k) x1 x2 x4 st
def X8_findKept   (x1 : Int32) (st : Sg) : Option (Int64 × Sg) :=
  X8_findKept_7 x1 (-1) FU 0 st
abbrev rm_X8_findKept : Room := { frames := 3, cells := 0, slots := 0, locals := 75 }
set_option maxHeartbeats 4000000 in
set_option maxRecDepth 100000 in
theorem w_X8_findKept_121 (X : Cx g p s m args meth c cX8_findKept 6 RX8 (some .long)) {x1 : Int32} {x2 : Int64} {st : Sg} {r9 : Int64} {st9 : Sg} (rc31 : Int64 → Int32 → Sg → Option (Int64 × Sg)) (hrc31 : ∀ (x2 : Int64) (x4 : Int32) (st : Sg) (ls : Array Slot) (H : Heap) (locs : List Loc), rc31 x2 x4 st = some (r9, st9) → Hp g nwM (ceM g) A s.heap st H locs → lv_has ls 6 [(0, .ref (g.2.1 0)), (1, .int x1), (2, .long x2), (4, .int x4)] → W p l e rm_X8_findKept s m args below meth c H locs 0 0 (MQ below (QJ g nwM (ceM g) A r9 st9) args s 0 0 A) (F0 m 31 ls [])) (h : X8_findKept_121 rc31 x1 x2 st = some (r9, st9)) (Y : Hp g nwM (ceM g) A s.heap st H locs)  (hl : lv_has ls 6 [(0, .ref (g.2.1 0)), (1, .int x1), (2, .long x2)]) : W p l e rm_X8_findKept s m args below meth c H locs 0 0 (MQ below (QJ g nwM (ceM g) A r9 st9) args s 0 0 A) (F0 m 121 ls []) := by
  have hx := X.1
  have hb := X.2.1
  unfold X8_findKept_121 at h
  refine lv_aload_n hx hb dX8_findKept_121 rfl (lv_at hl 0 rfl) ?_
  obtain ⟨v3, st2, hc1, h⟩ := bnd2_s h
  refine k_cI Y (k_runV (As := []) (rest := []) (o := 0) X Y cl_8_175 (c_X8_nextPlan l hc1 _) ⟨rfl, rfl, Nat.le_of_ble_eq_true rfl, Nat.le_of_ble_eq_true rfl⟩ (Nat.le_of_ble_eq_true rfl) rfl rfl hl.1 rfl (Nat.le_of_ble_eq_true rfl) dX8_findKept_122 ⟨Nat.zero_le _, Nat.zero_le _⟩) (fun H locs Y => ?_)
  refine lv_istore (lv' := [(4, .int v3), (0, .ref (g.2.1 0)), (1, .int x1), (2, .long x2)]) hx hb dX8_findKept_125 hl (by decide) rfl (fun ls hl => ?_)
  refine lv_goto (tgt := 31) hx hb dX8_findKept_127 (by decide) ?_
  exact hrc31 x2 v3 st2 _ _ _ h Y (lv_sub hl [1, 2, 3, 0] rfl)
set_option maxHeartbeats 4000000 in
set_option maxRecDepth 100000 in
theorem w_X8_findKept_92b (X : Cx g p s m args meth c cX8_findKept 6 RX8 (some .long)) {x1 : Int32} {x2 : Int64} {x5 : Int32} {st : Sg} {r9 : Int64} {st9 : Sg} (rc31 : Int64 → Int32 → Sg → Option (Int64 × Sg)) (hrc31 : ∀ (x2 : Int64) (x4 : Int32) (st : Sg) (ls : Array Slot) (H : Heap) (locs : List Loc), rc31 x2 x4 st = some (r9, st9) → Hp g nwM (ceM g) A s.heap st H locs → lv_has ls 6 [(0, .ref (g.2.1 0)), (1, .int x1), (2, .long x2), (4, .int x4)] → W p l e rm_X8_findKept s m args below meth c H locs 0 0 (MQ below (QJ g nwM (ceM g) A r9 st9) args s 0 0 A) (F0 m 31 ls [])) (rc92 : Int32 → Sg → Option (Int64 × Sg)) (hrc92 : ∀ (x5 : Int32) (st : Sg) (ls : Array Slot) (H : Heap) (locs : List Loc), rc92 x5 st = some (r9, st9) → Hp g nwM (ceM g) A s.heap st H locs → lv_has ls 6 [(0, .ref (g.2.1 0)), (1, .int x1), (2, .long x2), (5, .int x5)] → W p l e rm_X8_findKept s m args below meth c H locs 0 0 (MQ below (QJ g nwM (ceM g) A r9 st9) args s 0 0 A) (F0 m 92 ls [])) (h : X8_findKept_92b rc31 rc92 x1 x2 x5 st = some (r9, st9)) (Y : Hp g nwM (ceM g) A s.heap st H locs)  (hl : lv_has ls 6 [(0, .ref (g.2.1 0)), (1, .int x1), (2, .long x2), (5, .int x5)]) : W p l e rm_X8_findKept s m args below meth c H locs 0 0 (MQ below (QJ g nwM (ceM g) A r9 st9) args s 0 0 A) (F0 m 92 ls []) := by
  have hx := X.1
  have hb := X.2.1
  unfold X8_findKept_92b at h
  refine lv_iload hx hb dX8_findKept_92 (lv_at hl 3 rfl) ?_
  refine lv_aload_n hx hb dX8_findKept_94 rfl (lv_at hl 0 rfl) ?_
  refine k_get (v := .int (st.1 0 1)) X Y fl_8_78 0 (Nat.le_of_ble_eq_true rfl) rfl rfl dX8_findKept_95 ?_
  refine lv_icmp_ge (tgt := 121) hx hb dX8_findKept_98 (by decide) (fun c1 => ?_) (fun c1 => ?_)
  · have h := ite_t h c1
    exact w_X8_findKept_121 X rc31 hrc31 h Y  (lv_sub hl [0, 1, 2] rfl)
  · have h := ite_f h c1
    refine lv_aload_n hx hb dX8_findKept_101 rfl (lv_at hl 0 rfl) ?_
    refine k_get (v := .ref (g.2.1 13)) X Y fl_8_47 0 (Nat.le_of_ble_eq_true rfl) rfl rfl dX8_findKept_102 ?_
    refine lv_iload hx hb dX8_findKept_105 (lv_at hl 3 rfl) ?_
    refine lv_aload_n hx hb dX8_findKept_107 rfl (lv_at hl 0 rfl) ?_
    refine k_get (v := .ref (g.2.1 11)) X Y fl_8_41 0 (Nat.le_of_ble_eq_true rfl) rfl rfl dX8_findKept_108 ?_
    refine lv_iload hx hb dX8_findKept_111 (lv_at hl 3 rfl) ?_
    obtain ⟨i2, h⟩ := cix_s h
    refine k_iald X Y 11 (Nat.le_of_ble_eq_true rfl) (fun _ _ => rfl) i2 dX8_findKept_113 ?_
    obtain ⟨i3, h⟩ := cix_s h
    refine k_iast X Y 13 (Nat.le_of_ble_eq_true rfl) (fun _ _ => rfl) i3 dX8_findKept_114 (fun H locs Y => ?_)
    obtain ⟨st4, est4, h⟩ := nm_s h
    have Y : Hp g nwM (ceM g) A s.heap st4 H locs := by rw [est4]; exact Y
    obtain ⟨v5, ev5, h⟩ := nm_s h
    refine lv_iinc (v := v5) (lv' := [(5, .int v5), (0, .ref (g.2.1 0)), (1, .int x1), (2, .long x2)]) hx hb dX8_findKept_115 hl (k := 3) rfl (by rw [ev5]; rfl) (by decide) rfl (fun ls hl => ?_)
    refine lv_goto (tgt := 92) hx hb dX8_findKept_118 (by decide) ?_
    exact hrc92 v5 st4 _ _ _ h Y (lv_sub hl [1, 2, 3, 0] rfl)
theorem w_X8_findKept_92 (X : Cx g p s m args meth c cX8_findKept 6 RX8 (some .long)) {x1 : Int32} {x2 : Int64}  {r9 : Int64} {st9 : Sg} (rc31 : Int64 → Int32 → Sg → Option (Int64 × Sg)) (hrc31 : ∀ (x2 : Int64) (x4 : Int32) (st : Sg) (ls : Array Slot) (H : Heap) (locs : List Loc), rc31 x2 x4 st = some (r9, st9) → Hp g nwM (ceM g) A s.heap st H locs → lv_has ls 6 [(0, .ref (g.2.1 0)), (1, .int x1), (2, .long x2), (4, .int x4)] → W p l e rm_X8_findKept s m args below meth c H locs 0 0 (MQ below (QJ g nwM (ceM g) A r9 st9) args s 0 0 A) (F0 m 31 ls []))  : ∀ (k : Nat) (x5 : Int32) (st : Sg) (ls : Array Slot) (H : Heap) (locs : List Loc), X8_findKept_92 rc31 x1 x2 k x5 st = some (r9, st9) → Hp g nwM (ceM g) A s.heap st H locs → lv_has ls 6 [(0, .ref (g.2.1 0)), (1, .int x1), (2, .long x2), (5, .int x5)] → W p l e rm_X8_findKept s m args below meth c H locs 0 0 (MQ below (QJ g nwM (ceM g) A r9 st9) args s 0 0 A) (F0 m 92 ls []) := by
  intro k
  induction k with
  | zero =>
    intro x5 st ls H locs h
    exact none_s h
  | succ k ih =>
    intro x5 st ls H locs h Y hl
    exact w_X8_findKept_92b X rc31 hrc31 (X8_findKept_92 rc31 x1 x2 k) ih h Y  hl
set_option maxHeartbeats 4000000 in
set_option maxRecDepth 100000 in
theorem w_X8_findKept_65 (X : Cx g p s m args meth c cX8_findKept 6 RX8 (some .long)) {x1 : Int32} {x2 : Int64} {st : Sg} {r9 : Int64} {st9 : Sg} (rc31 : Int64 → Int32 → Sg → Option (Int64 × Sg)) (hrc31 : ∀ (x2 : Int64) (x4 : Int32) (st : Sg) (ls : Array Slot) (H : Heap) (locs : List Loc), rc31 x2 x4 st = some (r9, st9) → Hp g nwM (ceM g) A s.heap st H locs → lv_has ls 6 [(0, .ref (g.2.1 0)), (1, .int x1), (2, .long x2), (4, .int x4)] → W p l e rm_X8_findKept s m args below meth c H locs 0 0 (MQ below (QJ g nwM (ceM g) A r9 st9) args s 0 0 A) (F0 m 31 ls [])) (h : X8_findKept_65 rc31 x1 x2 st = some (r9, st9)) (Y : Hp g nwM (ceM g) A s.heap st H locs)  (hl : lv_has ls 6 [(0, .ref (g.2.1 0)), (1, .int x1), (2, .long x2)]) : W p l e rm_X8_findKept s m args below meth c H locs 0 0 (MQ below (QJ g nwM (ceM g) A r9 st9) args s 0 0 A) (F0 m 65 ls []) := by
  have hx := X.1
  have hb := X.2.1
  unfold X8_findKept_65 at h
  refine lv_aload_n hx hb dX8_findKept_65 rfl (lv_at hl 0 rfl) ?_
  refine k_get (v := .ref (g.2.1 7)) X Y fl_8_28 0 (Nat.le_of_ble_eq_true rfl) rfl rfl dX8_findKept_66 ?_
  refine lv_aload_n hx hb dX8_findKept_69 rfl (lv_at hl 0 rfl) ?_
  refine k_get (v := .int (st.1 0 0)) X Y fl_8_75 0 (Nat.le_of_ble_eq_true rfl) rfl rfl dX8_findKept_70 ?_
  obtain ⟨i1, h⟩ := cix_s h
  refine k_lald X Y 7 (Nat.le_of_ble_eq_true rfl) (fun _ _ => rfl) i1 dX8_findKept_73 ?_
  refine lv_lload_n hx hb dX8_findKept_74 rfl (lv_at hl 2 rfl) ?_
  refine W.lcmp hx hb dX8_findKept_75 ?_
  refine lv_if_le (tgt := 121) hx hb dX8_findKept_76 (by decide) (fun c2 => ?_) (fun c2 => ?_)
  · have h := ite_t h c2
    exact w_X8_findKept_121 X rc31 hrc31 h Y  (lv_sub hl [0, 1, 2] rfl)
  · have h := ite_f h c2
    refine lv_aload_n hx hb dX8_findKept_79 rfl (lv_at hl 0 rfl) ?_
    refine k_get (v := .ref (g.2.1 7)) X Y fl_8_28 0 (Nat.le_of_ble_eq_true rfl) rfl rfl dX8_findKept_80 ?_
    refine lv_aload_n hx hb dX8_findKept_83 rfl (lv_at hl 0 rfl) ?_
    refine k_get (v := .int (st.1 0 0)) X Y fl_8_75 0 (Nat.le_of_ble_eq_true rfl) rfl rfl dX8_findKept_84 ?_
    obtain ⟨i3, h⟩ := cix_s h
    refine k_lald X Y 7 (Nat.le_of_ble_eq_true rfl) (fun _ _ => rfl) i3 dX8_findKept_87 ?_
    obtain ⟨v4, ev4, h⟩ := nm_s h
    refine k_nmJ ev4 ?_
    refine lv_lstore_n (lv' := [(2, .long v4), (0, .ref (g.2.1 0)), (1, .int x1)]) hx hb dX8_findKept_88 rfl hl (by decide) rfl (fun ls hl => ?_)
    refine lv_iconst (v := 0) hx hb dX8_findKept_89 (by decide) ?_
    refine lv_istore (lv' := [(5, .int 0), (2, .long v4), (0, .ref (g.2.1 0)), (1, .int x1)]) hx hb dX8_findKept_90 hl (by decide) rfl (fun ls hl => ?_)
    exact w_X8_findKept_92 X rc31 hrc31  FU 0 st _ _ _ h Y (lv_sub hl [2, 3, 1, 0] rfl)
set_option maxHeartbeats 4000000 in
set_option maxRecDepth 100000 in
theorem w_X8_findKept_48 (X : Cx g p s m args meth c cX8_findKept 6 RX8 (some .long)) {x1 : Int32} {x2 : Int64} {st : Sg} {r9 : Int64} {st9 : Sg} (rc31 : Int64 → Int32 → Sg → Option (Int64 × Sg)) (hrc31 : ∀ (x2 : Int64) (x4 : Int32) (st : Sg) (ls : Array Slot) (H : Heap) (locs : List Loc), rc31 x2 x4 st = some (r9, st9) → Hp g nwM (ceM g) A s.heap st H locs → lv_has ls 6 [(0, .ref (g.2.1 0)), (1, .int x1), (2, .long x2), (4, .int x4)] → W p l e rm_X8_findKept s m args below meth c H locs 0 0 (MQ below (QJ g nwM (ceM g) A r9 st9) args s 0 0 A) (F0 m 31 ls [])) (h : X8_findKept_48 rc31 x1 x2 st = some (r9, st9)) (Y : Hp g nwM (ceM g) A s.heap st H locs)  (hl : lv_has ls 6 [(0, .ref (g.2.1 0)), (1, .int x1), (2, .long x2)]) : W p l e rm_X8_findKept s m args below meth c H locs 0 0 (MQ below (QJ g nwM (ceM g) A r9 st9) args s 0 0 A) (F0 m 48 ls []) := by
  have hx := X.1
  have hb := X.2.1
  unfold X8_findKept_48 at h
  refine lv_iload_n hx hb dX8_findKept_48 rfl (lv_at hl 1 rfl) ?_
  refine lv_iconst (v := 2) hx hb dX8_findKept_49 (by decide) ?_
  refine lv_icmp_ne (tgt := 60) hx hb dX8_findKept_50 (by decide) (fun c1 => ?_) (fun c1 => ?_)
  · have h := ite_f h c1
    refine lv_aload_n hx hb dX8_findKept_60 rfl (lv_at hl 0 rfl) ?_
    refine lv_iconst (v := 0) hx hb dX8_findKept_61 (by decide) ?_
    obtain ⟨st3, hc2, h⟩ := bnd1_s h
    refine k_cV Y (k_runV (As := [.int 0]) (rest := []) (o := 0) X Y cl_8_148 (c_X8_bringFrom l hc2 _) ⟨rfl, rfl, Nat.le_of_ble_eq_true rfl, Nat.le_of_ble_eq_true rfl⟩ (Nat.le_of_ble_eq_true rfl) rfl rfl hl.1 rfl (Nat.le_of_ble_eq_true rfl) dX8_findKept_62 ⟨Nat.zero_le _, Nat.zero_le _⟩) (fun H locs Y => ?_)
    exact w_X8_findKept_65 X rc31 hrc31 h Y  (lv_sub hl [0, 1, 2] rfl)
  · have h := ite_t h c1
    refine lv_aload_n hx hb dX8_findKept_53 rfl (lv_at hl 0 rfl) ?_
    obtain ⟨st5, hc4, h⟩ := bnd1_s h
    refine k_cV Y (k_runV (As := []) (rest := []) (o := 0) X Y cl_8_172 (c_X8_meet l hc4 _) ⟨rfl, rfl, Nat.le_of_ble_eq_true rfl, Nat.le_of_ble_eq_true rfl⟩ (Nat.le_of_ble_eq_true rfl) rfl rfl hl.1 rfl (Nat.le_of_ble_eq_true rfl) dX8_findKept_54 ⟨Nat.zero_le _, Nat.zero_le _⟩) (fun H locs Y => ?_)
    refine lv_goto (tgt := 65) hx hb dX8_findKept_57 (by decide) ?_
    exact w_X8_findKept_65 X rc31 hrc31 h Y  (lv_sub hl [0, 1, 2] rfl)
set_option maxHeartbeats 4000000 in
set_option maxRecDepth 100000 in
theorem w_X8_findKept_130 (X : Cx g p s m args meth c cX8_findKept 6 RX8 (some .long)) {x2 : Int64} {st : Sg} {r9 : Int64} {st9 : Sg}  (h : X8_findKept_130 x2 st = some (r9, st9)) (Y : Hp g nwM (ceM g) A s.heap st H locs)  (hl : lv_has ls 6 [(2, .long x2)]) : W p l e rm_X8_findKept s m args below meth c H locs 0 0 (MQ below (QJ g nwM (ceM g) A r9 st9) args s 0 0 A) (F0 m 130 ls []) := by
  have hx := X.1
  have hb := X.2.1
  unfold X8_findKept_130 at h
  refine lv_lload_n hx hb dX8_findKept_130 rfl (lv_at hl 0 rfl) ?_
  exact k_lretW X Y h dX8_findKept_131
set_option maxHeartbeats 4000000 in
set_option maxRecDepth 100000 in
theorem w_X8_findKept_31b (X : Cx g p s m args meth c cX8_findKept 6 RX8 (some .long)) {x1 : Int32} {x2 : Int64} {x4 : Int32} {st : Sg} {r9 : Int64} {st9 : Sg} (rc31 : Int64 → Int32 → Sg → Option (Int64 × Sg)) (hrc31 : ∀ (x2 : Int64) (x4 : Int32) (st : Sg) (ls : Array Slot) (H : Heap) (locs : List Loc), rc31 x2 x4 st = some (r9, st9) → Hp g nwM (ceM g) A s.heap st H locs → lv_has ls 6 [(0, .ref (g.2.1 0)), (1, .int x1), (2, .long x2), (4, .int x4)] → W p l e rm_X8_findKept s m args below meth c H locs 0 0 (MQ below (QJ g nwM (ceM g) A r9 st9) args s 0 0 A) (F0 m 31 ls [])) (h : X8_findKept_31b rc31 x1 x2 x4 st = some (r9, st9)) (Y : Hp g nwM (ceM g) A s.heap st H locs)  (hl : lv_has ls 6 [(0, .ref (g.2.1 0)), (1, .int x1), (2, .long x2), (4, .int x4)]) : W p l e rm_X8_findKept s m args below meth c H locs 0 0 (MQ below (QJ g nwM (ceM g) A r9 st9) args s 0 0 A) (F0 m 31 ls []) := by
  have hx := X.1
  have hb := X.2.1
  unfold X8_findKept_31b at h
  refine lv_iload hx hb dX8_findKept_31 (lv_at hl 3 rfl) ?_
  refine lv_if_eq (tgt := 130) hx hb dX8_findKept_33 (by decide) (fun c1 => ?_) (fun c1 => ?_)
  · have h := ite_t h c1
    exact w_X8_findKept_130 X  h Y  (lv_sub hl [2] rfl)
  · have h := ite_f h c1
    refine lv_iload_n hx hb dX8_findKept_36 rfl (lv_at hl 1 rfl) ?_
    refine lv_iconst (v := 1) hx hb dX8_findKept_37 (by decide) ?_
    refine lv_icmp_ne (tgt := 48) hx hb dX8_findKept_38 (by decide) (fun c2 => ?_) (fun c2 => ?_)
    · have h := ite_f h c2
      exact w_X8_findKept_48 X rc31 hrc31 h Y  (lv_sub hl [0, 1, 2] rfl)
    · have h := ite_t h c2
      refine lv_aload_n hx hb dX8_findKept_41 rfl (lv_at hl 0 rfl) ?_
      obtain ⟨v4, hc3, h⟩ := bnd1_s h
      refine k_cI Y (k_runV (As := []) (rest := []) (o := 0) X Y cl_8_168 (c_X8_isOnce l hc3 _) ⟨rfl, rfl, Nat.le_of_ble_eq_true rfl, Nat.le_of_ble_eq_true rfl⟩ (Nat.le_of_ble_eq_true rfl) rfl rfl hl.1 rfl (Nat.le_of_ble_eq_true rfl) dX8_findKept_42 ⟨Nat.zero_le _, Nat.zero_le _⟩) (fun H locs Y => ?_)
      refine lv_if_eq (tgt := 121) hx hb dX8_findKept_45 (by decide) (fun c5 => ?_) (fun c5 => ?_)
      · have h := ite_t h c5
        exact w_X8_findKept_121 X rc31 hrc31 h Y  (lv_sub hl [0, 1, 2] rfl)
      · have h := ite_f h c5
        exact w_X8_findKept_48 X rc31 hrc31 h Y  (lv_sub hl [0, 1, 2] rfl)
theorem w_X8_findKept_31 (X : Cx g p s m args meth c cX8_findKept 6 RX8 (some .long)) {x1 : Int32}  {r9 : Int64} {st9 : Sg}   : ∀ (k : Nat) (x2 : Int64) (x4 : Int32) (st : Sg) (ls : Array Slot) (H : Heap) (locs : List Loc), X8_findKept_31 x1 k x2 x4 st = some (r9, st9) → Hp g nwM (ceM g) A s.heap st H locs → lv_has ls 6 [(0, .ref (g.2.1 0)), (1, .int x1), (2, .long x2), (4, .int x4)] → W p l e rm_X8_findKept s m args below meth c H locs 0 0 (MQ below (QJ g nwM (ceM g) A r9 st9) args s 0 0 A) (F0 m 31 ls []) := by
  intro k
  induction k with
  | zero =>
    intro x2 x4 st ls H locs h
    exact none_s h
  | succ k ih =>
    intro x2 x4 st ls H locs h Y hl
    exact w_X8_findKept_31b X  (X8_findKept_31 x1 k) ih h Y  hl
set_option maxHeartbeats 4000000 in
set_option maxRecDepth 100000 in
theorem w_X8_findKept_28 (X : Cx g p s m args meth c cX8_findKept 6 RX8 (some .long)) {x1 : Int32} {x2 : Int64} {st : Sg} {r9 : Int64} {st9 : Sg}  (h : X8_findKept_28 x1 x2 st = some (r9, st9)) (Y : Hp g nwM (ceM g) A s.heap st H locs)  (hl : lv_has ls 6 [(0, .ref (g.2.1 0)), (1, .int x1), (2, .long x2)]) : W p l e rm_X8_findKept s m args below meth c H locs 0 0 (MQ below (QJ g nwM (ceM g) A r9 st9) args s 0 0 A) (F0 m 28 ls []) := by
  have hx := X.1
  have hb := X.2.1
  unfold X8_findKept_28 at h
  refine lv_iconst (v := 1) hx hb dX8_findKept_28 (by decide) ?_
  refine lv_istore (lv' := [(4, .int 1), (0, .ref (g.2.1 0)), (1, .int x1), (2, .long x2)]) hx hb dX8_findKept_29 hl (by decide) rfl (fun ls hl => ?_)
  exact w_X8_findKept_31 X   FU x2 1 st _ _ _ h Y (lv_sub hl [1, 2, 3, 0] rfl)
set_option maxHeartbeats 4000000 in
set_option maxRecDepth 100000 in
theorem w_X8_findKept_7b (X : Cx g p s m args meth c cX8_findKept 6 RX8 (some .long)) {x1 : Int32} {x2 : Int64} {x4 : Int32} {st : Sg} {r9 : Int64} {st9 : Sg} (rc7 : Int32 → Sg → Option (Int64 × Sg)) (hrc7 : ∀ (x4 : Int32) (st : Sg) (ls : Array Slot) (H : Heap) (locs : List Loc), rc7 x4 st = some (r9, st9) → Hp g nwM (ceM g) A s.heap st H locs → lv_has ls 6 [(0, .ref (g.2.1 0)), (1, .int x1), (2, .long x2), (4, .int x4)] → W p l e rm_X8_findKept s m args below meth c H locs 0 0 (MQ below (QJ g nwM (ceM g) A r9 st9) args s 0 0 A) (F0 m 7 ls [])) (h : X8_findKept_7b rc7 x1 x2 x4 st = some (r9, st9)) (Y : Hp g nwM (ceM g) A s.heap st H locs)  (hl : lv_has ls 6 [(0, .ref (g.2.1 0)), (1, .int x1), (2, .long x2), (4, .int x4)]) : W p l e rm_X8_findKept s m args below meth c H locs 0 0 (MQ below (QJ g nwM (ceM g) A r9 st9) args s 0 0 A) (F0 m 7 ls []) := by
  have hx := X.1
  have hb := X.2.1
  unfold X8_findKept_7b at h
  refine lv_iload hx hb dX8_findKept_7 (lv_at hl 3 rfl) ?_
  refine lv_bipush (v := 6) hx hb dX8_findKept_9 (by decide) ?_
  refine lv_icmp_ge (tgt := 28) hx hb dX8_findKept_11 (by decide) (fun c1 => ?_) (fun c1 => ?_)
  · have h := ite_t h c1
    exact w_X8_findKept_28 X  h Y  (lv_sub hl [0, 1, 2] rfl)
  · have h := ite_f h c1
    refine lv_aload_n hx hb dX8_findKept_14 rfl (lv_at hl 0 rfl) ?_
    refine k_get (v := .ref (g.2.1 11)) X Y fl_8_41 0 (Nat.le_of_ble_eq_true rfl) rfl rfl dX8_findKept_15 ?_
    refine lv_iload hx hb dX8_findKept_18 (lv_at hl 3 rfl) ?_
    refine lv_iconst (v := 0) hx hb dX8_findKept_20 (by decide) ?_
    obtain ⟨i2, h⟩ := cix_s h
    refine k_iast X Y 11 (Nat.le_of_ble_eq_true rfl) (fun _ _ => rfl) i2 dX8_findKept_21 (fun H locs Y => ?_)
    obtain ⟨st3, est3, h⟩ := nm_s h
    have Y : Hp g nwM (ceM g) A s.heap st3 H locs := by rw [est3]; exact Y
    obtain ⟨v4, ev4, h⟩ := nm_s h
    refine lv_iinc (v := v4) (lv' := [(4, .int v4), (0, .ref (g.2.1 0)), (1, .int x1), (2, .long x2)]) hx hb dX8_findKept_22 hl (k := 3) rfl (by rw [ev4]; rfl) (by decide) rfl (fun ls hl => ?_)
    refine lv_goto (tgt := 7) hx hb dX8_findKept_25 (by decide) ?_
    exact hrc7 v4 st3 _ _ _ h Y (lv_sub hl [1, 2, 3, 0] rfl)
theorem w_X8_findKept_7 (X : Cx g p s m args meth c cX8_findKept 6 RX8 (some .long)) {x1 : Int32} {x2 : Int64}  {r9 : Int64} {st9 : Sg}   : ∀ (k : Nat) (x4 : Int32) (st : Sg) (ls : Array Slot) (H : Heap) (locs : List Loc), X8_findKept_7 x1 x2 k x4 st = some (r9, st9) → Hp g nwM (ceM g) A s.heap st H locs → lv_has ls 6 [(0, .ref (g.2.1 0)), (1, .int x1), (2, .long x2), (4, .int x4)] → W p l e rm_X8_findKept s m args below meth c H locs 0 0 (MQ below (QJ g nwM (ceM g) A r9 st9) args s 0 0 A) (F0 m 7 ls []) := by
  intro k
  induction k with
  | zero =>
    intro x4 st ls H locs h
    exact none_s h
  | succ k ih =>
    intro x4 st ls H locs h Y hl
    exact w_X8_findKept_7b X  (X8_findKept_7 x1 x2 k) ih h Y  hl
set_option maxHeartbeats 4000000 in
set_option maxRecDepth 100000 in
theorem w_X8_findKept (X : Cx g p s m args meth c cX8_findKept 6 RX8 (some .long)) {x1 : Int32} {st : Sg} {r9 : Int64} {st9 : Sg}  (h : X8_findKept x1 st = some (r9, st9)) (Y : Hp g nwM (ceM g) A s.heap st H locs)  (hl : lv_has ls 6 [(0, .ref (g.2.1 0)), (1, .int x1)]) : W p l e rm_X8_findKept s m args below meth c H locs 0 0 (MQ below (QJ g nwM (ceM g) A r9 st9) args s 0 0 A) (F0 m 0 ls []) := by
  have hx := X.1
  have hb := X.2.1
  unfold X8_findKept at h
  refine k_ldc2 X lg_8_112 dX8_findKept_0 ?_
  refine lv_lstore_n (lv' := [(2, .long (-1)), (0, .ref (g.2.1 0)), (1, .int x1)]) hx hb dX8_findKept_3 rfl hl (by decide) rfl (fun ls hl => ?_)
  refine lv_iconst (v := 0) hx hb dX8_findKept_4 (by decide) ?_
  refine lv_istore (lv' := [(4, .int 0), (2, .long (-1)), (0, .ref (g.2.1 0)), (1, .int x1)]) hx hb dX8_findKept_5 hl (by decide) rfl (fun ls hl => ?_)
  exact w_X8_findKept_7 X   FU 0 st _ _ _ h Y (lv_sub hl [2, 3, 1, 0] rfl)
theorem c_X8_findKept (l : Launch) {g : Gx} {x1 : Int32} {st : Sg} {r9 : Int64} {st9 : Sg} (h : X8_findKept x1 st = some (r9, st9)) : MetJ l yX8_findKept cX8_findKept 6 (some .long) rm_X8_findKept g nwM (ceM g) [.ref (g.2.1 0), .int x1] st r9 st9 :=
  met_of (Qc := fun A => QJ g nwM (ceM g) A r9 st9) (by decide) (Nat.le_of_ble_eq_true rfl) (fun p e s m below meth c A ls X Y hl => w_X8_findKept X h Y hl)
def X8_findOdds_31  (rc7 : Int32 → Sg → Option Sg) (k1 : Int32) (k2 : Int64) (x1 : Int32) (x2 : Int32) (st : Sg) : Option Sg :=
  cix k1 13 <|
  nm (sJ st 12 k1.toNatClampNeg k2) fun st2 =>
  nm (x2 + 1) fun v3 =>
  rc7 v3 st2
def X8_findOdds_142  (rc40 : Int32 → Sg → Option Sg) (rc47 : Int32 → Sg → Option Sg) (rc90 : Int32 → Sg → Option Sg) (k1 : Int32) (k2 : Int32) (x1 : Int32) (x2 : Int32) (x3 : Int32) (x4 : Int32) (x5 : Int32) (x6 : Int64) (st : Sg) : Option Sg :=
  cix x5 13 <|
  cix k1 13 <|
  nm (sJ st 12 k1.toNatClampNeg (((k2.toInt64) * (st.2 12 x5.toNatClampNeg)) + x6)) fun st3 =>
  nm (x5 + 1) fun v4 =>
  rc90 v4 st3
def X8_findOdds_121  (rc40 : Int32 → Sg → Option Sg) (rc47 : Int32 → Sg → Option Sg) (rc90 : Int32 → Sg → Option Sg) (k0 : Int64) (x1 : Int32) (x2 : Int32) (x3 : Int32) (x4 : Int32) (x5 : Int32) (st : Sg) : Option Sg :=
  if x5 = (0 : Int32) then
    X8_findOdds_142 rc40 rc47 rc90 x5 4 x1 x2 x3 x4 x5 k0 st
  else
    X8_findOdds_142 rc40 rc47 rc90 x5 (4 - x4) x1 x2 x3 x4 x5 k0 st
def X8_findOdds_161  (rc40 : Int32 → Sg → Option Sg) (rc47 : Int32 → Sg → Option Sg) (x1 : Int32) (x2 : Int32) (x3 : Int32) (st : Sg) : Option Sg :=
  nm (sJ st 0 12 ((st.2 0 12) * 4)) fun st1 =>
  nm (x3 + 1) fun v2 =>
  rc47 v2 st1
def X8_findOdds_90b  (rc40 : Int32 → Sg → Option Sg) (rc47 : Int32 → Sg → Option Sg) (rc90 : Int32 → Sg → Option Sg) (x1 : Int32) (x2 : Int32) (x3 : Int32) (x4 : Int32) (x5 : Int32) (st : Sg) : Option Sg :=
  if (12 : Int32) < x5 then
    X8_findOdds_161 rc40 rc47 x1 x2 x3 st
  else
    if (12 : Int32) ≤ x5 then
      X8_findOdds_121 rc40 rc47 rc90 0 x1 x2 x3 x4 x5 st
    else
      cix (x5 + 1) 13 <|
      X8_findOdds_121 rc40 rc47 rc90 ((x4.toInt64) * (st.2 12 (x5 + 1).toNatClampNeg)) x1 x2 x3 x4 x5 st
def X8_findOdds_90  (rc40 : Int32 → Sg → Option Sg) (rc47 : Int32 → Sg → Option Sg) (x1 : Int32) (x2 : Int32) (x3 : Int32) (x4 : Int32) : Nat → Int32 → Sg → Option Sg
  | 0, _, _ => none
  | k + 1, x5, st => X8_findOdds_90b  rc40 rc47 (X8_findOdds_90 rc40 rc47 x1 x2 x3 x4 k) x1 x2 x3 x4 x5 st
def X8_findOdds_85  (rc40 : Int32 → Sg → Option Sg) (rc47 : Int32 → Sg → Option Sg) (k0 : Int32) (x1 : Int32) (x2 : Int32) (x3 : Int32) (st : Sg) : Option Sg :=
  X8_findOdds_90 rc40 rc47 x1 x2 x3 k0 FU 0 st
def X8_findOdds_179  (rc40 : Int32 → Sg → Option Sg) (x1 : Int32) (x2 : Int32) (st : Sg) : Option Sg :=
  nm (x2 + 1) fun v1 =>
  rc40 v1 st
def X8_findOdds_47b  (rc40 : Int32 → Sg → Option Sg) (rc47 : Int32 → Sg → Option Sg) (x1 : Int32) (x2 : Int32) (x3 : Int32) (st : Sg) : Option Sg :=
  if (st.1 0 9) ≤ x3 then
    X8_findOdds_179 rc40 x1 x2 st
  else
    bnd1 (X8_worthOf x3 x2 st) fun v3 =>
    cix x2 6 <|
    cix (st.1 11 x2.toNatClampNeg) 5 <|
    if v3 < (st.1 1 (st.1 11 x2.toNatClampNeg).toNatClampNeg) then
      X8_findOdds_85 rc40 rc47 0 x1 x2 x3 st
    else
      cix x3 3 <|
      X8_findOdds_85 rc40 rc47 (st.1 2 x3.toNatClampNeg) x1 x2 x3 st
def X8_findOdds_47  (rc40 : Int32 → Sg → Option Sg) (x1 : Int32) (x2 : Int32) : Nat → Int32 → Sg → Option Sg
  | 0, _, _ => none
  | k + 1, x3, st => X8_findOdds_47b  rc40 (X8_findOdds_47 rc40 x1 x2 k) x1 x2 x3 st
def X8_findOdds_185    (st : Sg) : Option Sg :=
  some st
def X8_findOdds_40b  (rc40 : Int32 → Sg → Option Sg) (x1 : Int32) (x2 : Int32) (st : Sg) : Option Sg :=
  if x1 ≤ x2 then
    X8_findOdds_185 st
  else
    X8_findOdds_47 rc40 x1 x2 FU 0 st
def X8_findOdds_40   (x1 : Int32) : Nat → Int32 → Sg → Option Sg
  | 0, _, _ => none
  | k + 1, x2, st => X8_findOdds_40b   (X8_findOdds_40 x1 k) x1 x2 st
def X8_findOdds_38   (x1 : Int32) (st : Sg) : Option Sg :=
  X8_findOdds_40 x1 FU 0 st
def X8_findOdds_7b  (rc7 : Int32 → Sg → Option Sg) (x1 : Int32) (x2 : Int32) (st : Sg) : Option Sg :=
  if (12 : Int32) < x2 then
    X8_findOdds_38 x1 st
  else
    if x2 = (st.1 0 0) then
      X8_findOdds_31 rc7 x2 1 x1 x2 st
    else
      X8_findOdds_31 rc7 x2 0 x1 x2 st
def X8_findOdds_7   (x1 : Int32) : Nat → Int32 → Sg → Option Sg
  | 0, _, _ => none
  | k + 1, x2, st => X8_findOdds_7b   (X8_findOdds_7 x1 k) x1 x2 st
def X8_findOdds   (x1 : Int32) (st : Sg) : Option Sg :=
  nm (sJ st 0 12 1) fun st1 =>
  X8_findOdds_7 x1 FU 0 st1
abbrev rm_X8_findOdds : Room := { frames := 1, cells := 0, slots := 0, locals := 23 }
set_option maxHeartbeats 4000000 in
set_option maxRecDepth 100000 in
theorem w_X8_findOdds_31 (X : Cx g p s m args meth c cX8_findOdds 8 RX8 none) {k1 : Int32} {k2 : Int64} {x1 : Int32} {x2 : Int32} {st : Sg} {st9 : Sg} (rc7 : Int32 → Sg → Option Sg) (hrc7 : ∀ (x2 : Int32) (st : Sg) (ls : Array Slot) (H : Heap) (locs : List Loc), rc7 x2 st = some st9 → Hp g nwM (ceM g) A s.heap st H locs → lv_has ls 8 [(0, .ref (g.2.1 0)), (1, .int x1), (2, .int x2)] → W p l e rm_X8_findOdds s m args below meth c H locs 0 0 (MQ below (QV g nwM (ceM g) A st9) args s 0 0 A) (F0 m 7 ls [])) (h : X8_findOdds_31 rc7 k1 k2 x1 x2 st = some st9) (Y : Hp g nwM (ceM g) A s.heap st H locs)  (hl : lv_has ls 8 [(0, .ref (g.2.1 0)), (1, .int x1), (2, .int x2)]) : W p l e rm_X8_findOdds s m args below meth c H locs 0 0 (MQ below (QV g nwM (ceM g) A st9) args s 0 0 A) (F0 m 31 ls [.long k2, .int k1, .ref (g.2.1 12)]) := by
  have hx := X.1
  have hb := X.2.1
  unfold X8_findOdds_31 at h
  obtain ⟨i1, h⟩ := cix_s h
  refine k_last X Y 12 (Nat.le_of_ble_eq_true rfl) (fun _ _ => rfl) i1 dX8_findOdds_31 (fun H locs Y => ?_)
  obtain ⟨st2, est2, h⟩ := nm_s h
  have Y : Hp g nwM (ceM g) A s.heap st2 H locs := by rw [est2]; exact Y
  obtain ⟨v3, ev3, h⟩ := nm_s h
  refine lv_iinc (v := v3) (lv' := [(2, .int v3), (0, .ref (g.2.1 0)), (1, .int x1)]) hx hb dX8_findOdds_32 hl (k := 2) rfl (by rw [ev3]; rfl) (by decide) rfl (fun ls hl => ?_)
  refine lv_goto (tgt := 7) hx hb dX8_findOdds_35 (by decide) ?_
  exact hrc7 v3 st2 _ _ _ h Y (lv_sub hl [1, 2, 0] rfl)
set_option maxHeartbeats 4000000 in
set_option maxRecDepth 100000 in
theorem w_X8_findOdds_142 (X : Cx g p s m args meth c cX8_findOdds 8 RX8 none) {k1 : Int32} {k2 : Int32} {x1 : Int32} {x2 : Int32} {x3 : Int32} {x4 : Int32} {x5 : Int32} {x6 : Int64} {st : Sg} {st9 : Sg} (rc40 : Int32 → Sg → Option Sg) (hrc40 : ∀ (x2 : Int32) (st : Sg) (ls : Array Slot) (H : Heap) (locs : List Loc), rc40 x2 st = some st9 → Hp g nwM (ceM g) A s.heap st H locs → lv_has ls 8 [(0, .ref (g.2.1 0)), (1, .int x1), (2, .int x2)] → W p l e rm_X8_findOdds s m args below meth c H locs 0 0 (MQ below (QV g nwM (ceM g) A st9) args s 0 0 A) (F0 m 40 ls [])) (rc47 : Int32 → Sg → Option Sg) (hrc47 : ∀ (x3 : Int32) (st : Sg) (ls : Array Slot) (H : Heap) (locs : List Loc), rc47 x3 st = some st9 → Hp g nwM (ceM g) A s.heap st H locs → lv_has ls 8 [(0, .ref (g.2.1 0)), (1, .int x1), (2, .int x2), (3, .int x3)] → W p l e rm_X8_findOdds s m args below meth c H locs 0 0 (MQ below (QV g nwM (ceM g) A st9) args s 0 0 A) (F0 m 47 ls [])) (rc90 : Int32 → Sg → Option Sg) (hrc90 : ∀ (x5 : Int32) (st : Sg) (ls : Array Slot) (H : Heap) (locs : List Loc), rc90 x5 st = some st9 → Hp g nwM (ceM g) A s.heap st H locs → lv_has ls 8 [(0, .ref (g.2.1 0)), (1, .int x1), (2, .int x2), (3, .int x3), (4, .int x4), (5, .int x5)] → W p l e rm_X8_findOdds s m args below meth c H locs 0 0 (MQ below (QV g nwM (ceM g) A st9) args s 0 0 A) (F0 m 90 ls [])) (h : X8_findOdds_142 rc40 rc47 rc90 k1 k2 x1 x2 x3 x4 x5 x6 st = some st9) (Y : Hp g nwM (ceM g) A s.heap st H locs)  (hl : lv_has ls 8 [(0, .ref (g.2.1 0)), (1, .int x1), (2, .int x2), (3, .int x3), (4, .int x4), (5, .int x5), (6, .long x6)]) : W p l e rm_X8_findOdds s m args below meth c H locs 0 0 (MQ below (QV g nwM (ceM g) A st9) args s 0 0 A) (F0 m 142 ls [.int k2, .int k1, .ref (g.2.1 12)]) := by
  have hx := X.1
  have hb := X.2.1
  unfold X8_findOdds_142 at h
  refine lv_i2l hx hb dX8_findOdds_142 rfl ?_
  refine lv_aload_n hx hb dX8_findOdds_143 rfl (lv_at hl 0 rfl) ?_
  refine k_get (v := .ref (g.2.1 12)) X Y fl_8_44 0 (Nat.le_of_ble_eq_true rfl) rfl rfl dX8_findOdds_144 ?_
  refine lv_iload hx hb dX8_findOdds_147 (lv_at hl 5 rfl) ?_
  obtain ⟨i1, h⟩ := cix_s h
  refine k_lald X Y 12 (Nat.le_of_ble_eq_true rfl) (fun _ _ => rfl) i1 dX8_findOdds_149 ?_
  refine lv_lmul hx hb dX8_findOdds_150 ?_
  refine lv_lload hx hb dX8_findOdds_151 (lv_at hl 6 rfl) ?_
  refine lv_ladd hx hb dX8_findOdds_153 ?_
  obtain ⟨i2, h⟩ := cix_s h
  refine k_last X Y 12 (Nat.le_of_ble_eq_true rfl) (fun _ _ => rfl) i2 dX8_findOdds_154 (fun H locs Y => ?_)
  obtain ⟨st3, est3, h⟩ := nm_s h
  have Y : Hp g nwM (ceM g) A s.heap st3 H locs := by rw [est3]; exact Y
  obtain ⟨v4, ev4, h⟩ := nm_s h
  refine lv_iinc (v := v4) (lv' := [(5, .int v4), (0, .ref (g.2.1 0)), (1, .int x1), (2, .int x2), (3, .int x3), (4, .int x4), (6, .long x6)]) hx hb dX8_findOdds_155 hl (k := 5) rfl (by rw [ev4]; rfl) (by decide) rfl (fun ls hl => ?_)
  refine lv_goto (tgt := 90) hx hb dX8_findOdds_158 (by decide) ?_
  exact hrc90 v4 st3 _ _ _ h Y (lv_sub hl [1, 2, 3, 4, 5, 0] rfl)
set_option maxHeartbeats 4000000 in
set_option maxRecDepth 100000 in
theorem w_X8_findOdds_121 (X : Cx g p s m args meth c cX8_findOdds 8 RX8 none) {k0 : Int64} {x1 : Int32} {x2 : Int32} {x3 : Int32} {x4 : Int32} {x5 : Int32} {st : Sg} {st9 : Sg} (rc40 : Int32 → Sg → Option Sg) (hrc40 : ∀ (x2 : Int32) (st : Sg) (ls : Array Slot) (H : Heap) (locs : List Loc), rc40 x2 st = some st9 → Hp g nwM (ceM g) A s.heap st H locs → lv_has ls 8 [(0, .ref (g.2.1 0)), (1, .int x1), (2, .int x2)] → W p l e rm_X8_findOdds s m args below meth c H locs 0 0 (MQ below (QV g nwM (ceM g) A st9) args s 0 0 A) (F0 m 40 ls [])) (rc47 : Int32 → Sg → Option Sg) (hrc47 : ∀ (x3 : Int32) (st : Sg) (ls : Array Slot) (H : Heap) (locs : List Loc), rc47 x3 st = some st9 → Hp g nwM (ceM g) A s.heap st H locs → lv_has ls 8 [(0, .ref (g.2.1 0)), (1, .int x1), (2, .int x2), (3, .int x3)] → W p l e rm_X8_findOdds s m args below meth c H locs 0 0 (MQ below (QV g nwM (ceM g) A st9) args s 0 0 A) (F0 m 47 ls [])) (rc90 : Int32 → Sg → Option Sg) (hrc90 : ∀ (x5 : Int32) (st : Sg) (ls : Array Slot) (H : Heap) (locs : List Loc), rc90 x5 st = some st9 → Hp g nwM (ceM g) A s.heap st H locs → lv_has ls 8 [(0, .ref (g.2.1 0)), (1, .int x1), (2, .int x2), (3, .int x3), (4, .int x4), (5, .int x5)] → W p l e rm_X8_findOdds s m args below meth c H locs 0 0 (MQ below (QV g nwM (ceM g) A st9) args s 0 0 A) (F0 m 90 ls [])) (h : X8_findOdds_121 rc40 rc47 rc90 k0 x1 x2 x3 x4 x5 st = some st9) (Y : Hp g nwM (ceM g) A s.heap st H locs)  (hl : lv_has ls 8 [(0, .ref (g.2.1 0)), (1, .int x1), (2, .int x2), (3, .int x3), (4, .int x4), (5, .int x5)]) : W p l e rm_X8_findOdds s m args below meth c H locs 0 0 (MQ below (QV g nwM (ceM g) A st9) args s 0 0 A) (F0 m 121 ls [.long k0]) := by
  have hx := X.1
  have hb := X.2.1
  unfold X8_findOdds_121 at h
  refine lv_lstore (lv' := [(6, .long k0), (0, .ref (g.2.1 0)), (1, .int x1), (2, .int x2), (3, .int x3), (4, .int x4), (5, .int x5)]) hx hb dX8_findOdds_121 hl (by decide) rfl (fun ls hl => ?_)
  refine lv_aload_n hx hb dX8_findOdds_123 rfl (lv_at hl 1 rfl) ?_
  refine k_get (v := .ref (g.2.1 12)) X Y fl_8_44 0 (Nat.le_of_ble_eq_true rfl) rfl rfl dX8_findOdds_124 ?_
  refine lv_iload hx hb dX8_findOdds_127 (lv_at hl 6 rfl) ?_
  refine lv_iload hx hb dX8_findOdds_129 (lv_at hl 6 rfl) ?_
  refine lv_if_ne (tgt := 138) hx hb dX8_findOdds_131 (by decide) (fun c1 => ?_) (fun c1 => ?_)
  · have h := ite_f h c1
    refine lv_iconst (v := 4) hx hb dX8_findOdds_138 (by decide) ?_
    refine lv_iload hx hb dX8_findOdds_139 (lv_at hl 5 rfl) ?_
    refine lv_isub hx hb dX8_findOdds_141 ?_
    exact w_X8_findOdds_142 X rc40 hrc40 rc47 hrc47 rc90 hrc90 h Y  (lv_sub hl [1, 2, 3, 4, 5, 6, 0] rfl)
  · have h := ite_t h c1
    refine lv_iconst (v := 4) hx hb dX8_findOdds_134 (by decide) ?_
    refine lv_goto (tgt := 142) hx hb dX8_findOdds_135 (by decide) ?_
    exact w_X8_findOdds_142 X rc40 hrc40 rc47 hrc47 rc90 hrc90 h Y  (lv_sub hl [1, 2, 3, 4, 5, 6, 0] rfl)
set_option maxHeartbeats 4000000 in
set_option maxRecDepth 100000 in
theorem w_X8_findOdds_161 (X : Cx g p s m args meth c cX8_findOdds 8 RX8 none) {x1 : Int32} {x2 : Int32} {x3 : Int32} {st : Sg} {st9 : Sg} (rc40 : Int32 → Sg → Option Sg) (hrc40 : ∀ (x2 : Int32) (st : Sg) (ls : Array Slot) (H : Heap) (locs : List Loc), rc40 x2 st = some st9 → Hp g nwM (ceM g) A s.heap st H locs → lv_has ls 8 [(0, .ref (g.2.1 0)), (1, .int x1), (2, .int x2)] → W p l e rm_X8_findOdds s m args below meth c H locs 0 0 (MQ below (QV g nwM (ceM g) A st9) args s 0 0 A) (F0 m 40 ls [])) (rc47 : Int32 → Sg → Option Sg) (hrc47 : ∀ (x3 : Int32) (st : Sg) (ls : Array Slot) (H : Heap) (locs : List Loc), rc47 x3 st = some st9 → Hp g nwM (ceM g) A s.heap st H locs → lv_has ls 8 [(0, .ref (g.2.1 0)), (1, .int x1), (2, .int x2), (3, .int x3)] → W p l e rm_X8_findOdds s m args below meth c H locs 0 0 (MQ below (QV g nwM (ceM g) A st9) args s 0 0 A) (F0 m 47 ls [])) (h : X8_findOdds_161 rc40 rc47 x1 x2 x3 st = some st9) (Y : Hp g nwM (ceM g) A s.heap st H locs)  (hl : lv_has ls 8 [(0, .ref (g.2.1 0)), (1, .int x1), (2, .int x2), (3, .int x3)]) : W p l e rm_X8_findOdds s m args below meth c H locs 0 0 (MQ below (QV g nwM (ceM g) A st9) args s 0 0 A) (F0 m 161 ls []) := by
  have hx := X.1
  have hb := X.2.1
  unfold X8_findOdds_161 at h
  refine lv_aload_n hx hb dX8_findOdds_161 rfl (lv_at hl 0 rfl) ?_
  refine lv_dup hx hb dX8_findOdds_162 rfl ?_
  refine k_get (v := .long (st.2 0 12)) X Y fl_8_120 0 (Nat.le_of_ble_eq_true rfl) rfl rfl dX8_findOdds_163 ?_
  refine k_ldc2 X lg_8_99 dX8_findOdds_166 ?_
  refine lv_lmul hx hb dX8_findOdds_169 ?_
  refine k_putJ X Y fl_8_120 0 (Nat.le_of_ble_eq_true rfl) rfl (Nat.le_of_ble_eq_true rfl) rfl dX8_findOdds_170 (fun H locs Y => ?_)
  obtain ⟨st1, est1, h⟩ := nm_s h
  have Y : Hp g nwM (ceM g) A s.heap st1 H locs := by rw [est1]; exact Y
  obtain ⟨v2, ev2, h⟩ := nm_s h
  refine lv_iinc (v := v2) (lv' := [(3, .int v2), (0, .ref (g.2.1 0)), (1, .int x1), (2, .int x2)]) hx hb dX8_findOdds_173 hl (k := 3) rfl (by rw [ev2]; rfl) (by decide) rfl (fun ls hl => ?_)
  refine lv_goto (tgt := 47) hx hb dX8_findOdds_176 (by decide) ?_
  exact hrc47 v2 st1 _ _ _ h Y (lv_sub hl [1, 2, 3, 0] rfl)
set_option maxHeartbeats 4000000 in
set_option maxRecDepth 100000 in
theorem w_X8_findOdds_90b (X : Cx g p s m args meth c cX8_findOdds 8 RX8 none) {x1 : Int32} {x2 : Int32} {x3 : Int32} {x4 : Int32} {x5 : Int32} {st : Sg} {st9 : Sg} (rc40 : Int32 → Sg → Option Sg) (hrc40 : ∀ (x2 : Int32) (st : Sg) (ls : Array Slot) (H : Heap) (locs : List Loc), rc40 x2 st = some st9 → Hp g nwM (ceM g) A s.heap st H locs → lv_has ls 8 [(0, .ref (g.2.1 0)), (1, .int x1), (2, .int x2)] → W p l e rm_X8_findOdds s m args below meth c H locs 0 0 (MQ below (QV g nwM (ceM g) A st9) args s 0 0 A) (F0 m 40 ls [])) (rc47 : Int32 → Sg → Option Sg) (hrc47 : ∀ (x3 : Int32) (st : Sg) (ls : Array Slot) (H : Heap) (locs : List Loc), rc47 x3 st = some st9 → Hp g nwM (ceM g) A s.heap st H locs → lv_has ls 8 [(0, .ref (g.2.1 0)), (1, .int x1), (2, .int x2), (3, .int x3)] → W p l e rm_X8_findOdds s m args below meth c H locs 0 0 (MQ below (QV g nwM (ceM g) A st9) args s 0 0 A) (F0 m 47 ls [])) (rc90 : Int32 → Sg → Option Sg) (hrc90 : ∀ (x5 : Int32) (st : Sg) (ls : Array Slot) (H : Heap) (locs : List Loc), rc90 x5 st = some st9 → Hp g nwM (ceM g) A s.heap st H locs → lv_has ls 8 [(0, .ref (g.2.1 0)), (1, .int x1), (2, .int x2), (3, .int x3), (4, .int x4), (5, .int x5)] → W p l e rm_X8_findOdds s m args below meth c H locs 0 0 (MQ below (QV g nwM (ceM g) A st9) args s 0 0 A) (F0 m 90 ls [])) (h : X8_findOdds_90b rc40 rc47 rc90 x1 x2 x3 x4 x5 st = some st9) (Y : Hp g nwM (ceM g) A s.heap st H locs)  (hl : lv_has ls 8 [(0, .ref (g.2.1 0)), (1, .int x1), (2, .int x2), (3, .int x3), (4, .int x4), (5, .int x5)]) : W p l e rm_X8_findOdds s m args below meth c H locs 0 0 (MQ below (QV g nwM (ceM g) A st9) args s 0 0 A) (F0 m 90 ls []) := by
  have hx := X.1
  have hb := X.2.1
  unfold X8_findOdds_90b at h
  refine lv_iload hx hb dX8_findOdds_90 (lv_at hl 5 rfl) ?_
  refine lv_bipush (v := 12) hx hb dX8_findOdds_92 (by decide) ?_
  refine lv_icmp_gt (tgt := 161) hx hb dX8_findOdds_94 (by decide) (fun c1 => ?_) (fun c1 => ?_)
  · have h := ite_t h c1
    exact w_X8_findOdds_161 X rc40 hrc40 rc47 hrc47 h Y  (lv_sub hl [0, 1, 2, 3] rfl)
  · have h := ite_f h c1
    refine lv_iload hx hb dX8_findOdds_97 (lv_at hl 5 rfl) ?_
    refine lv_bipush (v := 12) hx hb dX8_findOdds_99 (by decide) ?_
    refine lv_icmp_ge (tgt := 120) hx hb dX8_findOdds_101 (by decide) (fun c2 => ?_) (fun c2 => ?_)
    · have h := ite_t h c2
      refine lv_lconst (v := 0) hx hb dX8_findOdds_120 (by decide) ?_
      exact w_X8_findOdds_121 X rc40 hrc40 rc47 hrc47 rc90 hrc90 h Y  (lv_sub hl [0, 1, 2, 3, 4, 5] rfl)
    · have h := ite_f h c2
      refine lv_iload hx hb dX8_findOdds_104 (lv_at hl 4 rfl) ?_
      refine lv_i2l hx hb dX8_findOdds_106 rfl ?_
      refine lv_aload_n hx hb dX8_findOdds_107 rfl (lv_at hl 0 rfl) ?_
      refine k_get (v := .ref (g.2.1 12)) X Y fl_8_44 0 (Nat.le_of_ble_eq_true rfl) rfl rfl dX8_findOdds_108 ?_
      refine lv_iload hx hb dX8_findOdds_111 (lv_at hl 5 rfl) ?_
      refine lv_iconst (v := 1) hx hb dX8_findOdds_113 (by decide) ?_
      refine lv_iadd hx hb dX8_findOdds_114 ?_
      obtain ⟨i3, h⟩ := cix_s h
      refine k_lald X Y 12 (Nat.le_of_ble_eq_true rfl) (fun _ _ => rfl) i3 dX8_findOdds_115 ?_
      refine lv_lmul hx hb dX8_findOdds_116 ?_
      refine lv_goto (tgt := 121) hx hb dX8_findOdds_117 (by decide) ?_
      exact w_X8_findOdds_121 X rc40 hrc40 rc47 hrc47 rc90 hrc90 h Y  (lv_sub hl [0, 1, 2, 3, 4, 5] rfl)
theorem w_X8_findOdds_90 (X : Cx g p s m args meth c cX8_findOdds 8 RX8 none) {x1 : Int32} {x2 : Int32} {x3 : Int32} {x4 : Int32}  {st9 : Sg} (rc40 : Int32 → Sg → Option Sg) (hrc40 : ∀ (x2 : Int32) (st : Sg) (ls : Array Slot) (H : Heap) (locs : List Loc), rc40 x2 st = some st9 → Hp g nwM (ceM g) A s.heap st H locs → lv_has ls 8 [(0, .ref (g.2.1 0)), (1, .int x1), (2, .int x2)] → W p l e rm_X8_findOdds s m args below meth c H locs 0 0 (MQ below (QV g nwM (ceM g) A st9) args s 0 0 A) (F0 m 40 ls [])) (rc47 : Int32 → Sg → Option Sg) (hrc47 : ∀ (x3 : Int32) (st : Sg) (ls : Array Slot) (H : Heap) (locs : List Loc), rc47 x3 st = some st9 → Hp g nwM (ceM g) A s.heap st H locs → lv_has ls 8 [(0, .ref (g.2.1 0)), (1, .int x1), (2, .int x2), (3, .int x3)] → W p l e rm_X8_findOdds s m args below meth c H locs 0 0 (MQ below (QV g nwM (ceM g) A st9) args s 0 0 A) (F0 m 47 ls []))  : ∀ (k : Nat) (x5 : Int32) (st : Sg) (ls : Array Slot) (H : Heap) (locs : List Loc), X8_findOdds_90 rc40 rc47 x1 x2 x3 x4 k x5 st = some st9 → Hp g nwM (ceM g) A s.heap st H locs → lv_has ls 8 [(0, .ref (g.2.1 0)), (1, .int x1), (2, .int x2), (3, .int x3), (4, .int x4), (5, .int x5)] → W p l e rm_X8_findOdds s m args below meth c H locs 0 0 (MQ below (QV g nwM (ceM g) A st9) args s 0 0 A) (F0 m 90 ls []) := by
  intro k
  induction k with
  | zero =>
    intro x5 st ls H locs h
    exact none_s h
  | succ k ih =>
    intro x5 st ls H locs h Y hl
    exact w_X8_findOdds_90b X rc40 hrc40 rc47 hrc47 (X8_findOdds_90 rc40 rc47 x1 x2 x3 x4 k) ih h Y  hl
set_option maxHeartbeats 4000000 in
set_option maxRecDepth 100000 in
theorem w_X8_findOdds_85 (X : Cx g p s m args meth c cX8_findOdds 8 RX8 none) {k0 : Int32} {x1 : Int32} {x2 : Int32} {x3 : Int32} {st : Sg} {st9 : Sg} (rc40 : Int32 → Sg → Option Sg) (hrc40 : ∀ (x2 : Int32) (st : Sg) (ls : Array Slot) (H : Heap) (locs : List Loc), rc40 x2 st = some st9 → Hp g nwM (ceM g) A s.heap st H locs → lv_has ls 8 [(0, .ref (g.2.1 0)), (1, .int x1), (2, .int x2)] → W p l e rm_X8_findOdds s m args below meth c H locs 0 0 (MQ below (QV g nwM (ceM g) A st9) args s 0 0 A) (F0 m 40 ls [])) (rc47 : Int32 → Sg → Option Sg) (hrc47 : ∀ (x3 : Int32) (st : Sg) (ls : Array Slot) (H : Heap) (locs : List Loc), rc47 x3 st = some st9 → Hp g nwM (ceM g) A s.heap st H locs → lv_has ls 8 [(0, .ref (g.2.1 0)), (1, .int x1), (2, .int x2), (3, .int x3)] → W p l e rm_X8_findOdds s m args below meth c H locs 0 0 (MQ below (QV g nwM (ceM g) A st9) args s 0 0 A) (F0 m 47 ls [])) (h : X8_findOdds_85 rc40 rc47 k0 x1 x2 x3 st = some st9) (Y : Hp g nwM (ceM g) A s.heap st H locs)  (hl : lv_has ls 8 [(0, .ref (g.2.1 0)), (1, .int x1), (2, .int x2), (3, .int x3)]) : W p l e rm_X8_findOdds s m args below meth c H locs 0 0 (MQ below (QV g nwM (ceM g) A st9) args s 0 0 A) (F0 m 85 ls [.int k0]) := by
  have hx := X.1
  have hb := X.2.1
  unfold X8_findOdds_85 at h
  refine lv_istore (lv' := [(4, .int k0), (0, .ref (g.2.1 0)), (1, .int x1), (2, .int x2), (3, .int x3)]) hx hb dX8_findOdds_85 hl (by decide) rfl (fun ls hl => ?_)
  refine lv_iconst (v := 0) hx hb dX8_findOdds_87 (by decide) ?_
  refine lv_istore (lv' := [(5, .int 0), (4, .int k0), (0, .ref (g.2.1 0)), (1, .int x1), (2, .int x2), (3, .int x3)]) hx hb dX8_findOdds_88 hl (by decide) rfl (fun ls hl => ?_)
  exact w_X8_findOdds_90 X rc40 hrc40 rc47 hrc47  FU 0 st _ _ _ h Y (lv_sub hl [2, 3, 4, 5, 1, 0] rfl)
set_option maxHeartbeats 4000000 in
set_option maxRecDepth 100000 in
theorem w_X8_findOdds_179 (X : Cx g p s m args meth c cX8_findOdds 8 RX8 none) {x1 : Int32} {x2 : Int32} {st : Sg} {st9 : Sg} (rc40 : Int32 → Sg → Option Sg) (hrc40 : ∀ (x2 : Int32) (st : Sg) (ls : Array Slot) (H : Heap) (locs : List Loc), rc40 x2 st = some st9 → Hp g nwM (ceM g) A s.heap st H locs → lv_has ls 8 [(0, .ref (g.2.1 0)), (1, .int x1), (2, .int x2)] → W p l e rm_X8_findOdds s m args below meth c H locs 0 0 (MQ below (QV g nwM (ceM g) A st9) args s 0 0 A) (F0 m 40 ls [])) (h : X8_findOdds_179 rc40 x1 x2 st = some st9) (Y : Hp g nwM (ceM g) A s.heap st H locs)  (hl : lv_has ls 8 [(0, .ref (g.2.1 0)), (1, .int x1), (2, .int x2)]) : W p l e rm_X8_findOdds s m args below meth c H locs 0 0 (MQ below (QV g nwM (ceM g) A st9) args s 0 0 A) (F0 m 179 ls []) := by
  have hx := X.1
  have hb := X.2.1
  unfold X8_findOdds_179 at h
  obtain ⟨v1, ev1, h⟩ := nm_s h
  refine lv_iinc (v := v1) (lv' := [(2, .int v1), (0, .ref (g.2.1 0)), (1, .int x1)]) hx hb dX8_findOdds_179 hl (k := 2) rfl (by rw [ev1]; rfl) (by decide) rfl (fun ls hl => ?_)
  refine lv_goto (tgt := 40) hx hb dX8_findOdds_182 (by decide) ?_
  exact hrc40 v1 st _ _ _ h Y (lv_sub hl [1, 2, 0] rfl)
set_option maxHeartbeats 4000000 in
set_option maxRecDepth 100000 in
theorem w_X8_findOdds_47b (X : Cx g p s m args meth c cX8_findOdds 8 RX8 none) {x1 : Int32} {x2 : Int32} {x3 : Int32} {st : Sg} {st9 : Sg} (rc40 : Int32 → Sg → Option Sg) (hrc40 : ∀ (x2 : Int32) (st : Sg) (ls : Array Slot) (H : Heap) (locs : List Loc), rc40 x2 st = some st9 → Hp g nwM (ceM g) A s.heap st H locs → lv_has ls 8 [(0, .ref (g.2.1 0)), (1, .int x1), (2, .int x2)] → W p l e rm_X8_findOdds s m args below meth c H locs 0 0 (MQ below (QV g nwM (ceM g) A st9) args s 0 0 A) (F0 m 40 ls [])) (rc47 : Int32 → Sg → Option Sg) (hrc47 : ∀ (x3 : Int32) (st : Sg) (ls : Array Slot) (H : Heap) (locs : List Loc), rc47 x3 st = some st9 → Hp g nwM (ceM g) A s.heap st H locs → lv_has ls 8 [(0, .ref (g.2.1 0)), (1, .int x1), (2, .int x2), (3, .int x3)] → W p l e rm_X8_findOdds s m args below meth c H locs 0 0 (MQ below (QV g nwM (ceM g) A st9) args s 0 0 A) (F0 m 47 ls [])) (h : X8_findOdds_47b rc40 rc47 x1 x2 x3 st = some st9) (Y : Hp g nwM (ceM g) A s.heap st H locs)  (hl : lv_has ls 8 [(0, .ref (g.2.1 0)), (1, .int x1), (2, .int x2), (3, .int x3)]) : W p l e rm_X8_findOdds s m args below meth c H locs 0 0 (MQ below (QV g nwM (ceM g) A st9) args s 0 0 A) (F0 m 47 ls []) := by
  have hx := X.1
  have hb := X.2.1
  unfold X8_findOdds_47b at h
  refine lv_iload_n hx hb dX8_findOdds_47 rfl (lv_at hl 3 rfl) ?_
  refine lv_aload_n hx hb dX8_findOdds_48 rfl (lv_at hl 0 rfl) ?_
  refine k_get (v := .int (st.1 0 9)) X Y fl_8_103 0 (Nat.le_of_ble_eq_true rfl) rfl rfl dX8_findOdds_49 ?_
  refine lv_icmp_ge (tgt := 179) hx hb dX8_findOdds_52 (by decide) (fun c1 => ?_) (fun c1 => ?_)
  · have h := ite_t h c1
    exact w_X8_findOdds_179 X rc40 hrc40 h Y  (lv_sub hl [0, 1, 2] rfl)
  · have h := ite_f h c1
    refine lv_aload_n hx hb dX8_findOdds_55 rfl (lv_at hl 0 rfl) ?_
    refine lv_iload_n hx hb dX8_findOdds_56 rfl (lv_at hl 3 rfl) ?_
    refine lv_iload_n hx hb dX8_findOdds_57 rfl (lv_at hl 2 rfl) ?_
    obtain ⟨v3, hc2, h⟩ := bnd1_s h
    refine k_cI Y (k_runV (As := [.int x3, .int x2]) (rest := []) (o := 0) X Y cl_8_116 (c_X8_worthOf l hc2 _) ⟨rfl, rfl, Nat.le_of_ble_eq_true rfl, Nat.le_of_ble_eq_true rfl⟩ (Nat.le_of_ble_eq_true rfl) rfl rfl hl.1 rfl (Nat.le_of_ble_eq_true rfl) dX8_findOdds_58 ⟨Nat.zero_le _, Nat.zero_le _⟩) (fun H locs Y => ?_)
    refine lv_aload_n hx hb dX8_findOdds_61 rfl (lv_at hl 0 rfl) ?_
    refine k_get (v := .ref (g.2.1 1)) X Y fl_8_7 0 (Nat.le_of_ble_eq_true rfl) rfl rfl dX8_findOdds_62 ?_
    refine lv_aload_n hx hb dX8_findOdds_65 rfl (lv_at hl 0 rfl) ?_
    refine k_get (v := .ref (g.2.1 11)) X Y fl_8_41 0 (Nat.le_of_ble_eq_true rfl) rfl rfl dX8_findOdds_66 ?_
    refine lv_iload_n hx hb dX8_findOdds_69 rfl (lv_at hl 2 rfl) ?_
    obtain ⟨i4, h⟩ := cix_s h
    refine k_iald X Y 11 (Nat.le_of_ble_eq_true rfl) (fun _ _ => rfl) i4 dX8_findOdds_70 ?_
    obtain ⟨i5, h⟩ := cix_s h
    refine k_iald X Y 1 (Nat.le_of_ble_eq_true rfl) (fun _ _ => rfl) i5 dX8_findOdds_71 ?_
    refine lv_icmp_lt (tgt := 84) hx hb dX8_findOdds_72 (by decide) (fun c6 => ?_) (fun c6 => ?_)
    · have h := ite_t h c6
      refine lv_iconst (v := 0) hx hb dX8_findOdds_84 (by decide) ?_
      exact w_X8_findOdds_85 X rc40 hrc40 rc47 hrc47 h Y  (lv_sub hl [0, 1, 2, 3] rfl)
    · have h := ite_f h c6
      refine lv_aload_n hx hb dX8_findOdds_75 rfl (lv_at hl 0 rfl) ?_
      refine k_get (v := .ref (g.2.1 2)) X Y fl_8_13 0 (Nat.le_of_ble_eq_true rfl) rfl rfl dX8_findOdds_76 ?_
      refine lv_iload_n hx hb dX8_findOdds_79 rfl (lv_at hl 3 rfl) ?_
      obtain ⟨i7, h⟩ := cix_s h
      refine k_iald X Y 2 (Nat.le_of_ble_eq_true rfl) (fun _ _ => rfl) i7 dX8_findOdds_80 ?_
      refine lv_goto (tgt := 85) hx hb dX8_findOdds_81 (by decide) ?_
      exact w_X8_findOdds_85 X rc40 hrc40 rc47 hrc47 h Y  (lv_sub hl [0, 1, 2, 3] rfl)
theorem w_X8_findOdds_47 (X : Cx g p s m args meth c cX8_findOdds 8 RX8 none) {x1 : Int32} {x2 : Int32}  {st9 : Sg} (rc40 : Int32 → Sg → Option Sg) (hrc40 : ∀ (x2 : Int32) (st : Sg) (ls : Array Slot) (H : Heap) (locs : List Loc), rc40 x2 st = some st9 → Hp g nwM (ceM g) A s.heap st H locs → lv_has ls 8 [(0, .ref (g.2.1 0)), (1, .int x1), (2, .int x2)] → W p l e rm_X8_findOdds s m args below meth c H locs 0 0 (MQ below (QV g nwM (ceM g) A st9) args s 0 0 A) (F0 m 40 ls []))  : ∀ (k : Nat) (x3 : Int32) (st : Sg) (ls : Array Slot) (H : Heap) (locs : List Loc), X8_findOdds_47 rc40 x1 x2 k x3 st = some st9 → Hp g nwM (ceM g) A s.heap st H locs → lv_has ls 8 [(0, .ref (g.2.1 0)), (1, .int x1), (2, .int x2), (3, .int x3)] → W p l e rm_X8_findOdds s m args below meth c H locs 0 0 (MQ below (QV g nwM (ceM g) A st9) args s 0 0 A) (F0 m 47 ls []) := by
  intro k
  induction k with
  | zero =>
    intro x3 st ls H locs h
    exact none_s h
  | succ k ih =>
    intro x3 st ls H locs h Y hl
    exact w_X8_findOdds_47b X rc40 hrc40 (X8_findOdds_47 rc40 x1 x2 k) ih h Y  hl
set_option maxHeartbeats 4000000 in
set_option maxRecDepth 100000 in
theorem w_X8_findOdds_185 (X : Cx g p s m args meth c cX8_findOdds 8 RX8 none)  {st : Sg} {st9 : Sg}  (h : X8_findOdds_185 st = some st9) (Y : Hp g nwM (ceM g) A s.heap st H locs)  (hl : lv_has ls 8 []) : W p l e rm_X8_findOdds s m args below meth c H locs 0 0 (MQ below (QV g nwM (ceM g) A st9) args s 0 0 A) (F0 m 185 ls []) := by
  have hx := X.1
  have hb := X.2.1
  unfold X8_findOdds_185 at h
  exact k_vretW X Y h dX8_findOdds_185
set_option maxHeartbeats 4000000 in
set_option maxRecDepth 100000 in
theorem w_X8_findOdds_40b (X : Cx g p s m args meth c cX8_findOdds 8 RX8 none) {x1 : Int32} {x2 : Int32} {st : Sg} {st9 : Sg} (rc40 : Int32 → Sg → Option Sg) (hrc40 : ∀ (x2 : Int32) (st : Sg) (ls : Array Slot) (H : Heap) (locs : List Loc), rc40 x2 st = some st9 → Hp g nwM (ceM g) A s.heap st H locs → lv_has ls 8 [(0, .ref (g.2.1 0)), (1, .int x1), (2, .int x2)] → W p l e rm_X8_findOdds s m args below meth c H locs 0 0 (MQ below (QV g nwM (ceM g) A st9) args s 0 0 A) (F0 m 40 ls [])) (h : X8_findOdds_40b rc40 x1 x2 st = some st9) (Y : Hp g nwM (ceM g) A s.heap st H locs)  (hl : lv_has ls 8 [(0, .ref (g.2.1 0)), (1, .int x1), (2, .int x2)]) : W p l e rm_X8_findOdds s m args below meth c H locs 0 0 (MQ below (QV g nwM (ceM g) A st9) args s 0 0 A) (F0 m 40 ls []) := by
  have hx := X.1
  have hb := X.2.1
  unfold X8_findOdds_40b at h
  refine lv_iload_n hx hb dX8_findOdds_40 rfl (lv_at hl 2 rfl) ?_
  refine lv_iload_n hx hb dX8_findOdds_41 rfl (lv_at hl 1 rfl) ?_
  refine lv_icmp_ge (tgt := 185) hx hb dX8_findOdds_42 (by decide) (fun c1 => ?_) (fun c1 => ?_)
  · have h := ite_t h c1
    exact w_X8_findOdds_185 X  h Y  (lv_sub hl [] rfl)
  · have h := ite_f h c1
    refine lv_iconst (v := 0) hx hb dX8_findOdds_45 (by decide) ?_
    refine lv_istore_n (lv' := [(3, .int 0), (0, .ref (g.2.1 0)), (1, .int x1), (2, .int x2)]) hx hb dX8_findOdds_46 rfl hl (by decide) rfl (fun ls hl => ?_)
    exact w_X8_findOdds_47 X rc40 hrc40  FU 0 st _ _ _ h Y (lv_sub hl [1, 2, 3, 0] rfl)
theorem w_X8_findOdds_40 (X : Cx g p s m args meth c cX8_findOdds 8 RX8 none) {x1 : Int32}  {st9 : Sg}   : ∀ (k : Nat) (x2 : Int32) (st : Sg) (ls : Array Slot) (H : Heap) (locs : List Loc), X8_findOdds_40 x1 k x2 st = some st9 → Hp g nwM (ceM g) A s.heap st H locs → lv_has ls 8 [(0, .ref (g.2.1 0)), (1, .int x1), (2, .int x2)] → W p l e rm_X8_findOdds s m args below meth c H locs 0 0 (MQ below (QV g nwM (ceM g) A st9) args s 0 0 A) (F0 m 40 ls []) := by
  intro k
  induction k with
  | zero =>
    intro x2 st ls H locs h
    exact none_s h
  | succ k ih =>
    intro x2 st ls H locs h Y hl
    exact w_X8_findOdds_40b X  (X8_findOdds_40 x1 k) ih h Y  hl
set_option maxHeartbeats 4000000 in
set_option maxRecDepth 100000 in
theorem w_X8_findOdds_38 (X : Cx g p s m args meth c cX8_findOdds 8 RX8 none) {x1 : Int32} {st : Sg} {st9 : Sg}  (h : X8_findOdds_38 x1 st = some st9) (Y : Hp g nwM (ceM g) A s.heap st H locs)  (hl : lv_has ls 8 [(0, .ref (g.2.1 0)), (1, .int x1)]) : W p l e rm_X8_findOdds s m args below meth c H locs 0 0 (MQ below (QV g nwM (ceM g) A st9) args s 0 0 A) (F0 m 38 ls []) := by
  have hx := X.1
  have hb := X.2.1
  unfold X8_findOdds_38 at h
  refine lv_iconst (v := 0) hx hb dX8_findOdds_38 (by decide) ?_
  refine lv_istore_n (lv' := [(2, .int 0), (0, .ref (g.2.1 0)), (1, .int x1)]) hx hb dX8_findOdds_39 rfl hl (by decide) rfl (fun ls hl => ?_)
  exact w_X8_findOdds_40 X   FU 0 st _ _ _ h Y (lv_sub hl [1, 2, 0] rfl)
set_option maxHeartbeats 4000000 in
set_option maxRecDepth 100000 in
theorem w_X8_findOdds_7b (X : Cx g p s m args meth c cX8_findOdds 8 RX8 none) {x1 : Int32} {x2 : Int32} {st : Sg} {st9 : Sg} (rc7 : Int32 → Sg → Option Sg) (hrc7 : ∀ (x2 : Int32) (st : Sg) (ls : Array Slot) (H : Heap) (locs : List Loc), rc7 x2 st = some st9 → Hp g nwM (ceM g) A s.heap st H locs → lv_has ls 8 [(0, .ref (g.2.1 0)), (1, .int x1), (2, .int x2)] → W p l e rm_X8_findOdds s m args below meth c H locs 0 0 (MQ below (QV g nwM (ceM g) A st9) args s 0 0 A) (F0 m 7 ls [])) (h : X8_findOdds_7b rc7 x1 x2 st = some st9) (Y : Hp g nwM (ceM g) A s.heap st H locs)  (hl : lv_has ls 8 [(0, .ref (g.2.1 0)), (1, .int x1), (2, .int x2)]) : W p l e rm_X8_findOdds s m args below meth c H locs 0 0 (MQ below (QV g nwM (ceM g) A st9) args s 0 0 A) (F0 m 7 ls []) := by
  have hx := X.1
  have hb := X.2.1
  unfold X8_findOdds_7b at h
  refine lv_iload_n hx hb dX8_findOdds_7 rfl (lv_at hl 2 rfl) ?_
  refine lv_bipush (v := 12) hx hb dX8_findOdds_8 (by decide) ?_
  refine lv_icmp_gt (tgt := 38) hx hb dX8_findOdds_10 (by decide) (fun c1 => ?_) (fun c1 => ?_)
  · have h := ite_t h c1
    exact w_X8_findOdds_38 X  h Y  (lv_sub hl [0, 1] rfl)
  · have h := ite_f h c1
    refine lv_aload_n hx hb dX8_findOdds_13 rfl (lv_at hl 0 rfl) ?_
    refine k_get (v := .ref (g.2.1 12)) X Y fl_8_44 0 (Nat.le_of_ble_eq_true rfl) rfl rfl dX8_findOdds_14 ?_
    refine lv_iload_n hx hb dX8_findOdds_17 rfl (lv_at hl 2 rfl) ?_
    refine lv_iload_n hx hb dX8_findOdds_18 rfl (lv_at hl 2 rfl) ?_
    refine lv_aload_n hx hb dX8_findOdds_19 rfl (lv_at hl 0 rfl) ?_
    refine k_get (v := .int (st.1 0 0)) X Y fl_8_75 0 (Nat.le_of_ble_eq_true rfl) rfl rfl dX8_findOdds_20 ?_
    refine lv_icmp_ne (tgt := 30) hx hb dX8_findOdds_23 (by decide) (fun c2 => ?_) (fun c2 => ?_)
    · have h := ite_f h c2
      refine lv_lconst (v := 0) hx hb dX8_findOdds_30 (by decide) ?_
      exact w_X8_findOdds_31 X rc7 hrc7 h Y  (lv_sub hl [0, 1, 2] rfl)
    · have h := ite_t h c2
      refine lv_lconst (v := 1) hx hb dX8_findOdds_26 (by decide) ?_
      refine lv_goto (tgt := 31) hx hb dX8_findOdds_27 (by decide) ?_
      exact w_X8_findOdds_31 X rc7 hrc7 h Y  (lv_sub hl [0, 1, 2] rfl)
theorem w_X8_findOdds_7 (X : Cx g p s m args meth c cX8_findOdds 8 RX8 none) {x1 : Int32}  {st9 : Sg}   : ∀ (k : Nat) (x2 : Int32) (st : Sg) (ls : Array Slot) (H : Heap) (locs : List Loc), X8_findOdds_7 x1 k x2 st = some st9 → Hp g nwM (ceM g) A s.heap st H locs → lv_has ls 8 [(0, .ref (g.2.1 0)), (1, .int x1), (2, .int x2)] → W p l e rm_X8_findOdds s m args below meth c H locs 0 0 (MQ below (QV g nwM (ceM g) A st9) args s 0 0 A) (F0 m 7 ls []) := by
  intro k
  induction k with
  | zero =>
    intro x2 st ls H locs h
    exact none_s h
  | succ k ih =>
    intro x2 st ls H locs h Y hl
    exact w_X8_findOdds_7b X  (X8_findOdds_7 x1 k) ih h Y  hl
set_option maxHeartbeats 4000000 in
set_option maxRecDepth 100000 in
theorem w_X8_findOdds (X : Cx g p s m args meth c cX8_findOdds 8 RX8 none) {x1 : Int32} {st : Sg} {st9 : Sg}  (h : X8_findOdds x1 st = some st9) (Y : Hp g nwM (ceM g) A s.heap st H locs)  (hl : lv_has ls 8 [(0, .ref (g.2.1 0)), (1, .int x1)]) : W p l e rm_X8_findOdds s m args below meth c H locs 0 0 (MQ below (QV g nwM (ceM g) A st9) args s 0 0 A) (F0 m 0 ls []) := by
  have hx := X.1
  have hb := X.2.1
  unfold X8_findOdds at h
  refine lv_aload_n hx hb dX8_findOdds_0 rfl (lv_at hl 0 rfl) ?_
  refine lv_lconst (v := 1) hx hb dX8_findOdds_1 (by decide) ?_
  refine k_putJ X Y fl_8_120 0 (Nat.le_of_ble_eq_true rfl) rfl (Nat.le_of_ble_eq_true rfl) rfl dX8_findOdds_2 (fun H locs Y => ?_)
  obtain ⟨st1, est1, h⟩ := nm_s h
  have Y : Hp g nwM (ceM g) A s.heap st1 H locs := by rw [est1]; exact Y
  refine lv_iconst (v := 0) hx hb dX8_findOdds_5 (by decide) ?_
  refine lv_istore_n (lv' := [(2, .int 0), (0, .ref (g.2.1 0)), (1, .int x1)]) hx hb dX8_findOdds_6 rfl hl (by decide) rfl (fun ls hl => ?_)
  exact w_X8_findOdds_7 X   FU 0 st1 _ _ _ h Y (lv_sub hl [1, 2, 0] rfl)
theorem c_X8_findOdds (l : Launch) {g : Gx} {x1 : Int32} {st : Sg} {st9 : Sg} (h : X8_findOdds x1 st = some st9) : MetV l yX8_findOdds cX8_findOdds 8 none rm_X8_findOdds g nwM (ceM g) [.ref (g.2.1 0), .int x1] st st9 :=
  met_of (Qc := fun A => QV g nwM (ceM g) A st9) (by decide) (Nat.le_of_ble_eq_true rfl) (fun p e s m below meth c A ls X Y hl => w_X8_findOdds X h Y hl)
end LIFT
