/-! lifted by program: SaturdaySaleModel.askedAt, SaturdaySaleModel.in, SaturdaySaleModel.isReady, SaturdaySaleModel.asks, SaturdaySaleModel.beginEnd, SaturdaySaleModel.keepRow, SaturdaySaleModel.worthOf, SaturdaySaleModel.buyer, SaturdaySaleModel.dayAt, SaturdaySaleModel.findBest, SaturdaySaleModel.beginPrice, SaturdaySaleModel.best -/
section LIFT
variable {p : Program} {l : Launch} {e : Env} {s : State} {m : MethodId} {args : Array Value} {below : List Frame} {meth : Method} {c : Code} {g : Gx} {A : Nat → Prop} {H : Heap} {locs : List Loc} {ls : Array Slot}
def X8_askedAt_130  (rc13 : Int32 → Int32 → Option Int32) (k0 : Int32) (x1 : Int32) (x2 : Int32) (x4 : Int32) (st : Sg) : Option Int32 :=
  nm (x4 + (-1)) fun v1 =>
  rc13 k0 v1
def X8_askedAt_112  (rc13 : Int32 → Int32 → Option Int32) (k0 : Int32) (x1 : Int32) (x2 : Int32) (x3 : Int32) (x4 : Int32) (st : Sg) : Option Int32 :=
  if k0 = (0 : Int32) then
    X8_askedAt_130 rc13 x3 x1 x2 x4 st
  else
    cix x4 8 <|
    X8_askedAt_130 rc13 (st.1 18 x4.toNatClampNeg) x1 x2 x4 st
def X8_askedAt_35  (rc13 : Int32 → Int32 → Option Int32) (k0 : Int32) (x1 : Int32) (x2 : Int32) (x3 : Int32) (x4 : Int32) (st : Sg) : Option Int32 :=
  cix x4 8 <|
  nm (st.1 17 x4.toNatClampNeg) fun v2 =>
  cix x4 8 <|
  if (st.1 16 x4.toNatClampNeg) = (60 : Int32) then
    if v2 ≤ k0 then
      X8_askedAt_112 rc13 0 x1 x2 x3 x4 st
    else
      X8_askedAt_112 rc13 1 x1 x2 x3 x4 st
  else
    cix x4 8 <|
    if (st.1 16 x4.toNatClampNeg) = (62 : Int32) then
      if k0 ≤ v2 then
        X8_askedAt_112 rc13 0 x1 x2 x3 x4 st
      else
        X8_askedAt_112 rc13 1 x1 x2 x3 x4 st
    else
      if k0 = v2 then
        X8_askedAt_112 rc13 1 x1 x2 x3 x4 st
      else
        X8_askedAt_112 rc13 0 x1 x2 x3 x4 st
def X8_askedAt_155   (k0 : Int32) (st : Sg) : Option Int32 :=
  some k0
def X8_askedAt_137   (x3 : Int32) (st : Sg) : Option Int32 :=
  if (st.1 0 4) ≤ x3 then
    X8_askedAt_155 ((st.1 0 4) - 1) st
  else
    X8_askedAt_155 x3 st
def X8_askedAt_13b  (rc13 : Int32 → Int32 → Option Int32) (x1 : Int32) (x2 : Int32) (x3 : Int32) (x4 : Int32) (st : Sg) : Option Int32 :=
  if x4 < (0 : Int32) then
    X8_askedAt_137 x3 st
  else
    cix x4 8 <|
    if (st.1 15 x4.toNatClampNeg) = (108 : Int32) then
      X8_askedAt_35 rc13 x2 x1 x2 x3 x4 st
    else
      X8_askedAt_35 rc13 x1 x1 x2 x3 x4 st
def X8_askedAt_13   (x1 : Int32) (x2 : Int32) (st : Sg) : Nat → Int32 → Int32 → Option Int32
  | 0, _, _ => none
  | k + 1, x3, x4 => X8_askedAt_13b   (X8_askedAt_13 x1 x2 st k) x1 x2 x3 x4 st
def X8_askedAt   (x1 : Int32) (x2 : Int32) (st : Sg) : Option Int32 :=
  nm (st.1 0 26) fun v1 =>
  nm ((st.1 0 25) - 1) fun v2 =>
  X8_askedAt_13 x1 x2 st FU v1 v2
abbrev rm_X8_askedAt : Room := { frames := 0, cells := 0, slots := 0, locals := 0 }
set_option maxHeartbeats 4000000 in
set_option maxRecDepth 100000 in
theorem w_X8_askedAt_130 (X : Cx g p s m args meth c cX8_askedAt 8 RX8 (some .int)) {k0 : Int32} {x1 : Int32} {x2 : Int32} {x4 : Int32} {st : Sg} {r9 : Int32} (rc13 : Int32 → Int32 → Option Int32) (hrc13 : ∀ (x3 : Int32) (x4 : Int32) (ls : Array Slot) (H : Heap) (locs : List Loc), rc13 x3 x4 = some r9 → Hp g nwM (ceM g) A s.heap st H locs → lv_has ls 8 [(0, .ref (g.2.1 0)), (1, .int x1), (2, .int x2), (3, .int x3), (4, .int x4)] → W p l e rm_X8_askedAt s m args below meth c H locs 0 0 (MQ below (QI g nwM (ceM g) A r9 st) args s 0 0 A) (F0 m 13 ls [])) (h : X8_askedAt_130 rc13 k0 x1 x2 x4 st = some r9) (Y : Hp g nwM (ceM g) A s.heap st H locs)  (hl : lv_has ls 8 [(0, .ref (g.2.1 0)), (1, .int x1), (2, .int x2), (4, .int x4)]) : W p l e rm_X8_askedAt s m args below meth c H locs 0 0 (MQ below (QI g nwM (ceM g) A r9 st) args s 0 0 A) (F0 m 130 ls [.int k0]) := by
  have hx := X.1
  have hb := X.2.1
  unfold X8_askedAt_130 at h
  refine lv_istore_n (lv' := [(3, .int k0), (0, .ref (g.2.1 0)), (1, .int x1), (2, .int x2), (4, .int x4)]) hx hb dX8_askedAt_130 rfl hl (by decide) rfl (fun ls hl => ?_)
  obtain ⟨v1, ev1, h⟩ := nm_s h
  refine lv_iinc (v := v1) (lv' := [(4, .int v1), (3, .int k0), (0, .ref (g.2.1 0)), (1, .int x1), (2, .int x2)]) hx hb dX8_askedAt_131 hl (k := 4) rfl (by rw [ev1]; rfl) (by decide) rfl (fun ls hl => ?_)
  refine lv_goto (tgt := 13) hx hb dX8_askedAt_134 (by decide) ?_
  exact hrc13 k0 v1 _ _ _ h Y (lv_sub hl [2, 3, 4, 1, 0] rfl)
set_option maxHeartbeats 4000000 in
set_option maxRecDepth 100000 in
theorem w_X8_askedAt_112 (X : Cx g p s m args meth c cX8_askedAt 8 RX8 (some .int)) {k0 : Int32} {x1 : Int32} {x2 : Int32} {x3 : Int32} {x4 : Int32} {st : Sg} {r9 : Int32} (rc13 : Int32 → Int32 → Option Int32) (hrc13 : ∀ (x3 : Int32) (x4 : Int32) (ls : Array Slot) (H : Heap) (locs : List Loc), rc13 x3 x4 = some r9 → Hp g nwM (ceM g) A s.heap st H locs → lv_has ls 8 [(0, .ref (g.2.1 0)), (1, .int x1), (2, .int x2), (3, .int x3), (4, .int x4)] → W p l e rm_X8_askedAt s m args below meth c H locs 0 0 (MQ below (QI g nwM (ceM g) A r9 st) args s 0 0 A) (F0 m 13 ls [])) (h : X8_askedAt_112 rc13 k0 x1 x2 x3 x4 st = some r9) (Y : Hp g nwM (ceM g) A s.heap st H locs)  (hl : lv_has ls 8 [(0, .ref (g.2.1 0)), (1, .int x1), (2, .int x2), (3, .int x3), (4, .int x4)]) : W p l e rm_X8_askedAt s m args below meth c H locs 0 0 (MQ below (QI g nwM (ceM g) A r9 st) args s 0 0 A) (F0 m 112 ls [.int k0]) := by
  have hx := X.1
  have hb := X.2.1
  unfold X8_askedAt_112 at h
  refine lv_istore (lv' := [(7, .int k0), (0, .ref (g.2.1 0)), (1, .int x1), (2, .int x2), (3, .int x3), (4, .int x4)]) hx hb dX8_askedAt_112 hl (by decide) rfl (fun ls hl => ?_)
  refine lv_iload hx hb dX8_askedAt_114 (lv_at hl 0 rfl) ?_
  refine lv_if_eq (tgt := 129) hx hb dX8_askedAt_116 (by decide) (fun c1 => ?_) (fun c1 => ?_)
  · have h := ite_t h c1
    refine lv_iload_n hx hb dX8_askedAt_129 rfl (lv_at hl 4 rfl) ?_
    exact w_X8_askedAt_130 X rc13 hrc13 h Y  (lv_sub hl [1, 2, 3, 5] rfl)
  · have h := ite_f h c1
    refine lv_aload_n hx hb dX8_askedAt_119 rfl (lv_at hl 1 rfl) ?_
    refine k_get (v := .ref (g.2.1 18)) X Y fl_8_62 0 (Nat.le_of_ble_eq_true rfl) rfl rfl dX8_askedAt_120 ?_
    refine lv_iload hx hb dX8_askedAt_123 (lv_at hl 5 rfl) ?_
    obtain ⟨i2, h⟩ := cix_s h
    refine k_iald X Y 18 (Nat.le_of_ble_eq_true rfl) (fun _ _ => rfl) i2 dX8_askedAt_125 ?_
    refine lv_goto (tgt := 130) hx hb dX8_askedAt_126 (by decide) ?_
    exact w_X8_askedAt_130 X rc13 hrc13 h Y  (lv_sub hl [1, 2, 3, 5] rfl)
set_option maxHeartbeats 4000000 in
set_option maxRecDepth 100000 in
theorem w_X8_askedAt_35 (X : Cx g p s m args meth c cX8_askedAt 8 RX8 (some .int)) {k0 : Int32} {x1 : Int32} {x2 : Int32} {x3 : Int32} {x4 : Int32} {st : Sg} {r9 : Int32} (rc13 : Int32 → Int32 → Option Int32) (hrc13 : ∀ (x3 : Int32) (x4 : Int32) (ls : Array Slot) (H : Heap) (locs : List Loc), rc13 x3 x4 = some r9 → Hp g nwM (ceM g) A s.heap st H locs → lv_has ls 8 [(0, .ref (g.2.1 0)), (1, .int x1), (2, .int x2), (3, .int x3), (4, .int x4)] → W p l e rm_X8_askedAt s m args below meth c H locs 0 0 (MQ below (QI g nwM (ceM g) A r9 st) args s 0 0 A) (F0 m 13 ls [])) (h : X8_askedAt_35 rc13 k0 x1 x2 x3 x4 st = some r9) (Y : Hp g nwM (ceM g) A s.heap st H locs)  (hl : lv_has ls 8 [(0, .ref (g.2.1 0)), (1, .int x1), (2, .int x2), (3, .int x3), (4, .int x4)]) : W p l e rm_X8_askedAt s m args below meth c H locs 0 0 (MQ below (QI g nwM (ceM g) A r9 st) args s 0 0 A) (F0 m 35 ls [.int k0]) := by
  have hx := X.1
  have hb := X.2.1
  unfold X8_askedAt_35 at h
  refine lv_istore (lv' := [(5, .int k0), (0, .ref (g.2.1 0)), (1, .int x1), (2, .int x2), (3, .int x3), (4, .int x4)]) hx hb dX8_askedAt_35 hl (by decide) rfl (fun ls hl => ?_)
  refine lv_aload_n hx hb dX8_askedAt_37 rfl (lv_at hl 1 rfl) ?_
  refine k_get (v := .ref (g.2.1 17)) X Y fl_8_59 0 (Nat.le_of_ble_eq_true rfl) rfl rfl dX8_askedAt_38 ?_
  refine lv_iload hx hb dX8_askedAt_41 (lv_at hl 5 rfl) ?_
  obtain ⟨i1, h⟩ := cix_s h
  refine k_iald X Y 17 (Nat.le_of_ble_eq_true rfl) (fun _ _ => rfl) i1 dX8_askedAt_43 ?_
  obtain ⟨v2, ev2, h⟩ := nm_s h
  refine k_nmI ev2 ?_
  refine lv_istore (lv' := [(6, .int v2), (5, .int k0), (0, .ref (g.2.1 0)), (1, .int x1), (2, .int x2), (3, .int x3), (4, .int x4)]) hx hb dX8_askedAt_44 hl (by decide) rfl (fun ls hl => ?_)
  refine lv_aload_n hx hb dX8_askedAt_46 rfl (lv_at hl 2 rfl) ?_
  refine k_get (v := .ref (g.2.1 16)) X Y fl_8_56 0 (Nat.le_of_ble_eq_true rfl) rfl rfl dX8_askedAt_47 ?_
  refine lv_iload hx hb dX8_askedAt_50 (lv_at hl 6 rfl) ?_
  obtain ⟨i3, h⟩ := cix_s h
  refine k_iald X Y 16 (Nat.le_of_ble_eq_true rfl) (fun _ _ => rfl) i3 dX8_askedAt_52 ?_
  refine lv_bipush (v := 60) hx hb dX8_askedAt_53 (by decide) ?_
  refine lv_icmp_ne (tgt := 73) hx hb dX8_askedAt_55 (by decide) (fun c4 => ?_) (fun c4 => ?_)
  · have h := ite_f h c4
    refine lv_aload_n hx hb dX8_askedAt_73 rfl (lv_at hl 2 rfl) ?_
    refine k_get (v := .ref (g.2.1 16)) X Y fl_8_56 0 (Nat.le_of_ble_eq_true rfl) rfl rfl dX8_askedAt_74 ?_
    refine lv_iload hx hb dX8_askedAt_77 (lv_at hl 6 rfl) ?_
    obtain ⟨i5, h⟩ := cix_s h
    refine k_iald X Y 16 (Nat.le_of_ble_eq_true rfl) (fun _ _ => rfl) i5 dX8_askedAt_79 ?_
    refine lv_bipush (v := 62) hx hb dX8_askedAt_80 (by decide) ?_
    refine lv_icmp_ne (tgt := 100) hx hb dX8_askedAt_82 (by decide) (fun c6 => ?_) (fun c6 => ?_)
    · have h := ite_f h c6
      refine lv_iload hx hb dX8_askedAt_100 (lv_at hl 1 rfl) ?_
      refine lv_iload hx hb dX8_askedAt_102 (lv_at hl 0 rfl) ?_
      refine lv_icmp_ne (tgt := 111) hx hb dX8_askedAt_104 (by decide) (fun c7 => ?_) (fun c7 => ?_)
      · have h := ite_f h c7
        refine lv_iconst (v := 0) hx hb dX8_askedAt_111 (by decide) ?_
        exact w_X8_askedAt_112 X rc13 hrc13 h Y  (lv_sub hl [2, 3, 4, 5, 6] rfl)
      · have h := ite_t h c7
        refine lv_iconst (v := 1) hx hb dX8_askedAt_107 (by decide) ?_
        refine lv_goto (tgt := 112) hx hb dX8_askedAt_108 (by decide) ?_
        exact w_X8_askedAt_112 X rc13 hrc13 h Y  (lv_sub hl [2, 3, 4, 5, 6] rfl)
    · have h := ite_t h c6
      refine lv_iload hx hb dX8_askedAt_85 (lv_at hl 1 rfl) ?_
      refine lv_iload hx hb dX8_askedAt_87 (lv_at hl 0 rfl) ?_
      refine lv_icmp_le (tgt := 96) hx hb dX8_askedAt_89 (by decide) (fun c8 => ?_) (fun c8 => ?_)
      · have h := ite_t h c8
        refine lv_iconst (v := 0) hx hb dX8_askedAt_96 (by decide) ?_
        refine lv_goto (tgt := 112) hx hb dX8_askedAt_97 (by decide) ?_
        exact w_X8_askedAt_112 X rc13 hrc13 h Y  (lv_sub hl [2, 3, 4, 5, 6] rfl)
      · have h := ite_f h c8
        refine lv_iconst (v := 1) hx hb dX8_askedAt_92 (by decide) ?_
        refine lv_goto (tgt := 112) hx hb dX8_askedAt_93 (by decide) ?_
        exact w_X8_askedAt_112 X rc13 hrc13 h Y  (lv_sub hl [2, 3, 4, 5, 6] rfl)
  · have h := ite_t h c4
    refine lv_iload hx hb dX8_askedAt_58 (lv_at hl 1 rfl) ?_
    refine lv_iload hx hb dX8_askedAt_60 (lv_at hl 0 rfl) ?_
    refine lv_icmp_ge (tgt := 69) hx hb dX8_askedAt_62 (by decide) (fun c9 => ?_) (fun c9 => ?_)
    · have h := ite_t h c9
      refine lv_iconst (v := 0) hx hb dX8_askedAt_69 (by decide) ?_
      refine lv_goto (tgt := 112) hx hb dX8_askedAt_70 (by decide) ?_
      exact w_X8_askedAt_112 X rc13 hrc13 h Y  (lv_sub hl [2, 3, 4, 5, 6] rfl)
    · have h := ite_f h c9
      refine lv_iconst (v := 1) hx hb dX8_askedAt_65 (by decide) ?_
      refine lv_goto (tgt := 112) hx hb dX8_askedAt_66 (by decide) ?_
      exact w_X8_askedAt_112 X rc13 hrc13 h Y  (lv_sub hl [2, 3, 4, 5, 6] rfl)
set_option maxHeartbeats 4000000 in
set_option maxRecDepth 100000 in
theorem w_X8_askedAt_155 (X : Cx g p s m args meth c cX8_askedAt 8 RX8 (some .int)) {k0 : Int32} {st : Sg} {r9 : Int32}  (h : X8_askedAt_155 k0 st = some r9) (Y : Hp g nwM (ceM g) A s.heap st H locs)  (hl : lv_has ls 8 []) : W p l e rm_X8_askedAt s m args below meth c H locs 0 0 (MQ below (QI g nwM (ceM g) A r9 st) args s 0 0 A) (F0 m 155 ls [.int k0]) := by
  have hx := X.1
  have hb := X.2.1
  unfold X8_askedAt_155 at h
  exact k_iretR X Y h dX8_askedAt_155
set_option maxHeartbeats 4000000 in
set_option maxRecDepth 100000 in
theorem w_X8_askedAt_137 (X : Cx g p s m args meth c cX8_askedAt 8 RX8 (some .int)) {x3 : Int32} {st : Sg} {r9 : Int32}  (h : X8_askedAt_137 x3 st = some r9) (Y : Hp g nwM (ceM g) A s.heap st H locs)  (hl : lv_has ls 8 [(0, .ref (g.2.1 0)), (3, .int x3)]) : W p l e rm_X8_askedAt s m args below meth c H locs 0 0 (MQ below (QI g nwM (ceM g) A r9 st) args s 0 0 A) (F0 m 137 ls []) := by
  have hx := X.1
  have hb := X.2.1
  unfold X8_askedAt_137 at h
  refine lv_iload_n hx hb dX8_askedAt_137 rfl (lv_at hl 1 rfl) ?_
  refine lv_aload_n hx hb dX8_askedAt_138 rfl (lv_at hl 0 rfl) ?_
  refine k_get (v := .int (st.1 0 4)) X Y fl_8_96 0 (Nat.le_of_ble_eq_true rfl) rfl rfl dX8_askedAt_139 ?_
  refine lv_icmp_ge (tgt := 149) hx hb dX8_askedAt_142 (by decide) (fun c1 => ?_) (fun c1 => ?_)
  · have h := ite_t h c1
    refine lv_aload_n hx hb dX8_askedAt_149 rfl (lv_at hl 0 rfl) ?_
    refine k_get (v := .int (st.1 0 4)) X Y fl_8_96 0 (Nat.le_of_ble_eq_true rfl) rfl rfl dX8_askedAt_150 ?_
    refine lv_iconst (v := 1) hx hb dX8_askedAt_153 (by decide) ?_
    refine lv_isub hx hb dX8_askedAt_154 ?_
    exact w_X8_askedAt_155 X  h Y  (lv_sub hl [] rfl)
  · have h := ite_f h c1
    refine lv_iload_n hx hb dX8_askedAt_145 rfl (lv_at hl 1 rfl) ?_
    refine lv_goto (tgt := 155) hx hb dX8_askedAt_146 (by decide) ?_
    exact w_X8_askedAt_155 X  h Y  (lv_sub hl [] rfl)
set_option maxHeartbeats 4000000 in
set_option maxRecDepth 100000 in
theorem w_X8_askedAt_13b (X : Cx g p s m args meth c cX8_askedAt 8 RX8 (some .int)) {x1 : Int32} {x2 : Int32} {x3 : Int32} {x4 : Int32} {st : Sg} {r9 : Int32} (rc13 : Int32 → Int32 → Option Int32) (hrc13 : ∀ (x3 : Int32) (x4 : Int32) (ls : Array Slot) (H : Heap) (locs : List Loc), rc13 x3 x4 = some r9 → Hp g nwM (ceM g) A s.heap st H locs → lv_has ls 8 [(0, .ref (g.2.1 0)), (1, .int x1), (2, .int x2), (3, .int x3), (4, .int x4)] → W p l e rm_X8_askedAt s m args below meth c H locs 0 0 (MQ below (QI g nwM (ceM g) A r9 st) args s 0 0 A) (F0 m 13 ls [])) (h : X8_askedAt_13b rc13 x1 x2 x3 x4 st = some r9) (Y : Hp g nwM (ceM g) A s.heap st H locs)  (hl : lv_has ls 8 [(0, .ref (g.2.1 0)), (1, .int x1), (2, .int x2), (3, .int x3), (4, .int x4)]) : W p l e rm_X8_askedAt s m args below meth c H locs 0 0 (MQ below (QI g nwM (ceM g) A r9 st) args s 0 0 A) (F0 m 13 ls []) := by
  have hx := X.1
  have hb := X.2.1
  unfold X8_askedAt_13b at h
  refine lv_iload hx hb dX8_askedAt_13 (lv_at hl 4 rfl) ?_
  refine lv_if_lt (tgt := 137) hx hb dX8_askedAt_15 (by decide) (fun c1 => ?_) (fun c1 => ?_)
  · have h := ite_t h c1
    exact w_X8_askedAt_137 X  h Y  (lv_sub hl [0, 3] rfl)
  · have h := ite_f h c1
    refine lv_aload_n hx hb dX8_askedAt_18 rfl (lv_at hl 0 rfl) ?_
    refine k_get (v := .ref (g.2.1 15)) X Y fl_8_53 0 (Nat.le_of_ble_eq_true rfl) rfl rfl dX8_askedAt_19 ?_
    refine lv_iload hx hb dX8_askedAt_22 (lv_at hl 4 rfl) ?_
    obtain ⟨i2, h⟩ := cix_s h
    refine k_iald X Y 15 (Nat.le_of_ble_eq_true rfl) (fun _ _ => rfl) i2 dX8_askedAt_24 ?_
    refine lv_bipush (v := 108) hx hb dX8_askedAt_25 (by decide) ?_
    refine lv_icmp_ne (tgt := 34) hx hb dX8_askedAt_27 (by decide) (fun c3 => ?_) (fun c3 => ?_)
    · have h := ite_f h c3
      refine lv_iload_n hx hb dX8_askedAt_34 rfl (lv_at hl 1 rfl) ?_
      exact w_X8_askedAt_35 X rc13 hrc13 h Y  (lv_sub hl [0, 1, 2, 3, 4] rfl)
    · have h := ite_t h c3
      refine lv_iload_n hx hb dX8_askedAt_30 rfl (lv_at hl 2 rfl) ?_
      refine lv_goto (tgt := 35) hx hb dX8_askedAt_31 (by decide) ?_
      exact w_X8_askedAt_35 X rc13 hrc13 h Y  (lv_sub hl [0, 1, 2, 3, 4] rfl)
theorem w_X8_askedAt_13 (X : Cx g p s m args meth c cX8_askedAt 8 RX8 (some .int)) {x1 : Int32} {x2 : Int32} {st : Sg} {r9 : Int32}   : ∀ (k : Nat) (x3 : Int32) (x4 : Int32) (ls : Array Slot) (H : Heap) (locs : List Loc), X8_askedAt_13 x1 x2 st k x3 x4 = some r9 → Hp g nwM (ceM g) A s.heap st H locs → lv_has ls 8 [(0, .ref (g.2.1 0)), (1, .int x1), (2, .int x2), (3, .int x3), (4, .int x4)] → W p l e rm_X8_askedAt s m args below meth c H locs 0 0 (MQ below (QI g nwM (ceM g) A r9 st) args s 0 0 A) (F0 m 13 ls []) := by
  intro k
  induction k with
  | zero =>
    intro x3 x4 ls H locs h
    exact none_s h
  | succ k ih =>
    intro x3 x4 ls H locs h Y hl
    exact w_X8_askedAt_13b X  (X8_askedAt_13 x1 x2 st k) ih h Y  hl
set_option maxHeartbeats 4000000 in
set_option maxRecDepth 100000 in
theorem w_X8_askedAt (X : Cx g p s m args meth c cX8_askedAt 8 RX8 (some .int)) {x1 : Int32} {x2 : Int32} {st : Sg} {r9 : Int32}  (h : X8_askedAt x1 x2 st = some r9) (Y : Hp g nwM (ceM g) A s.heap st H locs)  (hl : lv_has ls 8 [(0, .ref (g.2.1 0)), (1, .int x1), (2, .int x2)]) : W p l e rm_X8_askedAt s m args below meth c H locs 0 0 (MQ below (QI g nwM (ceM g) A r9 st) args s 0 0 A) (F0 m 0 ls []) := by
  have hx := X.1
  have hb := X.2.1
  unfold X8_askedAt at h
  refine lv_aload_n hx hb dX8_askedAt_0 rfl (lv_at hl 0 rfl) ?_
  refine k_get (v := .int (st.1 0 26)) X Y fl_8_65 0 (Nat.le_of_ble_eq_true rfl) rfl rfl dX8_askedAt_1 ?_
  obtain ⟨v1, ev1, h⟩ := nm_s h
  refine k_nmI ev1 ?_
  refine lv_istore_n (lv' := [(3, .int v1), (0, .ref (g.2.1 0)), (1, .int x1), (2, .int x2)]) hx hb dX8_askedAt_4 rfl hl (by decide) rfl (fun ls hl => ?_)
  refine lv_aload_n hx hb dX8_askedAt_5 rfl (lv_at hl 1 rfl) ?_
  refine k_get (v := .int (st.1 0 25)) X Y fl_8_204 0 (Nat.le_of_ble_eq_true rfl) rfl rfl dX8_askedAt_6 ?_
  refine lv_iconst (v := 1) hx hb dX8_askedAt_9 (by decide) ?_
  refine lv_isub hx hb dX8_askedAt_10 ?_
  obtain ⟨v2, ev2, h⟩ := nm_s h
  refine k_nmI ev2 ?_
  refine lv_istore (lv' := [(4, .int v2), (3, .int v1), (0, .ref (g.2.1 0)), (1, .int x1), (2, .int x2)]) hx hb dX8_askedAt_11 hl (by decide) rfl (fun ls hl => ?_)
  exact w_X8_askedAt_13 X   FU v1 v2 _ _ _ h Y (lv_sub hl [2, 3, 4, 1, 0] rfl)
theorem c_X8_askedAt (l : Launch) {g : Gx} {x1 : Int32} {x2 : Int32} {st : Sg} {r9 : Int32} (h : X8_askedAt x1 x2 st = some r9) : MetI l yX8_askedAt cX8_askedAt 8 (some .int) rm_X8_askedAt g nwM (ceM g) [.ref (g.2.1 0), .int x1, .int x2] st r9 st :=
  met_of (Qc := fun A => QI g nwM (ceM g) A r9 st) (by decide) (Nat.le_of_ble_eq_true rfl) (fun p e s m below meth c A ls X Y hl => w_X8_askedAt X h Y hl)
def X8_in_18   (k0 : Int32) : Option Int32 :=
  cb01 k0 <| some k0
def X8_in_17    : Option Int32 :=
  X8_in_18 0
def X8_in   (x0 : Int64) (x2 : Int64) (x4 : Int64) : Option Int32 :=
  if (lg_cmp x0 x2) < (0 : Int32) then
    X8_in_17
  else
    if (0 : Int32) < (lg_cmp x0 x4) then
      X8_in_17
    else
      X8_in_18 1
abbrev rm_X8_in : Room := { frames := 0, cells := 0, slots := 0, locals := 0 }
set_option maxHeartbeats 4000000 in
set_option maxRecDepth 100000 in
theorem w_X8_in_18 (X : Cx g p s m args meth c cX8_in 6 RX8 (some .boolean)) {k0 : Int32} {st : Sg} {r9 : Int32}  (h : X8_in_18 k0 = some r9) (Y : Hp g nwM (ceM g) A s.heap st H locs)  (hl : lv_has ls 6 []) : W p l e rm_X8_in s m args below meth c H locs 0 0 (MQ below (QI g nwM (ceM g) A r9 st) args s 0 0 A) (F0 m 18 ls [.int k0]) := by
  have hx := X.1
  have hb := X.2.1
  unfold X8_in_18 at h
  obtain ⟨b1, h⟩ := cb01_s h
  exact k_zretR X Y b1 h dX8_in_18
set_option maxHeartbeats 4000000 in
set_option maxRecDepth 100000 in
theorem w_X8_in_17 (X : Cx g p s m args meth c cX8_in 6 RX8 (some .boolean))  {st : Sg} {r9 : Int32}  (h : X8_in_17 = some r9) (Y : Hp g nwM (ceM g) A s.heap st H locs)  (hl : lv_has ls 6 []) : W p l e rm_X8_in s m args below meth c H locs 0 0 (MQ below (QI g nwM (ceM g) A r9 st) args s 0 0 A) (F0 m 17 ls []) := by
  have hx := X.1
  have hb := X.2.1
  unfold X8_in_17 at h
  refine lv_iconst (v := 0) hx hb dX8_in_17 (by decide) ?_
  exact w_X8_in_18 X  h Y  (lv_sub hl [] rfl)
set_option maxHeartbeats 4000000 in
set_option maxRecDepth 100000 in
theorem w_X8_in (X : Cx g p s m args meth c cX8_in 6 RX8 (some .boolean)) {x0 : Int64} {x2 : Int64} {x4 : Int64} {st : Sg} {r9 : Int32}  (h : X8_in x0 x2 x4 = some r9) (Y : Hp g nwM (ceM g) A s.heap st H locs)  (hl : lv_has ls 6 [(0, .long x0), (2, .long x2), (4, .long x4)]) : W p l e rm_X8_in s m args below meth c H locs 0 0 (MQ below (QI g nwM (ceM g) A r9 st) args s 0 0 A) (F0 m 0 ls []) := by
  have hx := X.1
  have hb := X.2.1
  unfold X8_in at h
  refine lv_lload_n hx hb dX8_in_0 rfl (lv_at hl 0 rfl) ?_
  refine lv_lload_n hx hb dX8_in_1 rfl (lv_at hl 1 rfl) ?_
  refine W.lcmp hx hb dX8_in_2 ?_
  refine lv_if_lt (tgt := 17) hx hb dX8_in_3 (by decide) (fun c1 => ?_) (fun c1 => ?_)
  · have h := ite_t h c1
    exact w_X8_in_17 X  h Y  (lv_sub hl [] rfl)
  · have h := ite_f h c1
    refine lv_lload_n hx hb dX8_in_6 rfl (lv_at hl 0 rfl) ?_
    refine lv_lload hx hb dX8_in_7 (lv_at hl 2 rfl) ?_
    refine W.lcmp hx hb dX8_in_9 ?_
    refine lv_if_gt (tgt := 17) hx hb dX8_in_10 (by decide) (fun c2 => ?_) (fun c2 => ?_)
    · have h := ite_t h c2
      exact w_X8_in_17 X  h Y  (lv_sub hl [] rfl)
    · have h := ite_f h c2
      refine lv_iconst (v := 1) hx hb dX8_in_13 (by decide) ?_
      refine lv_goto (tgt := 18) hx hb dX8_in_14 (by decide) ?_
      exact w_X8_in_18 X  h Y  (lv_sub hl [] rfl)
theorem c_X8_in (l : Launch) {g : Gx} {x0 : Int64} {x2 : Int64} {x4 : Int64} {st : Sg} {r9 : Int32} (h : X8_in x0 x2 x4 = some r9) : MetI l yX8_in cX8_in 6 (some .boolean) rm_X8_in g nwM (ceM g) [.long x0, .long x2, .long x4] st r9 st :=
  met_of (Qc := fun A => QI g nwM (ceM g) A r9 st) (by decide) (Nat.le_of_ble_eq_true rfl) (fun p e s m below meth c A ls X Y hl => w_X8_in X h Y hl)
def X8_isReady_19   (k0 : Int32) (st : Sg) : Option Int32 :=
  cb01 k0 <| some k0
def X8_isReady_18    (st : Sg) : Option Int32 :=
  X8_isReady_19 0 st
def X8_isReady    (st : Sg) : Option Int32 :=
  if (st.1 0 4) ≤ (0 : Int32) then
    X8_isReady_18 st
  else
    if (st.1 0 26) < (0 : Int32) then
      X8_isReady_18 st
    else
      X8_isReady_19 1 st
abbrev rm_X8_isReady : Room := { frames := 0, cells := 0, slots := 0, locals := 0 }
set_option maxHeartbeats 4000000 in
set_option maxRecDepth 100000 in
theorem w_X8_isReady_19 (X : Cx g p s m args meth c cX8_isReady 1 RX8 (some .boolean)) {k0 : Int32} {st : Sg} {r9 : Int32}  (h : X8_isReady_19 k0 st = some r9) (Y : Hp g nwM (ceM g) A s.heap st H locs)  (hl : lv_has ls 1 []) : W p l e rm_X8_isReady s m args below meth c H locs 0 0 (MQ below (QI g nwM (ceM g) A r9 st) args s 0 0 A) (F0 m 19 ls [.int k0]) := by
  have hx := X.1
  have hb := X.2.1
  unfold X8_isReady_19 at h
  obtain ⟨b1, h⟩ := cb01_s h
  exact k_zretR X Y b1 h dX8_isReady_19
set_option maxHeartbeats 4000000 in
set_option maxRecDepth 100000 in
theorem w_X8_isReady_18 (X : Cx g p s m args meth c cX8_isReady 1 RX8 (some .boolean))  {st : Sg} {r9 : Int32}  (h : X8_isReady_18 st = some r9) (Y : Hp g nwM (ceM g) A s.heap st H locs)  (hl : lv_has ls 1 []) : W p l e rm_X8_isReady s m args below meth c H locs 0 0 (MQ below (QI g nwM (ceM g) A r9 st) args s 0 0 A) (F0 m 18 ls []) := by
  have hx := X.1
  have hb := X.2.1
  unfold X8_isReady_18 at h
  refine lv_iconst (v := 0) hx hb dX8_isReady_18 (by decide) ?_
  exact w_X8_isReady_19 X  h Y  (lv_sub hl [] rfl)
set_option maxHeartbeats 4000000 in
set_option maxRecDepth 100000 in
theorem w_X8_isReady (X : Cx g p s m args meth c cX8_isReady 1 RX8 (some .boolean))  {st : Sg} {r9 : Int32}  (h : X8_isReady st = some r9) (Y : Hp g nwM (ceM g) A s.heap st H locs)  (hl : lv_has ls 1 [(0, .ref (g.2.1 0))]) : W p l e rm_X8_isReady s m args below meth c H locs 0 0 (MQ below (QI g nwM (ceM g) A r9 st) args s 0 0 A) (F0 m 0 ls []) := by
  have hx := X.1
  have hb := X.2.1
  unfold X8_isReady at h
  refine lv_aload_n hx hb dX8_isReady_0 rfl (lv_at hl 0 rfl) ?_
  refine k_get (v := .int (st.1 0 4)) X Y fl_8_96 0 (Nat.le_of_ble_eq_true rfl) rfl rfl dX8_isReady_1 ?_
  refine lv_if_le (tgt := 18) hx hb dX8_isReady_4 (by decide) (fun c1 => ?_) (fun c1 => ?_)
  · have h := ite_t h c1
    exact w_X8_isReady_18 X  h Y  (lv_sub hl [] rfl)
  · have h := ite_f h c1
    refine lv_aload_n hx hb dX8_isReady_7 rfl (lv_at hl 0 rfl) ?_
    refine k_get (v := .int (st.1 0 26)) X Y fl_8_65 0 (Nat.le_of_ble_eq_true rfl) rfl rfl dX8_isReady_8 ?_
    refine lv_if_lt (tgt := 18) hx hb dX8_isReady_11 (by decide) (fun c2 => ?_) (fun c2 => ?_)
    · have h := ite_t h c2
      exact w_X8_isReady_18 X  h Y  (lv_sub hl [] rfl)
    · have h := ite_f h c2
      refine lv_iconst (v := 1) hx hb dX8_isReady_14 (by decide) ?_
      refine lv_goto (tgt := 19) hx hb dX8_isReady_15 (by decide) ?_
      exact w_X8_isReady_19 X  h Y  (lv_sub hl [] rfl)
theorem c_X8_isReady (l : Launch) {g : Gx}  {st : Sg} {r9 : Int32} (h : X8_isReady st = some r9) : MetI l yX8_isReady cX8_isReady 1 (some .boolean) rm_X8_isReady g nwM (ceM g) [.ref (g.2.1 0)] st r9 st :=
  met_of (Qc := fun A => QI g nwM (ceM g) A r9 st) (by decide) (Nat.le_of_ble_eq_true rfl) (fun p e s m below meth c A ls X Y hl => w_X8_isReady X h Y hl)
def X8_asks_24    (st : Sg) : Option Int32 :=
  some (-2)
def X8_asks_45   (k0 : Int32) (st : Sg) : Option Int32 :=
  some k0
def X8_asks   (x1 : Int32) (x2 : Int32) (st : Sg) : Option Int32 :=
  bnd1 (X8_in (x1.toInt64) 0 5) fun v2 =>
  if v2 = (0 : Int32) then
    X8_asks_24 st
  else
    bnd1 (X8_in (x2.toInt64) 0 12) fun v5 =>
    if v5 = (0 : Int32) then
      X8_asks_24 st
    else
      bnd1 (X8_isReady st) fun v8 =>
      if v8 = (0 : Int32) then
        X8_asks_45 (-3) st
      else
        bnd1 (X8_askedAt x1 x2 st) fun v11 =>
        X8_asks_45 v11 st
abbrev rm_X8_asks : Room := { frames := 1, cells := 0, slots := 0, locals := 27 }
set_option maxHeartbeats 4000000 in
set_option maxRecDepth 100000 in
theorem w_X8_asks_24 (X : Cx g p s m args meth c cX8_asks 3 RX8 (some .int))  {st : Sg} {r9 : Int32}  (h : X8_asks_24 st = some r9) (Y : Hp g nwM (ceM g) A s.heap st H locs)  (hl : lv_has ls 3 []) : W p l e rm_X8_asks s m args below meth c H locs 0 0 (MQ below (QI g nwM (ceM g) A r9 st) args s 0 0 A) (F0 m 24 ls []) := by
  have hx := X.1
  have hb := X.2.1
  unfold X8_asks_24 at h
  refine lv_bipush (v := (-2)) hx hb dX8_asks_24 (by decide) ?_
  exact k_iretR X Y h dX8_asks_26
set_option maxHeartbeats 4000000 in
set_option maxRecDepth 100000 in
theorem w_X8_asks_45 (X : Cx g p s m args meth c cX8_asks 3 RX8 (some .int)) {k0 : Int32} {st : Sg} {r9 : Int32}  (h : X8_asks_45 k0 st = some r9) (Y : Hp g nwM (ceM g) A s.heap st H locs)  (hl : lv_has ls 3 []) : W p l e rm_X8_asks s m args below meth c H locs 0 0 (MQ below (QI g nwM (ceM g) A r9 st) args s 0 0 A) (F0 m 45 ls [.int k0]) := by
  have hx := X.1
  have hb := X.2.1
  unfold X8_asks_45 at h
  exact k_iretR X Y h dX8_asks_45
set_option maxHeartbeats 4000000 in
set_option maxRecDepth 100000 in
theorem w_X8_asks (X : Cx g p s m args meth c cX8_asks 3 RX8 (some .int)) {x1 : Int32} {x2 : Int32} {st : Sg} {r9 : Int32}  (h : X8_asks x1 x2 st = some r9) (Y : Hp g nwM (ceM g) A s.heap st H locs)  (hl : lv_has ls 3 [(0, .ref (g.2.1 0)), (1, .int x1), (2, .int x2)]) : W p l e rm_X8_asks s m args below meth c H locs 0 0 (MQ below (QI g nwM (ceM g) A r9 st) args s 0 0 A) (F0 m 0 ls []) := by
  have hx := X.1
  have hb := X.2.1
  unfold X8_asks at h
  refine lv_iload_n hx hb dX8_asks_0 rfl (lv_at hl 1 rfl) ?_
  refine lv_i2l hx hb dX8_asks_1 rfl ?_
  refine lv_lconst (v := 0) hx hb dX8_asks_2 (by decide) ?_
  refine k_ldc2 X lg_8_114 dX8_asks_3 ?_
  obtain ⟨v2, hc1, h⟩ := bnd1_s h
  refine k_cI Y (k_runS (As := [.long (x1.toInt64), .long 0, .long 5]) (rest := []) X Y cl_8_83 (c_X8_in l hc1 _) ⟨rfl, rfl, Nat.le_of_ble_eq_true rfl, Nat.le_of_ble_eq_true rfl⟩ rfl hl.1 rfl (Nat.le_of_ble_eq_true rfl) dX8_asks_6 ⟨Nat.zero_le _, Nat.zero_le _⟩) (fun H locs Y => ?_)
  refine lv_if_eq (tgt := 24) hx hb dX8_asks_9 (by decide) (fun c3 => ?_) (fun c3 => ?_)
  · have h := ite_t h c3
    exact w_X8_asks_24 X  h Y  (lv_sub hl [] rfl)
  · have h := ite_f h c3
    refine lv_iload_n hx hb dX8_asks_12 rfl (lv_at hl 2 rfl) ?_
    refine lv_i2l hx hb dX8_asks_13 rfl ?_
    refine lv_lconst (v := 0) hx hb dX8_asks_14 (by decide) ?_
    refine k_ldc2 X lg_8_87 dX8_asks_15 ?_
    obtain ⟨v5, hc4, h⟩ := bnd1_s h
    refine k_cI Y (k_runS (As := [.long (x2.toInt64), .long 0, .long 12]) (rest := []) X Y cl_8_83 (c_X8_in l hc4 _) ⟨rfl, rfl, Nat.le_of_ble_eq_true rfl, Nat.le_of_ble_eq_true rfl⟩ rfl hl.1 rfl (Nat.le_of_ble_eq_true rfl) dX8_asks_18 ⟨Nat.zero_le _, Nat.zero_le _⟩) (fun H locs Y => ?_)
    refine lv_if_ne (tgt := 27) hx hb dX8_asks_21 (by decide) (fun c6 => ?_) (fun c6 => ?_)
    · have h := ite_f h c6
      refine lv_aload_n hx hb dX8_asks_27 rfl (lv_at hl 0 rfl) ?_
      obtain ⟨v8, hc7, h⟩ := bnd1_s h
      refine k_cI Y (k_runV (As := []) (rest := []) (o := 0) X Y cl_8_207 (c_X8_isReady l hc7 _) ⟨rfl, rfl, Nat.le_of_ble_eq_true rfl, Nat.le_of_ble_eq_true rfl⟩ (Nat.le_of_ble_eq_true rfl) rfl rfl hl.1 rfl (Nat.le_of_ble_eq_true rfl) dX8_asks_28 ⟨Nat.zero_le _, Nat.zero_le _⟩) (fun H locs Y => ?_)
      refine lv_if_eq (tgt := 43) hx hb dX8_asks_31 (by decide) (fun c9 => ?_) (fun c9 => ?_)
      · have h := ite_t h c9
        refine lv_bipush (v := (-3)) hx hb dX8_asks_43 (by decide) ?_
        exact w_X8_asks_45 X  h Y  (lv_sub hl [] rfl)
      · have h := ite_f h c9
        refine lv_aload_n hx hb dX8_asks_34 rfl (lv_at hl 0 rfl) ?_
        refine lv_iload_n hx hb dX8_asks_35 rfl (lv_at hl 1 rfl) ?_
        refine lv_iload_n hx hb dX8_asks_36 rfl (lv_at hl 2 rfl) ?_
        obtain ⟨v11, hc10, h⟩ := bnd1_s h
        refine k_cI Y (k_runV (As := [.int x1, .int x2]) (rest := []) (o := 0) X Y cl_8_210 (c_X8_askedAt l hc10 _) ⟨rfl, rfl, Nat.le_of_ble_eq_true rfl, Nat.le_of_ble_eq_true rfl⟩ (Nat.le_of_ble_eq_true rfl) rfl rfl hl.1 rfl (Nat.le_of_ble_eq_true rfl) dX8_asks_37 ⟨Nat.zero_le _, Nat.zero_le _⟩) (fun H locs Y => ?_)
        refine lv_goto (tgt := 45) hx hb dX8_asks_40 (by decide) ?_
        exact w_X8_asks_45 X  h Y  (lv_sub hl [] rfl)
    · have h := ite_t h c6
      exact w_X8_asks_24 X  h Y  (lv_sub hl [] rfl)
theorem c_X8_asks (l : Launch) {g : Gx} {x1 : Int32} {x2 : Int32} {st : Sg} {r9 : Int32} (h : X8_asks x1 x2 st = some r9) : MetI l yX8_asks cX8_asks 3 (some .int) rm_X8_asks g nwM (ceM g) [.ref (g.2.1 0), .int x1, .int x2] st r9 st :=
  met_of (Qc := fun A => QI g nwM (ceM g) A r9 st) (by decide) (Nat.le_of_ble_eq_true rfl) (fun p e s m below meth c A ls X Y hl => w_X8_asks X h Y hl)
def X8_beginEnd_33    (st : Sg) : Option Sg :=
  some st
def X8_beginEnd_7b  (rc7 : Int32 → Sg → Option Sg) (x1 : Int32) (st : Sg) : Option Sg :=
  if (12 : Int32) < x1 then
    X8_beginEnd_33 st
  else
    cix x1 13 <|
    nm (sJ st 7 x1.toNatClampNeg (((st.1 0 2).toInt64) * (x1.toInt64))) fun st3 =>
    nm (x1 + 1) fun v4 =>
    rc7 v4 st3
def X8_beginEnd_7    : Nat → Int32 → Sg → Option Sg
  | 0, _, _ => none
  | k + 1, x1, st => X8_beginEnd_7b   (X8_beginEnd_7 k) x1 st
def X8_beginEnd    (st : Sg) : Option Sg :=
  nm (sJ st 0 12 1) fun st1 =>
  X8_beginEnd_7 FU 0 st1
abbrev rm_X8_beginEnd : Room := { frames := 0, cells := 0, slots := 0, locals := 0 }
set_option maxHeartbeats 4000000 in
set_option maxRecDepth 100000 in
theorem w_X8_beginEnd_33 (X : Cx g p s m args meth c cX8_beginEnd 2 RX8 none)  {st : Sg} {st9 : Sg}  (h : X8_beginEnd_33 st = some st9) (Y : Hp g nwM (ceM g) A s.heap st H locs)  (hl : lv_has ls 2 []) : W p l e rm_X8_beginEnd s m args below meth c H locs 0 0 (MQ below (QV g nwM (ceM g) A st9) args s 0 0 A) (F0 m 33 ls []) := by
  have hx := X.1
  have hb := X.2.1
  unfold X8_beginEnd_33 at h
  exact k_vretW X Y h dX8_beginEnd_33
set_option maxHeartbeats 4000000 in
set_option maxRecDepth 100000 in
theorem w_X8_beginEnd_7b (X : Cx g p s m args meth c cX8_beginEnd 2 RX8 none) {x1 : Int32} {st : Sg} {st9 : Sg} (rc7 : Int32 → Sg → Option Sg) (hrc7 : ∀ (x1 : Int32) (st : Sg) (ls : Array Slot) (H : Heap) (locs : List Loc), rc7 x1 st = some st9 → Hp g nwM (ceM g) A s.heap st H locs → lv_has ls 2 [(0, .ref (g.2.1 0)), (1, .int x1)] → W p l e rm_X8_beginEnd s m args below meth c H locs 0 0 (MQ below (QV g nwM (ceM g) A st9) args s 0 0 A) (F0 m 7 ls [])) (h : X8_beginEnd_7b rc7 x1 st = some st9) (Y : Hp g nwM (ceM g) A s.heap st H locs)  (hl : lv_has ls 2 [(0, .ref (g.2.1 0)), (1, .int x1)]) : W p l e rm_X8_beginEnd s m args below meth c H locs 0 0 (MQ below (QV g nwM (ceM g) A st9) args s 0 0 A) (F0 m 7 ls []) := by
  have hx := X.1
  have hb := X.2.1
  unfold X8_beginEnd_7b at h
  refine lv_iload_n hx hb dX8_beginEnd_7 rfl (lv_at hl 1 rfl) ?_
  refine lv_bipush (v := 12) hx hb dX8_beginEnd_8 (by decide) ?_
  refine lv_icmp_gt (tgt := 33) hx hb dX8_beginEnd_10 (by decide) (fun c1 => ?_) (fun c1 => ?_)
  · have h := ite_t h c1
    exact w_X8_beginEnd_33 X  h Y  (lv_sub hl [] rfl)
  · have h := ite_f h c1
    refine lv_aload_n hx hb dX8_beginEnd_13 rfl (lv_at hl 0 rfl) ?_
    refine k_get (v := .ref (g.2.1 7)) X Y fl_8_28 0 (Nat.le_of_ble_eq_true rfl) rfl rfl dX8_beginEnd_14 ?_
    refine lv_iload_n hx hb dX8_beginEnd_17 rfl (lv_at hl 1 rfl) ?_
    refine lv_aload_n hx hb dX8_beginEnd_18 rfl (lv_at hl 0 rfl) ?_
    refine k_get (v := .int (st.1 0 2)) X Y fl_8_93 0 (Nat.le_of_ble_eq_true rfl) rfl rfl dX8_beginEnd_19 ?_
    refine lv_i2l hx hb dX8_beginEnd_22 rfl ?_
    refine lv_iload_n hx hb dX8_beginEnd_23 rfl (lv_at hl 1 rfl) ?_
    refine lv_i2l hx hb dX8_beginEnd_24 rfl ?_
    refine lv_lmul hx hb dX8_beginEnd_25 ?_
    obtain ⟨i2, h⟩ := cix_s h
    refine k_last X Y 7 (Nat.le_of_ble_eq_true rfl) (fun _ _ => rfl) i2 dX8_beginEnd_26 (fun H locs Y => ?_)
    obtain ⟨st3, est3, h⟩ := nm_s h
    have Y : Hp g nwM (ceM g) A s.heap st3 H locs := by rw [est3]; exact Y
    obtain ⟨v4, ev4, h⟩ := nm_s h
    refine lv_iinc (v := v4) (lv' := [(1, .int v4), (0, .ref (g.2.1 0))]) hx hb dX8_beginEnd_27 hl (k := 1) rfl (by rw [ev4]; rfl) (by decide) rfl (fun ls hl => ?_)
    refine lv_goto (tgt := 7) hx hb dX8_beginEnd_30 (by decide) ?_
    exact hrc7 v4 st3 _ _ _ h Y (lv_sub hl [1, 0] rfl)
theorem w_X8_beginEnd_7 (X : Cx g p s m args meth c cX8_beginEnd 2 RX8 none)   {st9 : Sg}   : ∀ (k : Nat) (x1 : Int32) (st : Sg) (ls : Array Slot) (H : Heap) (locs : List Loc), X8_beginEnd_7 k x1 st = some st9 → Hp g nwM (ceM g) A s.heap st H locs → lv_has ls 2 [(0, .ref (g.2.1 0)), (1, .int x1)] → W p l e rm_X8_beginEnd s m args below meth c H locs 0 0 (MQ below (QV g nwM (ceM g) A st9) args s 0 0 A) (F0 m 7 ls []) := by
  intro k
  induction k with
  | zero =>
    intro x1 st ls H locs h
    exact none_s h
  | succ k ih =>
    intro x1 st ls H locs h Y hl
    exact w_X8_beginEnd_7b X  (X8_beginEnd_7 k) ih h Y  hl
set_option maxHeartbeats 4000000 in
set_option maxRecDepth 100000 in
theorem w_X8_beginEnd (X : Cx g p s m args meth c cX8_beginEnd 2 RX8 none)  {st : Sg} {st9 : Sg}  (h : X8_beginEnd st = some st9) (Y : Hp g nwM (ceM g) A s.heap st H locs)  (hl : lv_has ls 2 [(0, .ref (g.2.1 0))]) : W p l e rm_X8_beginEnd s m args below meth c H locs 0 0 (MQ below (QV g nwM (ceM g) A st9) args s 0 0 A) (F0 m 0 ls []) := by
  have hx := X.1
  have hb := X.2.1
  unfold X8_beginEnd at h
  refine lv_aload_n hx hb dX8_beginEnd_0 rfl (lv_at hl 0 rfl) ?_
  refine lv_lconst (v := 1) hx hb dX8_beginEnd_1 (by decide) ?_
  refine k_putJ X Y fl_8_120 0 (Nat.le_of_ble_eq_true rfl) rfl (Nat.le_of_ble_eq_true rfl) rfl dX8_beginEnd_2 (fun H locs Y => ?_)
  obtain ⟨st1, est1, h⟩ := nm_s h
  have Y : Hp g nwM (ceM g) A s.heap st1 H locs := by rw [est1]; exact Y
  refine lv_iconst (v := 0) hx hb dX8_beginEnd_5 (by decide) ?_
  refine lv_istore_n (lv' := [(1, .int 0), (0, .ref (g.2.1 0))]) hx hb dX8_beginEnd_6 rfl hl (by decide) rfl (fun ls hl => ?_)
  exact w_X8_beginEnd_7 X   FU 0 st1 _ _ _ h Y (lv_sub hl [1, 0] rfl)
theorem c_X8_beginEnd (l : Launch) {g : Gx}  {st : Sg} {st9 : Sg} (h : X8_beginEnd st = some st9) : MetV l yX8_beginEnd cX8_beginEnd 2 none rm_X8_beginEnd g nwM (ceM g) [.ref (g.2.1 0)] st st9 :=
  met_of (Qc := fun A => QV g nwM (ceM g) A st9) (by decide) (Nat.le_of_ble_eq_true rfl) (fun p e s m below meth c A ls X Y hl => w_X8_beginEnd X h Y hl)
def X8_keepRow_31    (st : Sg) : Option Sg :=
  some st
def X8_keepRow_2b  (rc2 : Int32 → Sg → Option Sg) (x1 : Int32) (x2 : Int32) (st : Sg) : Option Sg :=
  if (12 : Int32) < x2 then
    X8_keepRow_31 st
  else
    cix x2 13 <|
    cix ((13 * x1) + x2) 91 <|
    nm (sJ st 8 ((13 * x1) + x2).toNatClampNeg (st.2 7 x2.toNatClampNeg)) fun st4 =>
    nm (x2 + 1) fun v5 =>
    rc2 v5 st4
def X8_keepRow_2   (x1 : Int32) : Nat → Int32 → Sg → Option Sg
  | 0, _, _ => none
  | k + 1, x2, st => X8_keepRow_2b   (X8_keepRow_2 x1 k) x1 x2 st
def X8_keepRow   (x1 : Int32) (st : Sg) : Option Sg :=
  X8_keepRow_2 x1 FU 0 st
abbrev rm_X8_keepRow : Room := { frames := 0, cells := 0, slots := 0, locals := 0 }
set_option maxHeartbeats 4000000 in
set_option maxRecDepth 100000 in
theorem w_X8_keepRow_31 (X : Cx g p s m args meth c cX8_keepRow 3 RX8 none)  {st : Sg} {st9 : Sg}  (h : X8_keepRow_31 st = some st9) (Y : Hp g nwM (ceM g) A s.heap st H locs)  (hl : lv_has ls 3 []) : W p l e rm_X8_keepRow s m args below meth c H locs 0 0 (MQ below (QV g nwM (ceM g) A st9) args s 0 0 A) (F0 m 31 ls []) := by
  have hx := X.1
  have hb := X.2.1
  unfold X8_keepRow_31 at h
  exact k_vretW X Y h dX8_keepRow_31
set_option maxHeartbeats 4000000 in
set_option maxRecDepth 100000 in
theorem w_X8_keepRow_2b (X : Cx g p s m args meth c cX8_keepRow 3 RX8 none) {x1 : Int32} {x2 : Int32} {st : Sg} {st9 : Sg} (rc2 : Int32 → Sg → Option Sg) (hrc2 : ∀ (x2 : Int32) (st : Sg) (ls : Array Slot) (H : Heap) (locs : List Loc), rc2 x2 st = some st9 → Hp g nwM (ceM g) A s.heap st H locs → lv_has ls 3 [(0, .ref (g.2.1 0)), (1, .int x1), (2, .int x2)] → W p l e rm_X8_keepRow s m args below meth c H locs 0 0 (MQ below (QV g nwM (ceM g) A st9) args s 0 0 A) (F0 m 2 ls [])) (h : X8_keepRow_2b rc2 x1 x2 st = some st9) (Y : Hp g nwM (ceM g) A s.heap st H locs)  (hl : lv_has ls 3 [(0, .ref (g.2.1 0)), (1, .int x1), (2, .int x2)]) : W p l e rm_X8_keepRow s m args below meth c H locs 0 0 (MQ below (QV g nwM (ceM g) A st9) args s 0 0 A) (F0 m 2 ls []) := by
  have hx := X.1
  have hb := X.2.1
  unfold X8_keepRow_2b at h
  refine lv_iload_n hx hb dX8_keepRow_2 rfl (lv_at hl 2 rfl) ?_
  refine lv_bipush (v := 12) hx hb dX8_keepRow_3 (by decide) ?_
  refine lv_icmp_gt (tgt := 31) hx hb dX8_keepRow_5 (by decide) (fun c1 => ?_) (fun c1 => ?_)
  · have h := ite_t h c1
    exact w_X8_keepRow_31 X  h Y  (lv_sub hl [] rfl)
  · have h := ite_f h c1
    refine lv_aload_n hx hb dX8_keepRow_8 rfl (lv_at hl 0 rfl) ?_
    refine k_get (v := .ref (g.2.1 8)) X Y fl_8_32 0 (Nat.le_of_ble_eq_true rfl) rfl rfl dX8_keepRow_9 ?_
    refine lv_bipush (v := 13) hx hb dX8_keepRow_12 (by decide) ?_
    refine lv_iload_n hx hb dX8_keepRow_14 rfl (lv_at hl 1 rfl) ?_
    refine lv_imul hx hb dX8_keepRow_15 ?_
    refine lv_iload_n hx hb dX8_keepRow_16 rfl (lv_at hl 2 rfl) ?_
    refine lv_iadd hx hb dX8_keepRow_17 ?_
    refine lv_aload_n hx hb dX8_keepRow_18 rfl (lv_at hl 0 rfl) ?_
    refine k_get (v := .ref (g.2.1 7)) X Y fl_8_28 0 (Nat.le_of_ble_eq_true rfl) rfl rfl dX8_keepRow_19 ?_
    refine lv_iload_n hx hb dX8_keepRow_22 rfl (lv_at hl 2 rfl) ?_
    obtain ⟨i2, h⟩ := cix_s h
    refine k_lald X Y 7 (Nat.le_of_ble_eq_true rfl) (fun _ _ => rfl) i2 dX8_keepRow_23 ?_
    obtain ⟨i3, h⟩ := cix_s h
    refine k_last X Y 8 (Nat.le_of_ble_eq_true rfl) (fun _ _ => rfl) i3 dX8_keepRow_24 (fun H locs Y => ?_)
    obtain ⟨st4, est4, h⟩ := nm_s h
    have Y : Hp g nwM (ceM g) A s.heap st4 H locs := by rw [est4]; exact Y
    obtain ⟨v5, ev5, h⟩ := nm_s h
    refine lv_iinc (v := v5) (lv' := [(2, .int v5), (0, .ref (g.2.1 0)), (1, .int x1)]) hx hb dX8_keepRow_25 hl (k := 2) rfl (by rw [ev5]; rfl) (by decide) rfl (fun ls hl => ?_)
    refine lv_goto (tgt := 2) hx hb dX8_keepRow_28 (by decide) ?_
    exact hrc2 v5 st4 _ _ _ h Y (lv_sub hl [1, 2, 0] rfl)
theorem w_X8_keepRow_2 (X : Cx g p s m args meth c cX8_keepRow 3 RX8 none) {x1 : Int32}  {st9 : Sg}   : ∀ (k : Nat) (x2 : Int32) (st : Sg) (ls : Array Slot) (H : Heap) (locs : List Loc), X8_keepRow_2 x1 k x2 st = some st9 → Hp g nwM (ceM g) A s.heap st H locs → lv_has ls 3 [(0, .ref (g.2.1 0)), (1, .int x1), (2, .int x2)] → W p l e rm_X8_keepRow s m args below meth c H locs 0 0 (MQ below (QV g nwM (ceM g) A st9) args s 0 0 A) (F0 m 2 ls []) := by
  intro k
  induction k with
  | zero =>
    intro x2 st ls H locs h
    exact none_s h
  | succ k ih =>
    intro x2 st ls H locs h Y hl
    exact w_X8_keepRow_2b X  (X8_keepRow_2 x1 k) ih h Y  hl
set_option maxHeartbeats 4000000 in
set_option maxRecDepth 100000 in
theorem w_X8_keepRow (X : Cx g p s m args meth c cX8_keepRow 3 RX8 none) {x1 : Int32} {st : Sg} {st9 : Sg}  (h : X8_keepRow x1 st = some st9) (Y : Hp g nwM (ceM g) A s.heap st H locs)  (hl : lv_has ls 3 [(0, .ref (g.2.1 0)), (1, .int x1)]) : W p l e rm_X8_keepRow s m args below meth c H locs 0 0 (MQ below (QV g nwM (ceM g) A st9) args s 0 0 A) (F0 m 0 ls []) := by
  have hx := X.1
  have hb := X.2.1
  unfold X8_keepRow at h
  refine lv_iconst (v := 0) hx hb dX8_keepRow_0 (by decide) ?_
  refine lv_istore_n (lv' := [(2, .int 0), (0, .ref (g.2.1 0)), (1, .int x1)]) hx hb dX8_keepRow_1 rfl hl (by decide) rfl (fun ls hl => ?_)
  exact w_X8_keepRow_2 X   FU 0 st _ _ _ h Y (lv_sub hl [1, 2, 0] rfl)
theorem c_X8_keepRow (l : Launch) {g : Gx} {x1 : Int32} {st : Sg} {st9 : Sg} (h : X8_keepRow x1 st = some st9) : MetV l yX8_keepRow cX8_keepRow 3 none rm_X8_keepRow g nwM (ceM g) [.ref (g.2.1 0), .int x1] st st9 :=
  met_of (Qc := fun A => QV g nwM (ceM g) A st9) (by decide) (Nat.le_of_ble_eq_true rfl) (fun p e s m below meth c A ls X Y hl => w_X8_keepRow X h Y hl)
def X8_worthOf_25   (k0 : Int32) (st : Sg) : Option Int32 :=
  some k0
def X8_worthOf   (x1 : Int32) (x2 : Int32) (st : Sg) : Option Int32 :=
  cix x1 3 <|
  cix x1 3 <|
  nm ((st.1 3 x1.toNatClampNeg) - ((st.1 4 x1.toNatClampNeg) * x2)) fun v3 =>
  if (0 : Int32) ≤ v3 then
    X8_worthOf_25 v3 st
  else
    X8_worthOf_25 0 st
abbrev rm_X8_worthOf : Room := { frames := 0, cells := 0, slots := 0, locals := 0 }
set_option maxHeartbeats 4000000 in
set_option maxRecDepth 100000 in
theorem w_X8_worthOf_25 (X : Cx g p s m args meth c cX8_worthOf 4 RX8 (some .int)) {k0 : Int32} {st : Sg} {r9 : Int32}  (h : X8_worthOf_25 k0 st = some r9) (Y : Hp g nwM (ceM g) A s.heap st H locs)  (hl : lv_has ls 4 []) : W p l e rm_X8_worthOf s m args below meth c H locs 0 0 (MQ below (QI g nwM (ceM g) A r9 st) args s 0 0 A) (F0 m 25 ls [.int k0]) := by
  have hx := X.1
  have hb := X.2.1
  unfold X8_worthOf_25 at h
  exact k_iretR X Y h dX8_worthOf_25
set_option maxHeartbeats 4000000 in
set_option maxRecDepth 100000 in
theorem w_X8_worthOf (X : Cx g p s m args meth c cX8_worthOf 4 RX8 (some .int)) {x1 : Int32} {x2 : Int32} {st : Sg} {r9 : Int32}  (h : X8_worthOf x1 x2 st = some r9) (Y : Hp g nwM (ceM g) A s.heap st H locs)  (hl : lv_has ls 4 [(0, .ref (g.2.1 0)), (1, .int x1), (2, .int x2)]) : W p l e rm_X8_worthOf s m args below meth c H locs 0 0 (MQ below (QI g nwM (ceM g) A r9 st) args s 0 0 A) (F0 m 0 ls []) := by
  have hx := X.1
  have hb := X.2.1
  unfold X8_worthOf at h
  refine lv_aload_n hx hb dX8_worthOf_0 rfl (lv_at hl 0 rfl) ?_
  refine k_get (v := .ref (g.2.1 3)) X Y fl_8_16 0 (Nat.le_of_ble_eq_true rfl) rfl rfl dX8_worthOf_1 ?_
  refine lv_iload_n hx hb dX8_worthOf_4 rfl (lv_at hl 1 rfl) ?_
  obtain ⟨i1, h⟩ := cix_s h
  refine k_iald X Y 3 (Nat.le_of_ble_eq_true rfl) (fun _ _ => rfl) i1 dX8_worthOf_5 ?_
  refine lv_aload_n hx hb dX8_worthOf_6 rfl (lv_at hl 0 rfl) ?_
  refine k_get (v := .ref (g.2.1 4)) X Y fl_8_19 0 (Nat.le_of_ble_eq_true rfl) rfl rfl dX8_worthOf_7 ?_
  refine lv_iload_n hx hb dX8_worthOf_10 rfl (lv_at hl 1 rfl) ?_
  obtain ⟨i2, h⟩ := cix_s h
  refine k_iald X Y 4 (Nat.le_of_ble_eq_true rfl) (fun _ _ => rfl) i2 dX8_worthOf_11 ?_
  refine lv_iload_n hx hb dX8_worthOf_12 rfl (lv_at hl 2 rfl) ?_
  refine lv_imul hx hb dX8_worthOf_13 ?_
  refine lv_isub hx hb dX8_worthOf_14 ?_
  obtain ⟨v3, ev3, h⟩ := nm_s h
  refine k_nmI ev3 ?_
  refine lv_istore_n (lv' := [(3, .int v3), (0, .ref (g.2.1 0)), (1, .int x1), (2, .int x2)]) hx hb dX8_worthOf_15 rfl hl (by decide) rfl (fun ls hl => ?_)
  refine lv_iload_n hx hb dX8_worthOf_16 rfl (lv_at hl 0 rfl) ?_
  refine lv_if_ge (tgt := 24) hx hb dX8_worthOf_17 (by decide) (fun c4 => ?_) (fun c4 => ?_)
  · have h := ite_t h c4
    refine lv_iload_n hx hb dX8_worthOf_24 rfl (lv_at hl 0 rfl) ?_
    exact w_X8_worthOf_25 X  h Y  (lv_sub hl [] rfl)
  · have h := ite_f h c4
    refine lv_iconst (v := 0) hx hb dX8_worthOf_20 (by decide) ?_
    refine lv_goto (tgt := 25) hx hb dX8_worthOf_21 (by decide) ?_
    exact w_X8_worthOf_25 X  h Y  (lv_sub hl [] rfl)
theorem c_X8_worthOf (l : Launch) {g : Gx} {x1 : Int32} {x2 : Int32} {st : Sg} {r9 : Int32} (h : X8_worthOf x1 x2 st = some r9) : MetI l yX8_worthOf cX8_worthOf 4 (some .int) rm_X8_worthOf g nwM (ceM g) [.ref (g.2.1 0), .int x1, .int x2] st r9 st :=
  met_of (Qc := fun A => QI g nwM (ceM g) A r9 st) (by decide) (Nat.le_of_ble_eq_true rfl) (fun p e s m below meth c A ls X Y hl => w_X8_worthOf X h Y hl)
def X8_buyer_76  (rc3 : Int32 → Sg → Option Sg) (k1 : Int32) (k2 : Int64) (x1 : Int32) (x2 : Int32) (x3 : Int32) (st : Sg) : Option Sg :=
  cix k1 13 <|
  nm (sJ st 7 k1.toNatClampNeg k2) fun st2 =>
  nm (x3 + (-1)) fun v3 =>
  rc3 v3 st2
def X8_buyer_20  (rc3 : Int32 → Sg → Option Sg) (k0 : Int32) (x1 : Int32) (x2 : Int32) (x3 : Int32) (st : Sg) : Option Sg :=
  if k0 = (0 : Int32) then
    cix x3 13 <|
    X8_buyer_76 rc3 x3 (4 * (st.2 7 x3.toNatClampNeg)) x1 x2 x3 st
  else
    cix (x3 - 1) 13 <|
    cix x3 13 <|
    X8_buyer_76 rc3 x3 (((x1.toInt64) * (((x2.toInt64) * (st.2 0 12)) + (st.2 7 (x3 - 1).toNatClampNeg))) + (((4 - x1).toInt64) * (st.2 7 x3.toNatClampNeg))) x1 x2 x3 st
def X8_buyer_19  (rc3 : Int32 → Sg → Option Sg) (x1 : Int32) (x2 : Int32) (x3 : Int32) (st : Sg) : Option Sg :=
  X8_buyer_20 rc3 0 x1 x2 x3 st
def X8_buyer_83    (st : Sg) : Option Sg :=
  nm (sJ st 0 12 ((st.2 0 12) * 4)) fun st1 =>
  some st1
def X8_buyer_3b  (rc3 : Int32 → Sg → Option Sg) (x1 : Int32) (x2 : Int32) (x3 : Int32) (st : Sg) : Option Sg :=
  if x3 < (0 : Int32) then
    X8_buyer_83 st
  else
    if x3 ≤ (0 : Int32) then
      X8_buyer_19 rc3 x1 x2 x3 st
    else
      if x1 ≤ (0 : Int32) then
        X8_buyer_19 rc3 x1 x2 x3 st
      else
        X8_buyer_20 rc3 1 x1 x2 x3 st
def X8_buyer_3   (x1 : Int32) (x2 : Int32) : Nat → Int32 → Sg → Option Sg
  | 0, _, _ => none
  | k + 1, x3, st => X8_buyer_3b   (X8_buyer_3 x1 x2 k) x1 x2 x3 st
def X8_buyer   (x1 : Int32) (x2 : Int32) (st : Sg) : Option Sg :=
  X8_buyer_3 x1 x2 FU 12 st
abbrev rm_X8_buyer : Room := { frames := 0, cells := 0, slots := 0, locals := 0 }
set_option maxHeartbeats 4000000 in
set_option maxRecDepth 100000 in
theorem w_X8_buyer_76 (X : Cx g p s m args meth c cX8_buyer 5 RX8 none) {k1 : Int32} {k2 : Int64} {x1 : Int32} {x2 : Int32} {x3 : Int32} {st : Sg} {st9 : Sg} (rc3 : Int32 → Sg → Option Sg) (hrc3 : ∀ (x3 : Int32) (st : Sg) (ls : Array Slot) (H : Heap) (locs : List Loc), rc3 x3 st = some st9 → Hp g nwM (ceM g) A s.heap st H locs → lv_has ls 5 [(0, .ref (g.2.1 0)), (1, .int x1), (2, .int x2), (3, .int x3)] → W p l e rm_X8_buyer s m args below meth c H locs 0 0 (MQ below (QV g nwM (ceM g) A st9) args s 0 0 A) (F0 m 3 ls [])) (h : X8_buyer_76 rc3 k1 k2 x1 x2 x3 st = some st9) (Y : Hp g nwM (ceM g) A s.heap st H locs)  (hl : lv_has ls 5 [(0, .ref (g.2.1 0)), (1, .int x1), (2, .int x2), (3, .int x3)]) : W p l e rm_X8_buyer s m args below meth c H locs 0 0 (MQ below (QV g nwM (ceM g) A st9) args s 0 0 A) (F0 m 76 ls [.long k2, .int k1, .ref (g.2.1 7)]) := by
  have hx := X.1
  have hb := X.2.1
  unfold X8_buyer_76 at h
  obtain ⟨i1, h⟩ := cix_s h
  refine k_last X Y 7 (Nat.le_of_ble_eq_true rfl) (fun _ _ => rfl) i1 dX8_buyer_76 (fun H locs Y => ?_)
  obtain ⟨st2, est2, h⟩ := nm_s h
  have Y : Hp g nwM (ceM g) A s.heap st2 H locs := by rw [est2]; exact Y
  obtain ⟨v3, ev3, h⟩ := nm_s h
  refine lv_iinc (v := v3) (lv' := [(3, .int v3), (0, .ref (g.2.1 0)), (1, .int x1), (2, .int x2)]) hx hb dX8_buyer_77 hl (k := 3) rfl (by rw [ev3]; rfl) (by decide) rfl (fun ls hl => ?_)
  refine lv_goto (tgt := 3) hx hb dX8_buyer_80 (by decide) ?_
  exact hrc3 v3 st2 _ _ _ h Y (lv_sub hl [1, 2, 3, 0] rfl)
set_option maxHeartbeats 4000000 in
set_option maxRecDepth 100000 in
theorem w_X8_buyer_20 (X : Cx g p s m args meth c cX8_buyer 5 RX8 none) {k0 : Int32} {x1 : Int32} {x2 : Int32} {x3 : Int32} {st : Sg} {st9 : Sg} (rc3 : Int32 → Sg → Option Sg) (hrc3 : ∀ (x3 : Int32) (st : Sg) (ls : Array Slot) (H : Heap) (locs : List Loc), rc3 x3 st = some st9 → Hp g nwM (ceM g) A s.heap st H locs → lv_has ls 5 [(0, .ref (g.2.1 0)), (1, .int x1), (2, .int x2), (3, .int x3)] → W p l e rm_X8_buyer s m args below meth c H locs 0 0 (MQ below (QV g nwM (ceM g) A st9) args s 0 0 A) (F0 m 3 ls [])) (h : X8_buyer_20 rc3 k0 x1 x2 x3 st = some st9) (Y : Hp g nwM (ceM g) A s.heap st H locs)  (hl : lv_has ls 5 [(0, .ref (g.2.1 0)), (1, .int x1), (2, .int x2), (3, .int x3)]) : W p l e rm_X8_buyer s m args below meth c H locs 0 0 (MQ below (QV g nwM (ceM g) A st9) args s 0 0 A) (F0 m 20 ls [.int k0]) := by
  have hx := X.1
  have hb := X.2.1
  unfold X8_buyer_20 at h
  refine lv_istore (lv' := [(4, .int k0), (0, .ref (g.2.1 0)), (1, .int x1), (2, .int x2), (3, .int x3)]) hx hb dX8_buyer_20 hl (by decide) rfl (fun ls hl => ?_)
  refine lv_aload_n hx hb dX8_buyer_22 rfl (lv_at hl 1 rfl) ?_
  refine k_get (v := .ref (g.2.1 7)) X Y fl_8_28 0 (Nat.le_of_ble_eq_true rfl) rfl rfl dX8_buyer_23 ?_
  refine lv_iload_n hx hb dX8_buyer_26 rfl (lv_at hl 4 rfl) ?_
  refine lv_iload hx hb dX8_buyer_27 (lv_at hl 0 rfl) ?_
  refine lv_if_eq (tgt := 66) hx hb dX8_buyer_29 (by decide) (fun c1 => ?_) (fun c1 => ?_)
  · have h := ite_t h c1
    refine k_ldc2 X lg_8_99 dX8_buyer_66 ?_
    refine lv_aload_n hx hb dX8_buyer_69 rfl (lv_at hl 1 rfl) ?_
    refine k_get (v := .ref (g.2.1 7)) X Y fl_8_28 0 (Nat.le_of_ble_eq_true rfl) rfl rfl dX8_buyer_70 ?_
    refine lv_iload_n hx hb dX8_buyer_73 rfl (lv_at hl 4 rfl) ?_
    obtain ⟨i2, h⟩ := cix_s h
    refine k_lald X Y 7 (Nat.le_of_ble_eq_true rfl) (fun _ _ => rfl) i2 dX8_buyer_74 ?_
    refine lv_lmul hx hb dX8_buyer_75 ?_
    exact w_X8_buyer_76 X rc3 hrc3 h Y  (lv_sub hl [1, 2, 3, 4] rfl)
  · have h := ite_f h c1
    refine lv_iload_n hx hb dX8_buyer_32 rfl (lv_at hl 2 rfl) ?_
    refine lv_i2l hx hb dX8_buyer_33 rfl ?_
    refine lv_iload_n hx hb dX8_buyer_34 rfl (lv_at hl 3 rfl) ?_
    refine lv_i2l hx hb dX8_buyer_35 rfl ?_
    refine lv_aload_n hx hb dX8_buyer_36 rfl (lv_at hl 1 rfl) ?_
    refine k_get (v := .long (st.2 0 12)) X Y fl_8_120 0 (Nat.le_of_ble_eq_true rfl) rfl rfl dX8_buyer_37 ?_
    refine lv_lmul hx hb dX8_buyer_40 ?_
    refine lv_aload_n hx hb dX8_buyer_41 rfl (lv_at hl 1 rfl) ?_
    refine k_get (v := .ref (g.2.1 7)) X Y fl_8_28 0 (Nat.le_of_ble_eq_true rfl) rfl rfl dX8_buyer_42 ?_
    refine lv_iload_n hx hb dX8_buyer_45 rfl (lv_at hl 4 rfl) ?_
    refine lv_iconst (v := 1) hx hb dX8_buyer_46 (by decide) ?_
    refine lv_isub hx hb dX8_buyer_47 ?_
    obtain ⟨i3, h⟩ := cix_s h
    refine k_lald X Y 7 (Nat.le_of_ble_eq_true rfl) (fun _ _ => rfl) i3 dX8_buyer_48 ?_
    refine lv_ladd hx hb dX8_buyer_49 ?_
    refine lv_lmul hx hb dX8_buyer_50 ?_
    refine lv_iconst (v := 4) hx hb dX8_buyer_51 (by decide) ?_
    refine lv_iload_n hx hb dX8_buyer_52 rfl (lv_at hl 2 rfl) ?_
    refine lv_isub hx hb dX8_buyer_53 ?_
    refine lv_i2l hx hb dX8_buyer_54 rfl ?_
    refine lv_aload_n hx hb dX8_buyer_55 rfl (lv_at hl 1 rfl) ?_
    refine k_get (v := .ref (g.2.1 7)) X Y fl_8_28 0 (Nat.le_of_ble_eq_true rfl) rfl rfl dX8_buyer_56 ?_
    refine lv_iload_n hx hb dX8_buyer_59 rfl (lv_at hl 4 rfl) ?_
    obtain ⟨i4, h⟩ := cix_s h
    refine k_lald X Y 7 (Nat.le_of_ble_eq_true rfl) (fun _ _ => rfl) i4 dX8_buyer_60 ?_
    refine lv_lmul hx hb dX8_buyer_61 ?_
    refine lv_ladd hx hb dX8_buyer_62 ?_
    refine lv_goto (tgt := 76) hx hb dX8_buyer_63 (by decide) ?_
    exact w_X8_buyer_76 X rc3 hrc3 h Y  (lv_sub hl [1, 2, 3, 4] rfl)
set_option maxHeartbeats 4000000 in
set_option maxRecDepth 100000 in
theorem w_X8_buyer_19 (X : Cx g p s m args meth c cX8_buyer 5 RX8 none) {x1 : Int32} {x2 : Int32} {x3 : Int32} {st : Sg} {st9 : Sg} (rc3 : Int32 → Sg → Option Sg) (hrc3 : ∀ (x3 : Int32) (st : Sg) (ls : Array Slot) (H : Heap) (locs : List Loc), rc3 x3 st = some st9 → Hp g nwM (ceM g) A s.heap st H locs → lv_has ls 5 [(0, .ref (g.2.1 0)), (1, .int x1), (2, .int x2), (3, .int x3)] → W p l e rm_X8_buyer s m args below meth c H locs 0 0 (MQ below (QV g nwM (ceM g) A st9) args s 0 0 A) (F0 m 3 ls [])) (h : X8_buyer_19 rc3 x1 x2 x3 st = some st9) (Y : Hp g nwM (ceM g) A s.heap st H locs)  (hl : lv_has ls 5 [(0, .ref (g.2.1 0)), (1, .int x1), (2, .int x2), (3, .int x3)]) : W p l e rm_X8_buyer s m args below meth c H locs 0 0 (MQ below (QV g nwM (ceM g) A st9) args s 0 0 A) (F0 m 19 ls []) := by
  have hx := X.1
  have hb := X.2.1
  unfold X8_buyer_19 at h
  refine lv_iconst (v := 0) hx hb dX8_buyer_19 (by decide) ?_
  exact w_X8_buyer_20 X rc3 hrc3 h Y  (lv_sub hl [0, 1, 2, 3] rfl)
set_option maxHeartbeats 4000000 in
set_option maxRecDepth 100000 in
theorem w_X8_buyer_83 (X : Cx g p s m args meth c cX8_buyer 5 RX8 none)  {st : Sg} {st9 : Sg}  (h : X8_buyer_83 st = some st9) (Y : Hp g nwM (ceM g) A s.heap st H locs)  (hl : lv_has ls 5 [(0, .ref (g.2.1 0))]) : W p l e rm_X8_buyer s m args below meth c H locs 0 0 (MQ below (QV g nwM (ceM g) A st9) args s 0 0 A) (F0 m 83 ls []) := by
  have hx := X.1
  have hb := X.2.1
  unfold X8_buyer_83 at h
  refine lv_aload_n hx hb dX8_buyer_83 rfl (lv_at hl 0 rfl) ?_
  refine lv_dup hx hb dX8_buyer_84 rfl ?_
  refine k_get (v := .long (st.2 0 12)) X Y fl_8_120 0 (Nat.le_of_ble_eq_true rfl) rfl rfl dX8_buyer_85 ?_
  refine k_ldc2 X lg_8_99 dX8_buyer_88 ?_
  refine lv_lmul hx hb dX8_buyer_91 ?_
  refine k_putJ X Y fl_8_120 0 (Nat.le_of_ble_eq_true rfl) rfl (Nat.le_of_ble_eq_true rfl) rfl dX8_buyer_92 (fun H locs Y => ?_)
  obtain ⟨st1, est1, h⟩ := nm_s h
  have Y : Hp g nwM (ceM g) A s.heap st1 H locs := by rw [est1]; exact Y
  exact k_vretW X Y h dX8_buyer_95
set_option maxHeartbeats 4000000 in
set_option maxRecDepth 100000 in
theorem w_X8_buyer_3b (X : Cx g p s m args meth c cX8_buyer 5 RX8 none) {x1 : Int32} {x2 : Int32} {x3 : Int32} {st : Sg} {st9 : Sg} (rc3 : Int32 → Sg → Option Sg) (hrc3 : ∀ (x3 : Int32) (st : Sg) (ls : Array Slot) (H : Heap) (locs : List Loc), rc3 x3 st = some st9 → Hp g nwM (ceM g) A s.heap st H locs → lv_has ls 5 [(0, .ref (g.2.1 0)), (1, .int x1), (2, .int x2), (3, .int x3)] → W p l e rm_X8_buyer s m args below meth c H locs 0 0 (MQ below (QV g nwM (ceM g) A st9) args s 0 0 A) (F0 m 3 ls [])) (h : X8_buyer_3b rc3 x1 x2 x3 st = some st9) (Y : Hp g nwM (ceM g) A s.heap st H locs)  (hl : lv_has ls 5 [(0, .ref (g.2.1 0)), (1, .int x1), (2, .int x2), (3, .int x3)]) : W p l e rm_X8_buyer s m args below meth c H locs 0 0 (MQ below (QV g nwM (ceM g) A st9) args s 0 0 A) (F0 m 3 ls []) := by
  have hx := X.1
  have hb := X.2.1
  unfold X8_buyer_3b at h
  refine lv_iload_n hx hb dX8_buyer_3 rfl (lv_at hl 3 rfl) ?_
  refine lv_if_lt (tgt := 83) hx hb dX8_buyer_4 (by decide) (fun c1 => ?_) (fun c1 => ?_)
  · have h := ite_t h c1
    exact w_X8_buyer_83 X  h Y  (lv_sub hl [0] rfl)
  · have h := ite_f h c1
    refine lv_iload_n hx hb dX8_buyer_7 rfl (lv_at hl 3 rfl) ?_
    refine lv_if_le (tgt := 19) hx hb dX8_buyer_8 (by decide) (fun c2 => ?_) (fun c2 => ?_)
    · have h := ite_t h c2
      exact w_X8_buyer_19 X rc3 hrc3 h Y  (lv_sub hl [0, 1, 2, 3] rfl)
    · have h := ite_f h c2
      refine lv_iload_n hx hb dX8_buyer_11 rfl (lv_at hl 1 rfl) ?_
      refine lv_if_le (tgt := 19) hx hb dX8_buyer_12 (by decide) (fun c3 => ?_) (fun c3 => ?_)
      · have h := ite_t h c3
        exact w_X8_buyer_19 X rc3 hrc3 h Y  (lv_sub hl [0, 1, 2, 3] rfl)
      · have h := ite_f h c3
        refine lv_iconst (v := 1) hx hb dX8_buyer_15 (by decide) ?_
        refine lv_goto (tgt := 20) hx hb dX8_buyer_16 (by decide) ?_
        exact w_X8_buyer_20 X rc3 hrc3 h Y  (lv_sub hl [0, 1, 2, 3] rfl)
theorem w_X8_buyer_3 (X : Cx g p s m args meth c cX8_buyer 5 RX8 none) {x1 : Int32} {x2 : Int32}  {st9 : Sg}   : ∀ (k : Nat) (x3 : Int32) (st : Sg) (ls : Array Slot) (H : Heap) (locs : List Loc), X8_buyer_3 x1 x2 k x3 st = some st9 → Hp g nwM (ceM g) A s.heap st H locs → lv_has ls 5 [(0, .ref (g.2.1 0)), (1, .int x1), (2, .int x2), (3, .int x3)] → W p l e rm_X8_buyer s m args below meth c H locs 0 0 (MQ below (QV g nwM (ceM g) A st9) args s 0 0 A) (F0 m 3 ls []) := by
  intro k
  induction k with
  | zero =>
    intro x3 st ls H locs h
    exact none_s h
  | succ k ih =>
    intro x3 st ls H locs h Y hl
    exact w_X8_buyer_3b X  (X8_buyer_3 x1 x2 k) ih h Y  hl
set_option maxHeartbeats 4000000 in
set_option maxRecDepth 100000 in
theorem w_X8_buyer (X : Cx g p s m args meth c cX8_buyer 5 RX8 none) {x1 : Int32} {x2 : Int32} {st : Sg} {st9 : Sg}  (h : X8_buyer x1 x2 st = some st9) (Y : Hp g nwM (ceM g) A s.heap st H locs)  (hl : lv_has ls 5 [(0, .ref (g.2.1 0)), (1, .int x1), (2, .int x2)]) : W p l e rm_X8_buyer s m args below meth c H locs 0 0 (MQ below (QV g nwM (ceM g) A st9) args s 0 0 A) (F0 m 0 ls []) := by
  have hx := X.1
  have hb := X.2.1
  unfold X8_buyer at h
  refine lv_bipush (v := 12) hx hb dX8_buyer_0 (by decide) ?_
  refine lv_istore_n (lv' := [(3, .int 12), (0, .ref (g.2.1 0)), (1, .int x1), (2, .int x2)]) hx hb dX8_buyer_2 rfl hl (by decide) rfl (fun ls hl => ?_)
  exact w_X8_buyer_3 X   FU 12 st _ _ _ h Y (lv_sub hl [1, 2, 3, 0] rfl)
theorem c_X8_buyer (l : Launch) {g : Gx} {x1 : Int32} {x2 : Int32} {st : Sg} {st9 : Sg} (h : X8_buyer x1 x2 st = some st9) : MetV l yX8_buyer cX8_buyer 5 none rm_X8_buyer g nwM (ceM g) [.ref (g.2.1 0), .int x1, .int x2] st st9 :=
  met_of (Qc := fun A => QV g nwM (ceM g) A st9) (by decide) (Nat.le_of_ble_eq_true rfl) (fun p e s m below meth c A ls X Y hl => w_X8_buyer X h Y hl)
def X8_dayAt_32  (rc7 : Int32 → Sg → Option Sg) (k1 : Int32) (x1 : Int32) (x2 : Int32) (x3 : Int32) (st : Sg) : Option Sg :=
  bnd1 (X8_buyer k1 x2 st) fun st2 =>
  nm (x3 + (-1)) fun v3 =>
  rc7 v3 st2
def X8_dayAt_42    (st : Sg) : Option Sg :=
  some st
def X8_dayAt_7b  (rc7 : Int32 → Sg → Option Sg) (x1 : Int32) (x2 : Int32) (x3 : Int32) (st : Sg) : Option Sg :=
  if x3 < (0 : Int32) then
    X8_dayAt_42 st
  else
    bnd1 (X8_worthOf x3 x1 st) fun v3 =>
    if v3 < x2 then
      X8_dayAt_32 rc7 0 x1 x2 x3 st
    else
      cix x3 3 <|
      X8_dayAt_32 rc7 (st.1 2 x3.toNatClampNeg) x1 x2 x3 st
def X8_dayAt_7   (x1 : Int32) (x2 : Int32) : Nat → Int32 → Sg → Option Sg
  | 0, _, _ => none
  | k + 1, x3, st => X8_dayAt_7b   (X8_dayAt_7 x1 x2 k) x1 x2 x3 st
def X8_dayAt   (x1 : Int32) (x2 : Int32) (st : Sg) : Option Sg :=
  nm ((st.1 0 9) - 1) fun v1 =>
  X8_dayAt_7 x1 x2 FU v1 st
abbrev rm_X8_dayAt : Room := { frames := 1, cells := 0, slots := 0, locals := 24 }
set_option maxHeartbeats 4000000 in
set_option maxRecDepth 100000 in
theorem w_X8_dayAt_32 (X : Cx g p s m args meth c cX8_dayAt 4 RX8 none) {k1 : Int32} {x1 : Int32} {x2 : Int32} {x3 : Int32} {st : Sg} {st9 : Sg} (rc7 : Int32 → Sg → Option Sg) (hrc7 : ∀ (x3 : Int32) (st : Sg) (ls : Array Slot) (H : Heap) (locs : List Loc), rc7 x3 st = some st9 → Hp g nwM (ceM g) A s.heap st H locs → lv_has ls 4 [(0, .ref (g.2.1 0)), (1, .int x1), (2, .int x2), (3, .int x3)] → W p l e rm_X8_dayAt s m args below meth c H locs 0 0 (MQ below (QV g nwM (ceM g) A st9) args s 0 0 A) (F0 m 7 ls [])) (h : X8_dayAt_32 rc7 k1 x1 x2 x3 st = some st9) (Y : Hp g nwM (ceM g) A s.heap st H locs)  (hl : lv_has ls 4 [(0, .ref (g.2.1 0)), (1, .int x1), (2, .int x2), (3, .int x3)]) : W p l e rm_X8_dayAt s m args below meth c H locs 0 0 (MQ below (QV g nwM (ceM g) A st9) args s 0 0 A) (F0 m 32 ls [.int k1, .ref (g.2.1 0)]) := by
  have hx := X.1
  have hb := X.2.1
  unfold X8_dayAt_32 at h
  refine lv_iload_n hx hb dX8_dayAt_32 rfl (lv_at hl 2 rfl) ?_
  obtain ⟨st2, hc1, h⟩ := bnd1_s h
  refine k_cV Y (k_runV (As := [.int k1, .int x2]) (rest := []) (o := 0) X Y cl_8_124 (c_X8_buyer l hc1 _) ⟨rfl, rfl, Nat.le_of_ble_eq_true rfl, Nat.le_of_ble_eq_true rfl⟩ (Nat.le_of_ble_eq_true rfl) rfl rfl hl.1 rfl (Nat.le_of_ble_eq_true rfl) dX8_dayAt_33 ⟨Nat.zero_le _, Nat.zero_le _⟩) (fun H locs Y => ?_)
  obtain ⟨v3, ev3, h⟩ := nm_s h
  refine lv_iinc (v := v3) (lv' := [(3, .int v3), (0, .ref (g.2.1 0)), (1, .int x1), (2, .int x2)]) hx hb dX8_dayAt_36 hl (k := 3) rfl (by rw [ev3]; rfl) (by decide) rfl (fun ls hl => ?_)
  refine lv_goto (tgt := 7) hx hb dX8_dayAt_39 (by decide) ?_
  exact hrc7 v3 st2 _ _ _ h Y (lv_sub hl [1, 2, 3, 0] rfl)
set_option maxHeartbeats 4000000 in
set_option maxRecDepth 100000 in
theorem w_X8_dayAt_42 (X : Cx g p s m args meth c cX8_dayAt 4 RX8 none)  {st : Sg} {st9 : Sg}  (h : X8_dayAt_42 st = some st9) (Y : Hp g nwM (ceM g) A s.heap st H locs)  (hl : lv_has ls 4 []) : W p l e rm_X8_dayAt s m args below meth c H locs 0 0 (MQ below (QV g nwM (ceM g) A st9) args s 0 0 A) (F0 m 42 ls []) := by
  have hx := X.1
  have hb := X.2.1
  unfold X8_dayAt_42 at h
  exact k_vretW X Y h dX8_dayAt_42
set_option maxHeartbeats 4000000 in
set_option maxRecDepth 100000 in
theorem w_X8_dayAt_7b (X : Cx g p s m args meth c cX8_dayAt 4 RX8 none) {x1 : Int32} {x2 : Int32} {x3 : Int32} {st : Sg} {st9 : Sg} (rc7 : Int32 → Sg → Option Sg) (hrc7 : ∀ (x3 : Int32) (st : Sg) (ls : Array Slot) (H : Heap) (locs : List Loc), rc7 x3 st = some st9 → Hp g nwM (ceM g) A s.heap st H locs → lv_has ls 4 [(0, .ref (g.2.1 0)), (1, .int x1), (2, .int x2), (3, .int x3)] → W p l e rm_X8_dayAt s m args below meth c H locs 0 0 (MQ below (QV g nwM (ceM g) A st9) args s 0 0 A) (F0 m 7 ls [])) (h : X8_dayAt_7b rc7 x1 x2 x3 st = some st9) (Y : Hp g nwM (ceM g) A s.heap st H locs)  (hl : lv_has ls 4 [(0, .ref (g.2.1 0)), (1, .int x1), (2, .int x2), (3, .int x3)]) : W p l e rm_X8_dayAt s m args below meth c H locs 0 0 (MQ below (QV g nwM (ceM g) A st9) args s 0 0 A) (F0 m 7 ls []) := by
  have hx := X.1
  have hb := X.2.1
  unfold X8_dayAt_7b at h
  refine lv_iload_n hx hb dX8_dayAt_7 rfl (lv_at hl 3 rfl) ?_
  refine lv_if_lt (tgt := 42) hx hb dX8_dayAt_8 (by decide) (fun c1 => ?_) (fun c1 => ?_)
  · have h := ite_t h c1
    exact w_X8_dayAt_42 X  h Y  (lv_sub hl [] rfl)
  · have h := ite_f h c1
    refine lv_aload_n hx hb dX8_dayAt_11 rfl (lv_at hl 0 rfl) ?_
    refine lv_aload_n hx hb dX8_dayAt_12 rfl (lv_at hl 0 rfl) ?_
    refine lv_iload_n hx hb dX8_dayAt_13 rfl (lv_at hl 3 rfl) ?_
    refine lv_iload_n hx hb dX8_dayAt_14 rfl (lv_at hl 1 rfl) ?_
    obtain ⟨v3, hc2, h⟩ := bnd1_s h
    refine k_cI Y (k_runV (As := [.int x3, .int x1]) (rest := [.ref (g.2.1 0)]) (o := 0) X Y cl_8_116 (c_X8_worthOf l hc2 _) ⟨rfl, rfl, Nat.le_of_ble_eq_true rfl, Nat.le_of_ble_eq_true rfl⟩ (Nat.le_of_ble_eq_true rfl) rfl rfl hl.1 rfl (Nat.le_of_ble_eq_true rfl) dX8_dayAt_15 ⟨Nat.zero_le _, Nat.zero_le _⟩) (fun H locs Y => ?_)
    refine lv_iload_n hx hb dX8_dayAt_18 rfl (lv_at hl 2 rfl) ?_
    refine lv_icmp_lt (tgt := 31) hx hb dX8_dayAt_19 (by decide) (fun c4 => ?_) (fun c4 => ?_)
    · have h := ite_t h c4
      refine lv_iconst (v := 0) hx hb dX8_dayAt_31 (by decide) ?_
      exact w_X8_dayAt_32 X rc7 hrc7 h Y  (lv_sub hl [0, 1, 2, 3] rfl)
    · have h := ite_f h c4
      refine lv_aload_n hx hb dX8_dayAt_22 rfl (lv_at hl 0 rfl) ?_
      refine k_get (v := .ref (g.2.1 2)) X Y fl_8_13 0 (Nat.le_of_ble_eq_true rfl) rfl rfl dX8_dayAt_23 ?_
      refine lv_iload_n hx hb dX8_dayAt_26 rfl (lv_at hl 3 rfl) ?_
      obtain ⟨i5, h⟩ := cix_s h
      refine k_iald X Y 2 (Nat.le_of_ble_eq_true rfl) (fun _ _ => rfl) i5 dX8_dayAt_27 ?_
      refine lv_goto (tgt := 32) hx hb dX8_dayAt_28 (by decide) ?_
      exact w_X8_dayAt_32 X rc7 hrc7 h Y  (lv_sub hl [0, 1, 2, 3] rfl)
theorem w_X8_dayAt_7 (X : Cx g p s m args meth c cX8_dayAt 4 RX8 none) {x1 : Int32} {x2 : Int32}  {st9 : Sg}   : ∀ (k : Nat) (x3 : Int32) (st : Sg) (ls : Array Slot) (H : Heap) (locs : List Loc), X8_dayAt_7 x1 x2 k x3 st = some st9 → Hp g nwM (ceM g) A s.heap st H locs → lv_has ls 4 [(0, .ref (g.2.1 0)), (1, .int x1), (2, .int x2), (3, .int x3)] → W p l e rm_X8_dayAt s m args below meth c H locs 0 0 (MQ below (QV g nwM (ceM g) A st9) args s 0 0 A) (F0 m 7 ls []) := by
  intro k
  induction k with
  | zero =>
    intro x3 st ls H locs h
    exact none_s h
  | succ k ih =>
    intro x3 st ls H locs h Y hl
    exact w_X8_dayAt_7b X  (X8_dayAt_7 x1 x2 k) ih h Y  hl
set_option maxHeartbeats 4000000 in
set_option maxRecDepth 100000 in
theorem w_X8_dayAt (X : Cx g p s m args meth c cX8_dayAt 4 RX8 none) {x1 : Int32} {x2 : Int32} {st : Sg} {st9 : Sg}  (h : X8_dayAt x1 x2 st = some st9) (Y : Hp g nwM (ceM g) A s.heap st H locs)  (hl : lv_has ls 4 [(0, .ref (g.2.1 0)), (1, .int x1), (2, .int x2)]) : W p l e rm_X8_dayAt s m args below meth c H locs 0 0 (MQ below (QV g nwM (ceM g) A st9) args s 0 0 A) (F0 m 0 ls []) := by
  have hx := X.1
  have hb := X.2.1
  unfold X8_dayAt at h
  refine lv_aload_n hx hb dX8_dayAt_0 rfl (lv_at hl 0 rfl) ?_
  refine k_get (v := .int (st.1 0 9)) X Y fl_8_103 0 (Nat.le_of_ble_eq_true rfl) rfl rfl dX8_dayAt_1 ?_
  refine lv_iconst (v := 1) hx hb dX8_dayAt_4 (by decide) ?_
  refine lv_isub hx hb dX8_dayAt_5 ?_
  obtain ⟨v1, ev1, h⟩ := nm_s h
  refine k_nmI ev1 ?_
  refine lv_istore_n (lv' := [(3, .int v1), (0, .ref (g.2.1 0)), (1, .int x1), (2, .int x2)]) hx hb dX8_dayAt_6 rfl hl (by decide) rfl (fun ls hl => ?_)
  exact w_X8_dayAt_7 X   FU v1 st _ _ _ h Y (lv_sub hl [1, 2, 3, 0] rfl)
theorem c_X8_dayAt (l : Launch) {g : Gx} {x1 : Int32} {x2 : Int32} {st : Sg} {st9 : Sg} (h : X8_dayAt x1 x2 st = some st9) : MetV l yX8_dayAt cX8_dayAt 4 none rm_X8_dayAt g nwM (ceM g) [.ref (g.2.1 0), .int x1, .int x2] st st9 :=
  met_of (Qc := fun A => QV g nwM (ceM g) A st9) (by decide) (Nat.le_of_ble_eq_true rfl) (fun p e s m below meth c A ls X Y hl => w_X8_dayAt X h Y hl)
def X8_findBest_198  (rc24 : Int64 → Int32 → Sg → Option Sg) (rc76 : Int32 → Sg → Option Sg) (rc135 : Int32 → Sg → Option Sg) (x1 : Int64) (x3 : Int32) (x4 : Int32) (x5 : Int32) (st : Sg) : Option Sg :=
  nm (x5 + 1) fun v1 =>
  rc135 v1 st
def X8_findBest_204  (rc24 : Int64 → Int32 → Sg → Option Sg) (rc76 : Int32 → Sg → Option Sg) (x1 : Int64) (x3 : Int32) (x4 : Int32) (st : Sg) : Option Sg :=
  nm (x4 + 1) fun v1 =>
  rc76 v1 st
def X8_findBest_135b  (rc24 : Int64 → Int32 → Sg → Option Sg) (rc76 : Int32 → Sg → Option Sg) (rc135 : Int32 → Sg → Option Sg) (x1 : Int64) (x3 : Int32) (x4 : Int32) (x5 : Int32) (st : Sg) : Option Sg :=
  if (12 : Int32) < x5 then
    X8_findBest_204 rc24 rc76 x1 x3 x4 st
  else
    cix x5 13 <|
    cix ((13 * x3) + x5) 91 <|
    if (lg_cmp (st.2 7 x5.toNatClampNeg) (st.2 8 ((13 * x3) + x5).toNatClampNeg)) ≤ (0 : Int32) then
      X8_findBest_198 rc24 rc76 rc135 x1 x3 x4 x5 st
    else
      cix x5 13 <|
      cix ((13 * x3) + x5) 91 <|
      nm (sJ st 8 ((13 * x3) + x5).toNatClampNeg (st.2 7 x5.toNatClampNeg)) fun st7 =>
      cix ((13 * x3) + x5) 78 <|
      nm (sI st7 9 ((13 * x3) + x5).toNatClampNeg x4) fun st9 =>
      X8_findBest_198 rc24 rc76 rc135 x1 x3 x4 x5 st9
def X8_findBest_135  (rc24 : Int64 → Int32 → Sg → Option Sg) (rc76 : Int32 → Sg → Option Sg) (x1 : Int64) (x3 : Int32) (x4 : Int32) : Nat → Int32 → Sg → Option Sg
  | 0, _, _ => none
  | k + 1, x5, st => X8_findBest_135b  rc24 rc76 (X8_findBest_135 rc24 rc76 x1 x3 x4 k) x1 x3 x4 x5 st
def X8_findBest_120  (rc24 : Int64 → Int32 → Sg → Option Sg) (rc76 : Int32 → Sg → Option Sg) (x1 : Int64) (x3 : Int32) (x4 : Int32) (st : Sg) : Option Sg :=
  cix x4 5 <|
  bnd1 (X8_dayAt x3 (st.1 1 x4.toNatClampNeg) st) fun st3 =>
  X8_findBest_135 rc24 rc76 x1 x3 x4 FU 0 st3
def X8_findBest_93b  (rc24 : Int64 → Int32 → Sg → Option Sg) (rc76 : Int32 → Sg → Option Sg) (rc93 : Int32 → Sg → Option Sg) (x1 : Int64) (x3 : Int32) (x4 : Int32) (x5 : Int32) (st : Sg) : Option Sg :=
  if (12 : Int32) < x5 then
    X8_findBest_120 rc24 rc76 x1 x3 x4 st
  else
    cix x5 13 <|
    cix x5 13 <|
    nm (sJ st 7 x5.toNatClampNeg (st.2 10 x5.toNatClampNeg)) fun st4 =>
    nm (x5 + 1) fun v5 =>
    rc93 v5 st4
def X8_findBest_93  (rc24 : Int64 → Int32 → Sg → Option Sg) (rc76 : Int32 → Sg → Option Sg) (x1 : Int64) (x3 : Int32) (x4 : Int32) : Nat → Int32 → Sg → Option Sg
  | 0, _, _ => none
  | k + 1, x5, st => X8_findBest_93b  rc24 rc76 (X8_findBest_93 rc24 rc76 x1 x3 x4 k) x1 x3 x4 x5 st
def X8_findBest_245  (rc24 : Int64 → Int32 → Sg → Option Sg) (x3 : Int32) (st : Sg) : Option Sg :=
  nm (st.2 0 12) fun v1 =>
  nm (x3 + (-1)) fun v2 =>
  rc24 v1 v2 st
def X8_findBest_213b  (rc24 : Int64 → Int32 → Sg → Option Sg) (rc213 : Int32 → Sg → Option Sg) (x3 : Int32) (x4 : Int32) (st : Sg) : Option Sg :=
  if (12 : Int32) < x4 then
    X8_findBest_245 rc24 x3 st
  else
    cix ((13 * x3) + x4) 91 <|
    cix x4 13 <|
    nm (sJ st 7 x4.toNatClampNeg (st.2 8 ((13 * x3) + x4).toNatClampNeg)) fun st4 =>
    nm (x4 + 1) fun v5 =>
    rc213 v5 st4
def X8_findBest_213  (rc24 : Int64 → Int32 → Sg → Option Sg) (x3 : Int32) : Nat → Int32 → Sg → Option Sg
  | 0, _, _ => none
  | k + 1, x4, st => X8_findBest_213b  rc24 (X8_findBest_213 rc24 x3 k) x3 x4 st
def X8_findBest_210  (rc24 : Int64 → Int32 → Sg → Option Sg) (x3 : Int32) (st : Sg) : Option Sg :=
  X8_findBest_213 rc24 x3 FU 0 st
def X8_findBest_76b  (rc24 : Int64 → Int32 → Sg → Option Sg) (rc76 : Int32 → Sg → Option Sg) (x1 : Int64) (x3 : Int32) (x4 : Int32) (st : Sg) : Option Sg :=
  if (st.1 0 4) ≤ x4 then
    X8_findBest_210 rc24 x3 st
  else
    nm (sJ st 0 12 x1) fun st2 =>
    X8_findBest_93 rc24 rc76 x1 x3 x4 FU 0 st2
def X8_findBest_76  (rc24 : Int64 → Int32 → Sg → Option Sg) (x1 : Int64) (x3 : Int32) : Nat → Int32 → Sg → Option Sg
  | 0, _, _ => none
  | k + 1, x4, st => X8_findBest_76b  rc24 (X8_findBest_76 rc24 x1 x3 k) x1 x3 x4 st
def X8_findBest_73  (rc24 : Int64 → Int32 → Sg → Option Sg) (x1 : Int64) (x3 : Int32) (st : Sg) : Option Sg :=
  X8_findBest_76 rc24 x1 x3 FU 0 st
def X8_findBest_31b  (rc24 : Int64 → Int32 → Sg → Option Sg) (rc31 : Int32 → Sg → Option Sg) (x1 : Int64) (x3 : Int32) (x4 : Int32) (st : Sg) : Option Sg :=
  if (12 : Int32) < x4 then
    X8_findBest_73 rc24 x1 x3 st
  else
    cix x4 13 <|
    cix x4 13 <|
    nm (sJ st 10 x4.toNatClampNeg (st.2 7 x4.toNatClampNeg)) fun st4 =>
    cix ((13 * x3) + x4) 91 <|
    nm (sJ st4 8 ((13 * x3) + x4).toNatClampNeg (-1)) fun st6 =>
    nm (x4 + 1) fun v7 =>
    rc31 v7 st6
def X8_findBest_31  (rc24 : Int64 → Int32 → Sg → Option Sg) (x1 : Int64) (x3 : Int32) : Nat → Int32 → Sg → Option Sg
  | 0, _, _ => none
  | k + 1, x4, st => X8_findBest_31b  rc24 (X8_findBest_31 rc24 x1 x3 k) x1 x3 x4 st
def X8_findBest_256    (st : Sg) : Option Sg :=
  some st
def X8_findBest_24b  (rc24 : Int64 → Int32 → Sg → Option Sg) (x1 : Int64) (x3 : Int32) (st : Sg) : Option Sg :=
  if x3 < (0 : Int32) then
    X8_findBest_256 st
  else
    X8_findBest_31 rc24 x1 x3 FU 0 st
def X8_findBest_24    : Nat → Int64 → Int32 → Sg → Option Sg
  | 0, _, _, _ => none
  | k + 1, x1, x3, st => X8_findBest_24b   (X8_findBest_24 k) x1 x3 st
def X8_findBest    (st : Sg) : Option Sg :=
  bnd1 (X8_beginEnd st) fun st2 =>
  nm (st2.2 0 12) fun v3 =>
  bnd1 (X8_keepRow (st2.1 0 1) st2) fun st5 =>
  nm ((st5.1 0 1) - 1) fun v6 =>
  X8_findBest_24 FU v3 v6 st5
abbrev rm_X8_findBest : Room := { frames := 2, cells := 0, slots := 0, locals := 47 }
set_option maxHeartbeats 4000000 in
set_option maxRecDepth 100000 in
theorem w_X8_findBest_198 (X : Cx g p s m args meth c cX8_findBest 6 RX8 none) {x1 : Int64} {x3 : Int32} {x4 : Int32} {x5 : Int32} {st : Sg} {st9 : Sg} (rc24 : Int64 → Int32 → Sg → Option Sg) (hrc24 : ∀ (x1 : Int64) (x3 : Int32) (st : Sg) (ls : Array Slot) (H : Heap) (locs : List Loc), rc24 x1 x3 st = some st9 → Hp g nwM (ceM g) A s.heap st H locs → lv_has ls 6 [(0, .ref (g.2.1 0)), (1, .long x1), (3, .int x3)] → W p l e rm_X8_findBest s m args below meth c H locs 0 0 (MQ below (QV g nwM (ceM g) A st9) args s 0 0 A) (F0 m 24 ls [])) (rc76 : Int32 → Sg → Option Sg) (hrc76 : ∀ (x4 : Int32) (st : Sg) (ls : Array Slot) (H : Heap) (locs : List Loc), rc76 x4 st = some st9 → Hp g nwM (ceM g) A s.heap st H locs → lv_has ls 6 [(0, .ref (g.2.1 0)), (1, .long x1), (3, .int x3), (4, .int x4)] → W p l e rm_X8_findBest s m args below meth c H locs 0 0 (MQ below (QV g nwM (ceM g) A st9) args s 0 0 A) (F0 m 76 ls [])) (rc135 : Int32 → Sg → Option Sg) (hrc135 : ∀ (x5 : Int32) (st : Sg) (ls : Array Slot) (H : Heap) (locs : List Loc), rc135 x5 st = some st9 → Hp g nwM (ceM g) A s.heap st H locs → lv_has ls 6 [(0, .ref (g.2.1 0)), (1, .long x1), (3, .int x3), (4, .int x4), (5, .int x5)] → W p l e rm_X8_findBest s m args below meth c H locs 0 0 (MQ below (QV g nwM (ceM g) A st9) args s 0 0 A) (F0 m 135 ls [])) (h : X8_findBest_198 rc24 rc76 rc135 x1 x3 x4 x5 st = some st9) (Y : Hp g nwM (ceM g) A s.heap st H locs)  (hl : lv_has ls 6 [(0, .ref (g.2.1 0)), (1, .long x1), (3, .int x3), (4, .int x4), (5, .int x5)]) : W p l e rm_X8_findBest s m args below meth c H locs 0 0 (MQ below (QV g nwM (ceM g) A st9) args s 0 0 A) (F0 m 198 ls []) := by
  have hx := X.1
  have hb := X.2.1
  unfold X8_findBest_198 at h
  obtain ⟨v1, ev1, h⟩ := nm_s h
  refine lv_iinc (v := v1) (lv' := [(5, .int v1), (0, .ref (g.2.1 0)), (1, .long x1), (3, .int x3), (4, .int x4)]) hx hb dX8_findBest_198 hl (k := 4) rfl (by rw [ev1]; rfl) (by decide) rfl (fun ls hl => ?_)
  refine lv_goto (tgt := 135) hx hb dX8_findBest_201 (by decide) ?_
  exact hrc135 v1 st _ _ _ h Y (lv_sub hl [1, 2, 3, 4, 0] rfl)
set_option maxHeartbeats 4000000 in
set_option maxRecDepth 100000 in
theorem w_X8_findBest_204 (X : Cx g p s m args meth c cX8_findBest 6 RX8 none) {x1 : Int64} {x3 : Int32} {x4 : Int32} {st : Sg} {st9 : Sg} (rc24 : Int64 → Int32 → Sg → Option Sg) (hrc24 : ∀ (x1 : Int64) (x3 : Int32) (st : Sg) (ls : Array Slot) (H : Heap) (locs : List Loc), rc24 x1 x3 st = some st9 → Hp g nwM (ceM g) A s.heap st H locs → lv_has ls 6 [(0, .ref (g.2.1 0)), (1, .long x1), (3, .int x3)] → W p l e rm_X8_findBest s m args below meth c H locs 0 0 (MQ below (QV g nwM (ceM g) A st9) args s 0 0 A) (F0 m 24 ls [])) (rc76 : Int32 → Sg → Option Sg) (hrc76 : ∀ (x4 : Int32) (st : Sg) (ls : Array Slot) (H : Heap) (locs : List Loc), rc76 x4 st = some st9 → Hp g nwM (ceM g) A s.heap st H locs → lv_has ls 6 [(0, .ref (g.2.1 0)), (1, .long x1), (3, .int x3), (4, .int x4)] → W p l e rm_X8_findBest s m args below meth c H locs 0 0 (MQ below (QV g nwM (ceM g) A st9) args s 0 0 A) (F0 m 76 ls [])) (h : X8_findBest_204 rc24 rc76 x1 x3 x4 st = some st9) (Y : Hp g nwM (ceM g) A s.heap st H locs)  (hl : lv_has ls 6 [(0, .ref (g.2.1 0)), (1, .long x1), (3, .int x3), (4, .int x4)]) : W p l e rm_X8_findBest s m args below meth c H locs 0 0 (MQ below (QV g nwM (ceM g) A st9) args s 0 0 A) (F0 m 204 ls []) := by
  have hx := X.1
  have hb := X.2.1
  unfold X8_findBest_204 at h
  obtain ⟨v1, ev1, h⟩ := nm_s h
  refine lv_iinc (v := v1) (lv' := [(4, .int v1), (0, .ref (g.2.1 0)), (1, .long x1), (3, .int x3)]) hx hb dX8_findBest_204 hl (k := 3) rfl (by rw [ev1]; rfl) (by decide) rfl (fun ls hl => ?_)
  refine lv_goto (tgt := 76) hx hb dX8_findBest_207 (by decide) ?_
  exact hrc76 v1 st _ _ _ h Y (lv_sub hl [1, 2, 3, 0] rfl)
set_option maxHeartbeats 4000000 in
set_option maxRecDepth 100000 in
theorem w_X8_findBest_135b (X : Cx g p s m args meth c cX8_findBest 6 RX8 none) {x1 : Int64} {x3 : Int32} {x4 : Int32} {x5 : Int32} {st : Sg} {st9 : Sg} (rc24 : Int64 → Int32 → Sg → Option Sg) (hrc24 : ∀ (x1 : Int64) (x3 : Int32) (st : Sg) (ls : Array Slot) (H : Heap) (locs : List Loc), rc24 x1 x3 st = some st9 → Hp g nwM (ceM g) A s.heap st H locs → lv_has ls 6 [(0, .ref (g.2.1 0)), (1, .long x1), (3, .int x3)] → W p l e rm_X8_findBest s m args below meth c H locs 0 0 (MQ below (QV g nwM (ceM g) A st9) args s 0 0 A) (F0 m 24 ls [])) (rc76 : Int32 → Sg → Option Sg) (hrc76 : ∀ (x4 : Int32) (st : Sg) (ls : Array Slot) (H : Heap) (locs : List Loc), rc76 x4 st = some st9 → Hp g nwM (ceM g) A s.heap st H locs → lv_has ls 6 [(0, .ref (g.2.1 0)), (1, .long x1), (3, .int x3), (4, .int x4)] → W p l e rm_X8_findBest s m args below meth c H locs 0 0 (MQ below (QV g nwM (ceM g) A st9) args s 0 0 A) (F0 m 76 ls [])) (rc135 : Int32 → Sg → Option Sg) (hrc135 : ∀ (x5 : Int32) (st : Sg) (ls : Array Slot) (H : Heap) (locs : List Loc), rc135 x5 st = some st9 → Hp g nwM (ceM g) A s.heap st H locs → lv_has ls 6 [(0, .ref (g.2.1 0)), (1, .long x1), (3, .int x3), (4, .int x4), (5, .int x5)] → W p l e rm_X8_findBest s m args below meth c H locs 0 0 (MQ below (QV g nwM (ceM g) A st9) args s 0 0 A) (F0 m 135 ls [])) (h : X8_findBest_135b rc24 rc76 rc135 x1 x3 x4 x5 st = some st9) (Y : Hp g nwM (ceM g) A s.heap st H locs)  (hl : lv_has ls 6 [(0, .ref (g.2.1 0)), (1, .long x1), (3, .int x3), (4, .int x4), (5, .int x5)]) : W p l e rm_X8_findBest s m args below meth c H locs 0 0 (MQ below (QV g nwM (ceM g) A st9) args s 0 0 A) (F0 m 135 ls []) := by
  have hx := X.1
  have hb := X.2.1
  unfold X8_findBest_135b at h
  refine lv_iload hx hb dX8_findBest_135 (lv_at hl 4 rfl) ?_
  refine lv_bipush (v := 12) hx hb dX8_findBest_137 (by decide) ?_
  refine lv_icmp_gt (tgt := 204) hx hb dX8_findBest_139 (by decide) (fun c1 => ?_) (fun c1 => ?_)
  · have h := ite_t h c1
    exact w_X8_findBest_204 X rc24 hrc24 rc76 hrc76 h Y  (lv_sub hl [0, 1, 2, 3] rfl)
  · have h := ite_f h c1
    refine lv_aload_n hx hb dX8_findBest_142 rfl (lv_at hl 0 rfl) ?_
    refine k_get (v := .ref (g.2.1 7)) X Y fl_8_28 0 (Nat.le_of_ble_eq_true rfl) rfl rfl dX8_findBest_143 ?_
    refine lv_iload hx hb dX8_findBest_146 (lv_at hl 4 rfl) ?_
    obtain ⟨i2, h⟩ := cix_s h
    refine k_lald X Y 7 (Nat.le_of_ble_eq_true rfl) (fun _ _ => rfl) i2 dX8_findBest_148 ?_
    refine lv_aload_n hx hb dX8_findBest_149 rfl (lv_at hl 0 rfl) ?_
    refine k_get (v := .ref (g.2.1 8)) X Y fl_8_32 0 (Nat.le_of_ble_eq_true rfl) rfl rfl dX8_findBest_150 ?_
    refine lv_bipush (v := 13) hx hb dX8_findBest_153 (by decide) ?_
    refine lv_iload_n hx hb dX8_findBest_155 rfl (lv_at hl 2 rfl) ?_
    refine lv_imul hx hb dX8_findBest_156 ?_
    refine lv_iload hx hb dX8_findBest_157 (lv_at hl 4 rfl) ?_
    refine lv_iadd hx hb dX8_findBest_159 ?_
    obtain ⟨i3, h⟩ := cix_s h
    refine k_lald X Y 8 (Nat.le_of_ble_eq_true rfl) (fun _ _ => rfl) i3 dX8_findBest_160 ?_
    refine W.lcmp hx hb dX8_findBest_161 ?_
    refine lv_if_le (tgt := 198) hx hb dX8_findBest_162 (by decide) (fun c4 => ?_) (fun c4 => ?_)
    · have h := ite_t h c4
      exact w_X8_findBest_198 X rc24 hrc24 rc76 hrc76 rc135 hrc135 h Y  (lv_sub hl [0, 1, 2, 3, 4] rfl)
    · have h := ite_f h c4
      refine lv_aload_n hx hb dX8_findBest_165 rfl (lv_at hl 0 rfl) ?_
      refine k_get (v := .ref (g.2.1 8)) X Y fl_8_32 0 (Nat.le_of_ble_eq_true rfl) rfl rfl dX8_findBest_166 ?_
      refine lv_bipush (v := 13) hx hb dX8_findBest_169 (by decide) ?_
      refine lv_iload_n hx hb dX8_findBest_171 rfl (lv_at hl 2 rfl) ?_
      refine lv_imul hx hb dX8_findBest_172 ?_
      refine lv_iload hx hb dX8_findBest_173 (lv_at hl 4 rfl) ?_
      refine lv_iadd hx hb dX8_findBest_175 ?_
      refine lv_aload_n hx hb dX8_findBest_176 rfl (lv_at hl 0 rfl) ?_
      refine k_get (v := .ref (g.2.1 7)) X Y fl_8_28 0 (Nat.le_of_ble_eq_true rfl) rfl rfl dX8_findBest_177 ?_
      refine lv_iload hx hb dX8_findBest_180 (lv_at hl 4 rfl) ?_
      obtain ⟨i5, h⟩ := cix_s h
      refine k_lald X Y 7 (Nat.le_of_ble_eq_true rfl) (fun _ _ => rfl) i5 dX8_findBest_182 ?_
      obtain ⟨i6, h⟩ := cix_s h
      refine k_last X Y 8 (Nat.le_of_ble_eq_true rfl) (fun _ _ => rfl) i6 dX8_findBest_183 (fun H locs Y => ?_)
      obtain ⟨st7, est7, h⟩ := nm_s h
      have Y : Hp g nwM (ceM g) A s.heap st7 H locs := by rw [est7]; exact Y
      refine lv_aload_n hx hb dX8_findBest_184 rfl (lv_at hl 0 rfl) ?_
      refine k_get (v := .ref (g.2.1 9)) X Y fl_8_35 0 (Nat.le_of_ble_eq_true rfl) rfl rfl dX8_findBest_185 ?_
      refine lv_bipush (v := 13) hx hb dX8_findBest_188 (by decide) ?_
      refine lv_iload_n hx hb dX8_findBest_190 rfl (lv_at hl 2 rfl) ?_
      refine lv_imul hx hb dX8_findBest_191 ?_
      refine lv_iload hx hb dX8_findBest_192 (lv_at hl 4 rfl) ?_
      refine lv_iadd hx hb dX8_findBest_194 ?_
      refine lv_iload hx hb dX8_findBest_195 (lv_at hl 3 rfl) ?_
      obtain ⟨i8, h⟩ := cix_s h
      refine k_iast X Y 9 (Nat.le_of_ble_eq_true rfl) (fun _ _ => rfl) i8 dX8_findBest_197 (fun H locs Y => ?_)
      obtain ⟨st9, est9, h⟩ := nm_s h
      have Y : Hp g nwM (ceM g) A s.heap st9 H locs := by rw [est9]; exact Y
      exact w_X8_findBest_198 X rc24 hrc24 rc76 hrc76 rc135 hrc135 h Y  (lv_sub hl [0, 1, 2, 3, 4] rfl)
theorem w_X8_findBest_135 (X : Cx g p s m args meth c cX8_findBest 6 RX8 none) {x1 : Int64} {x3 : Int32} {x4 : Int32}  {st9 : Sg} (rc24 : Int64 → Int32 → Sg → Option Sg) (hrc24 : ∀ (x1 : Int64) (x3 : Int32) (st : Sg) (ls : Array Slot) (H : Heap) (locs : List Loc), rc24 x1 x3 st = some st9 → Hp g nwM (ceM g) A s.heap st H locs → lv_has ls 6 [(0, .ref (g.2.1 0)), (1, .long x1), (3, .int x3)] → W p l e rm_X8_findBest s m args below meth c H locs 0 0 (MQ below (QV g nwM (ceM g) A st9) args s 0 0 A) (F0 m 24 ls [])) (rc76 : Int32 → Sg → Option Sg) (hrc76 : ∀ (x4 : Int32) (st : Sg) (ls : Array Slot) (H : Heap) (locs : List Loc), rc76 x4 st = some st9 → Hp g nwM (ceM g) A s.heap st H locs → lv_has ls 6 [(0, .ref (g.2.1 0)), (1, .long x1), (3, .int x3), (4, .int x4)] → W p l e rm_X8_findBest s m args below meth c H locs 0 0 (MQ below (QV g nwM (ceM g) A st9) args s 0 0 A) (F0 m 76 ls []))  : ∀ (k : Nat) (x5 : Int32) (st : Sg) (ls : Array Slot) (H : Heap) (locs : List Loc), X8_findBest_135 rc24 rc76 x1 x3 x4 k x5 st = some st9 → Hp g nwM (ceM g) A s.heap st H locs → lv_has ls 6 [(0, .ref (g.2.1 0)), (1, .long x1), (3, .int x3), (4, .int x4), (5, .int x5)] → W p l e rm_X8_findBest s m args below meth c H locs 0 0 (MQ below (QV g nwM (ceM g) A st9) args s 0 0 A) (F0 m 135 ls []) := by
  intro k
  induction k with
  | zero =>
    intro x5 st ls H locs h
    exact none_s h
  | succ k ih =>
    intro x5 st ls H locs h Y hl
    exact w_X8_findBest_135b X rc24 hrc24 rc76 hrc76 (X8_findBest_135 rc24 rc76 x1 x3 x4 k) ih h Y  hl
set_option maxHeartbeats 4000000 in
set_option maxRecDepth 100000 in
theorem w_X8_findBest_120 (X : Cx g p s m args meth c cX8_findBest 6 RX8 none) {x1 : Int64} {x3 : Int32} {x4 : Int32} {st : Sg} {st9 : Sg} (rc24 : Int64 → Int32 → Sg → Option Sg) (hrc24 : ∀ (x1 : Int64) (x3 : Int32) (st : Sg) (ls : Array Slot) (H : Heap) (locs : List Loc), rc24 x1 x3 st = some st9 → Hp g nwM (ceM g) A s.heap st H locs → lv_has ls 6 [(0, .ref (g.2.1 0)), (1, .long x1), (3, .int x3)] → W p l e rm_X8_findBest s m args below meth c H locs 0 0 (MQ below (QV g nwM (ceM g) A st9) args s 0 0 A) (F0 m 24 ls [])) (rc76 : Int32 → Sg → Option Sg) (hrc76 : ∀ (x4 : Int32) (st : Sg) (ls : Array Slot) (H : Heap) (locs : List Loc), rc76 x4 st = some st9 → Hp g nwM (ceM g) A s.heap st H locs → lv_has ls 6 [(0, .ref (g.2.1 0)), (1, .long x1), (3, .int x3), (4, .int x4)] → W p l e rm_X8_findBest s m args below meth c H locs 0 0 (MQ below (QV g nwM (ceM g) A st9) args s 0 0 A) (F0 m 76 ls [])) (h : X8_findBest_120 rc24 rc76 x1 x3 x4 st = some st9) (Y : Hp g nwM (ceM g) A s.heap st H locs)  (hl : lv_has ls 6 [(0, .ref (g.2.1 0)), (1, .long x1), (3, .int x3), (4, .int x4)]) : W p l e rm_X8_findBest s m args below meth c H locs 0 0 (MQ below (QV g nwM (ceM g) A st9) args s 0 0 A) (F0 m 120 ls []) := by
  have hx := X.1
  have hb := X.2.1
  unfold X8_findBest_120 at h
  refine lv_aload_n hx hb dX8_findBest_120 rfl (lv_at hl 0 rfl) ?_
  refine lv_iload_n hx hb dX8_findBest_121 rfl (lv_at hl 2 rfl) ?_
  refine lv_aload_n hx hb dX8_findBest_122 rfl (lv_at hl 0 rfl) ?_
  refine k_get (v := .ref (g.2.1 1)) X Y fl_8_7 0 (Nat.le_of_ble_eq_true rfl) rfl rfl dX8_findBest_123 ?_
  refine lv_iload hx hb dX8_findBest_126 (lv_at hl 3 rfl) ?_
  obtain ⟨i1, h⟩ := cix_s h
  refine k_iald X Y 1 (Nat.le_of_ble_eq_true rfl) (fun _ _ => rfl) i1 dX8_findBest_128 ?_
  obtain ⟨st3, hc2, h⟩ := bnd1_s h
  refine k_cV Y (k_runV (As := [.int x3, .int (st.1 1 x4.toNatClampNeg)]) (rest := []) (o := 0) X Y cl_8_135 (c_X8_dayAt l hc2 _) ⟨rfl, rfl, Nat.le_of_ble_eq_true rfl, Nat.le_of_ble_eq_true rfl⟩ (Nat.le_of_ble_eq_true rfl) rfl rfl hl.1 rfl (Nat.le_of_ble_eq_true rfl) dX8_findBest_129 ⟨Nat.zero_le _, Nat.zero_le _⟩) (fun H locs Y => ?_)
  refine lv_iconst (v := 0) hx hb dX8_findBest_132 (by decide) ?_
  refine lv_istore (lv' := [(5, .int 0), (0, .ref (g.2.1 0)), (1, .long x1), (3, .int x3), (4, .int x4)]) hx hb dX8_findBest_133 hl (by decide) rfl (fun ls hl => ?_)
  exact w_X8_findBest_135 X rc24 hrc24 rc76 hrc76  FU 0 st3 _ _ _ h Y (lv_sub hl [1, 2, 3, 4, 0] rfl)
set_option maxHeartbeats 4000000 in
set_option maxRecDepth 100000 in
theorem w_X8_findBest_93b (X : Cx g p s m args meth c cX8_findBest 6 RX8 none) {x1 : Int64} {x3 : Int32} {x4 : Int32} {x5 : Int32} {st : Sg} {st9 : Sg} (rc24 : Int64 → Int32 → Sg → Option Sg) (hrc24 : ∀ (x1 : Int64) (x3 : Int32) (st : Sg) (ls : Array Slot) (H : Heap) (locs : List Loc), rc24 x1 x3 st = some st9 → Hp g nwM (ceM g) A s.heap st H locs → lv_has ls 6 [(0, .ref (g.2.1 0)), (1, .long x1), (3, .int x3)] → W p l e rm_X8_findBest s m args below meth c H locs 0 0 (MQ below (QV g nwM (ceM g) A st9) args s 0 0 A) (F0 m 24 ls [])) (rc76 : Int32 → Sg → Option Sg) (hrc76 : ∀ (x4 : Int32) (st : Sg) (ls : Array Slot) (H : Heap) (locs : List Loc), rc76 x4 st = some st9 → Hp g nwM (ceM g) A s.heap st H locs → lv_has ls 6 [(0, .ref (g.2.1 0)), (1, .long x1), (3, .int x3), (4, .int x4)] → W p l e rm_X8_findBest s m args below meth c H locs 0 0 (MQ below (QV g nwM (ceM g) A st9) args s 0 0 A) (F0 m 76 ls [])) (rc93 : Int32 → Sg → Option Sg) (hrc93 : ∀ (x5 : Int32) (st : Sg) (ls : Array Slot) (H : Heap) (locs : List Loc), rc93 x5 st = some st9 → Hp g nwM (ceM g) A s.heap st H locs → lv_has ls 6 [(0, .ref (g.2.1 0)), (1, .long x1), (3, .int x3), (4, .int x4), (5, .int x5)] → W p l e rm_X8_findBest s m args below meth c H locs 0 0 (MQ below (QV g nwM (ceM g) A st9) args s 0 0 A) (F0 m 93 ls [])) (h : X8_findBest_93b rc24 rc76 rc93 x1 x3 x4 x5 st = some st9) (Y : Hp g nwM (ceM g) A s.heap st H locs)  (hl : lv_has ls 6 [(0, .ref (g.2.1 0)), (1, .long x1), (3, .int x3), (4, .int x4), (5, .int x5)]) : W p l e rm_X8_findBest s m args below meth c H locs 0 0 (MQ below (QV g nwM (ceM g) A st9) args s 0 0 A) (F0 m 93 ls []) := by
  have hx := X.1
  have hb := X.2.1
  unfold X8_findBest_93b at h
  refine lv_iload hx hb dX8_findBest_93 (lv_at hl 4 rfl) ?_
  refine lv_bipush (v := 12) hx hb dX8_findBest_95 (by decide) ?_
  refine lv_icmp_gt (tgt := 120) hx hb dX8_findBest_97 (by decide) (fun c1 => ?_) (fun c1 => ?_)
  · have h := ite_t h c1
    exact w_X8_findBest_120 X rc24 hrc24 rc76 hrc76 h Y  (lv_sub hl [0, 1, 2, 3] rfl)
  · have h := ite_f h c1
    refine lv_aload_n hx hb dX8_findBest_100 rfl (lv_at hl 0 rfl) ?_
    refine k_get (v := .ref (g.2.1 7)) X Y fl_8_28 0 (Nat.le_of_ble_eq_true rfl) rfl rfl dX8_findBest_101 ?_
    refine lv_iload hx hb dX8_findBest_104 (lv_at hl 4 rfl) ?_
    refine lv_aload_n hx hb dX8_findBest_106 rfl (lv_at hl 0 rfl) ?_
    refine k_get (v := .ref (g.2.1 10)) X Y fl_8_38 0 (Nat.le_of_ble_eq_true rfl) rfl rfl dX8_findBest_107 ?_
    refine lv_iload hx hb dX8_findBest_110 (lv_at hl 4 rfl) ?_
    obtain ⟨i2, h⟩ := cix_s h
    refine k_lald X Y 10 (Nat.le_of_ble_eq_true rfl) (fun _ _ => rfl) i2 dX8_findBest_112 ?_
    obtain ⟨i3, h⟩ := cix_s h
    refine k_last X Y 7 (Nat.le_of_ble_eq_true rfl) (fun _ _ => rfl) i3 dX8_findBest_113 (fun H locs Y => ?_)
    obtain ⟨st4, est4, h⟩ := nm_s h
    have Y : Hp g nwM (ceM g) A s.heap st4 H locs := by rw [est4]; exact Y
    obtain ⟨v5, ev5, h⟩ := nm_s h
    refine lv_iinc (v := v5) (lv' := [(5, .int v5), (0, .ref (g.2.1 0)), (1, .long x1), (3, .int x3), (4, .int x4)]) hx hb dX8_findBest_114 hl (k := 4) rfl (by rw [ev5]; rfl) (by decide) rfl (fun ls hl => ?_)
    refine lv_goto (tgt := 93) hx hb dX8_findBest_117 (by decide) ?_
    exact hrc93 v5 st4 _ _ _ h Y (lv_sub hl [1, 2, 3, 4, 0] rfl)
theorem w_X8_findBest_93 (X : Cx g p s m args meth c cX8_findBest 6 RX8 none) {x1 : Int64} {x3 : Int32} {x4 : Int32}  {st9 : Sg} (rc24 : Int64 → Int32 → Sg → Option Sg) (hrc24 : ∀ (x1 : Int64) (x3 : Int32) (st : Sg) (ls : Array Slot) (H : Heap) (locs : List Loc), rc24 x1 x3 st = some st9 → Hp g nwM (ceM g) A s.heap st H locs → lv_has ls 6 [(0, .ref (g.2.1 0)), (1, .long x1), (3, .int x3)] → W p l e rm_X8_findBest s m args below meth c H locs 0 0 (MQ below (QV g nwM (ceM g) A st9) args s 0 0 A) (F0 m 24 ls [])) (rc76 : Int32 → Sg → Option Sg) (hrc76 : ∀ (x4 : Int32) (st : Sg) (ls : Array Slot) (H : Heap) (locs : List Loc), rc76 x4 st = some st9 → Hp g nwM (ceM g) A s.heap st H locs → lv_has ls 6 [(0, .ref (g.2.1 0)), (1, .long x1), (3, .int x3), (4, .int x4)] → W p l e rm_X8_findBest s m args below meth c H locs 0 0 (MQ below (QV g nwM (ceM g) A st9) args s 0 0 A) (F0 m 76 ls []))  : ∀ (k : Nat) (x5 : Int32) (st : Sg) (ls : Array Slot) (H : Heap) (locs : List Loc), X8_findBest_93 rc24 rc76 x1 x3 x4 k x5 st = some st9 → Hp g nwM (ceM g) A s.heap st H locs → lv_has ls 6 [(0, .ref (g.2.1 0)), (1, .long x1), (3, .int x3), (4, .int x4), (5, .int x5)] → W p l e rm_X8_findBest s m args below meth c H locs 0 0 (MQ below (QV g nwM (ceM g) A st9) args s 0 0 A) (F0 m 93 ls []) := by
  intro k
  induction k with
  | zero =>
    intro x5 st ls H locs h
    exact none_s h
  | succ k ih =>
    intro x5 st ls H locs h Y hl
    exact w_X8_findBest_93b X rc24 hrc24 rc76 hrc76 (X8_findBest_93 rc24 rc76 x1 x3 x4 k) ih h Y  hl
set_option maxHeartbeats 4000000 in
set_option maxRecDepth 100000 in
theorem w_X8_findBest_245 (X : Cx g p s m args meth c cX8_findBest 6 RX8 none) {x3 : Int32} {st : Sg} {st9 : Sg} (rc24 : Int64 → Int32 → Sg → Option Sg) (hrc24 : ∀ (x1 : Int64) (x3 : Int32) (st : Sg) (ls : Array Slot) (H : Heap) (locs : List Loc), rc24 x1 x3 st = some st9 → Hp g nwM (ceM g) A s.heap st H locs → lv_has ls 6 [(0, .ref (g.2.1 0)), (1, .long x1), (3, .int x3)] → W p l e rm_X8_findBest s m args below meth c H locs 0 0 (MQ below (QV g nwM (ceM g) A st9) args s 0 0 A) (F0 m 24 ls [])) (h : X8_findBest_245 rc24 x3 st = some st9) (Y : Hp g nwM (ceM g) A s.heap st H locs)  (hl : lv_has ls 6 [(0, .ref (g.2.1 0)), (3, .int x3)]) : W p l e rm_X8_findBest s m args below meth c H locs 0 0 (MQ below (QV g nwM (ceM g) A st9) args s 0 0 A) (F0 m 245 ls []) := by
  have hx := X.1
  have hb := X.2.1
  unfold X8_findBest_245 at h
  refine lv_aload_n hx hb dX8_findBest_245 rfl (lv_at hl 0 rfl) ?_
  refine k_get (v := .long (st.2 0 12)) X Y fl_8_120 0 (Nat.le_of_ble_eq_true rfl) rfl rfl dX8_findBest_246 ?_
  obtain ⟨v1, ev1, h⟩ := nm_s h
  refine k_nmJ ev1 ?_
  refine lv_lstore_n (lv' := [(1, .long v1), (0, .ref (g.2.1 0)), (3, .int x3)]) hx hb dX8_findBest_249 rfl hl (by decide) rfl (fun ls hl => ?_)
  obtain ⟨v2, ev2, h⟩ := nm_s h
  refine lv_iinc (v := v2) (lv' := [(3, .int v2), (1, .long v1), (0, .ref (g.2.1 0))]) hx hb dX8_findBest_250 hl (k := 2) rfl (by rw [ev2]; rfl) (by decide) rfl (fun ls hl => ?_)
  refine lv_goto (tgt := 24) hx hb dX8_findBest_253 (by decide) ?_
  exact hrc24 v1 v2 st _ _ _ h Y (lv_sub hl [2, 1, 0] rfl)
set_option maxHeartbeats 4000000 in
set_option maxRecDepth 100000 in
theorem w_X8_findBest_213b (X : Cx g p s m args meth c cX8_findBest 6 RX8 none) {x3 : Int32} {x4 : Int32} {st : Sg} {st9 : Sg} (rc24 : Int64 → Int32 → Sg → Option Sg) (hrc24 : ∀ (x1 : Int64) (x3 : Int32) (st : Sg) (ls : Array Slot) (H : Heap) (locs : List Loc), rc24 x1 x3 st = some st9 → Hp g nwM (ceM g) A s.heap st H locs → lv_has ls 6 [(0, .ref (g.2.1 0)), (1, .long x1), (3, .int x3)] → W p l e rm_X8_findBest s m args below meth c H locs 0 0 (MQ below (QV g nwM (ceM g) A st9) args s 0 0 A) (F0 m 24 ls [])) (rc213 : Int32 → Sg → Option Sg) (hrc213 : ∀ (x4 : Int32) (st : Sg) (ls : Array Slot) (H : Heap) (locs : List Loc), rc213 x4 st = some st9 → Hp g nwM (ceM g) A s.heap st H locs → lv_has ls 6 [(0, .ref (g.2.1 0)), (3, .int x3), (4, .int x4)] → W p l e rm_X8_findBest s m args below meth c H locs 0 0 (MQ below (QV g nwM (ceM g) A st9) args s 0 0 A) (F0 m 213 ls [])) (h : X8_findBest_213b rc24 rc213 x3 x4 st = some st9) (Y : Hp g nwM (ceM g) A s.heap st H locs)  (hl : lv_has ls 6 [(0, .ref (g.2.1 0)), (3, .int x3), (4, .int x4)]) : W p l e rm_X8_findBest s m args below meth c H locs 0 0 (MQ below (QV g nwM (ceM g) A st9) args s 0 0 A) (F0 m 213 ls []) := by
  have hx := X.1
  have hb := X.2.1
  unfold X8_findBest_213b at h
  refine lv_iload hx hb dX8_findBest_213 (lv_at hl 2 rfl) ?_
  refine lv_bipush (v := 12) hx hb dX8_findBest_215 (by decide) ?_
  refine lv_icmp_gt (tgt := 245) hx hb dX8_findBest_217 (by decide) (fun c1 => ?_) (fun c1 => ?_)
  · have h := ite_t h c1
    exact w_X8_findBest_245 X rc24 hrc24 h Y  (lv_sub hl [0, 1] rfl)
  · have h := ite_f h c1
    refine lv_aload_n hx hb dX8_findBest_220 rfl (lv_at hl 0 rfl) ?_
    refine k_get (v := .ref (g.2.1 7)) X Y fl_8_28 0 (Nat.le_of_ble_eq_true rfl) rfl rfl dX8_findBest_221 ?_
    refine lv_iload hx hb dX8_findBest_224 (lv_at hl 2 rfl) ?_
    refine lv_aload_n hx hb dX8_findBest_226 rfl (lv_at hl 0 rfl) ?_
    refine k_get (v := .ref (g.2.1 8)) X Y fl_8_32 0 (Nat.le_of_ble_eq_true rfl) rfl rfl dX8_findBest_227 ?_
    refine lv_bipush (v := 13) hx hb dX8_findBest_230 (by decide) ?_
    refine lv_iload_n hx hb dX8_findBest_232 rfl (lv_at hl 1 rfl) ?_
    refine lv_imul hx hb dX8_findBest_233 ?_
    refine lv_iload hx hb dX8_findBest_234 (lv_at hl 2 rfl) ?_
    refine lv_iadd hx hb dX8_findBest_236 ?_
    obtain ⟨i2, h⟩ := cix_s h
    refine k_lald X Y 8 (Nat.le_of_ble_eq_true rfl) (fun _ _ => rfl) i2 dX8_findBest_237 ?_
    obtain ⟨i3, h⟩ := cix_s h
    refine k_last X Y 7 (Nat.le_of_ble_eq_true rfl) (fun _ _ => rfl) i3 dX8_findBest_238 (fun H locs Y => ?_)
    obtain ⟨st4, est4, h⟩ := nm_s h
    have Y : Hp g nwM (ceM g) A s.heap st4 H locs := by rw [est4]; exact Y
    obtain ⟨v5, ev5, h⟩ := nm_s h
    refine lv_iinc (v := v5) (lv' := [(4, .int v5), (0, .ref (g.2.1 0)), (3, .int x3)]) hx hb dX8_findBest_239 hl (k := 2) rfl (by rw [ev5]; rfl) (by decide) rfl (fun ls hl => ?_)
    refine lv_goto (tgt := 213) hx hb dX8_findBest_242 (by decide) ?_
    exact hrc213 v5 st4 _ _ _ h Y (lv_sub hl [1, 2, 0] rfl)
theorem w_X8_findBest_213 (X : Cx g p s m args meth c cX8_findBest 6 RX8 none) {x3 : Int32}  {st9 : Sg} (rc24 : Int64 → Int32 → Sg → Option Sg) (hrc24 : ∀ (x1 : Int64) (x3 : Int32) (st : Sg) (ls : Array Slot) (H : Heap) (locs : List Loc), rc24 x1 x3 st = some st9 → Hp g nwM (ceM g) A s.heap st H locs → lv_has ls 6 [(0, .ref (g.2.1 0)), (1, .long x1), (3, .int x3)] → W p l e rm_X8_findBest s m args below meth c H locs 0 0 (MQ below (QV g nwM (ceM g) A st9) args s 0 0 A) (F0 m 24 ls []))  : ∀ (k : Nat) (x4 : Int32) (st : Sg) (ls : Array Slot) (H : Heap) (locs : List Loc), X8_findBest_213 rc24 x3 k x4 st = some st9 → Hp g nwM (ceM g) A s.heap st H locs → lv_has ls 6 [(0, .ref (g.2.1 0)), (3, .int x3), (4, .int x4)] → W p l e rm_X8_findBest s m args below meth c H locs 0 0 (MQ below (QV g nwM (ceM g) A st9) args s 0 0 A) (F0 m 213 ls []) := by
  intro k
  induction k with
  | zero =>
    intro x4 st ls H locs h
    exact none_s h
  | succ k ih =>
    intro x4 st ls H locs h Y hl
    exact w_X8_findBest_213b X rc24 hrc24 (X8_findBest_213 rc24 x3 k) ih h Y  hl
set_option maxHeartbeats 4000000 in
set_option maxRecDepth 100000 in
theorem w_X8_findBest_210 (X : Cx g p s m args meth c cX8_findBest 6 RX8 none) {x3 : Int32} {st : Sg} {st9 : Sg} (rc24 : Int64 → Int32 → Sg → Option Sg) (hrc24 : ∀ (x1 : Int64) (x3 : Int32) (st : Sg) (ls : Array Slot) (H : Heap) (locs : List Loc), rc24 x1 x3 st = some st9 → Hp g nwM (ceM g) A s.heap st H locs → lv_has ls 6 [(0, .ref (g.2.1 0)), (1, .long x1), (3, .int x3)] → W p l e rm_X8_findBest s m args below meth c H locs 0 0 (MQ below (QV g nwM (ceM g) A st9) args s 0 0 A) (F0 m 24 ls [])) (h : X8_findBest_210 rc24 x3 st = some st9) (Y : Hp g nwM (ceM g) A s.heap st H locs)  (hl : lv_has ls 6 [(0, .ref (g.2.1 0)), (3, .int x3)]) : W p l e rm_X8_findBest s m args below meth c H locs 0 0 (MQ below (QV g nwM (ceM g) A st9) args s 0 0 A) (F0 m 210 ls []) := by
  have hx := X.1
  have hb := X.2.1
  unfold X8_findBest_210 at h
  refine lv_iconst (v := 0) hx hb dX8_findBest_210 (by decide) ?_
  refine lv_istore (lv' := [(4, .int 0), (0, .ref (g.2.1 0)), (3, .int x3)]) hx hb dX8_findBest_211 hl (by decide) rfl (fun ls hl => ?_)
  exact w_X8_findBest_213 X rc24 hrc24  FU 0 st _ _ _ h Y (lv_sub hl [1, 2, 0] rfl)
set_option maxHeartbeats 4000000 in
set_option maxRecDepth 100000 in
theorem w_X8_findBest_76b (X : Cx g p s m args meth c cX8_findBest 6 RX8 none) {x1 : Int64} {x3 : Int32} {x4 : Int32} {st : Sg} {st9 : Sg} (rc24 : Int64 → Int32 → Sg → Option Sg) (hrc24 : ∀ (x1 : Int64) (x3 : Int32) (st : Sg) (ls : Array Slot) (H : Heap) (locs : List Loc), rc24 x1 x3 st = some st9 → Hp g nwM (ceM g) A s.heap st H locs → lv_has ls 6 [(0, .ref (g.2.1 0)), (1, .long x1), (3, .int x3)] → W p l e rm_X8_findBest s m args below meth c H locs 0 0 (MQ below (QV g nwM (ceM g) A st9) args s 0 0 A) (F0 m 24 ls [])) (rc76 : Int32 → Sg → Option Sg) (hrc76 : ∀ (x4 : Int32) (st : Sg) (ls : Array Slot) (H : Heap) (locs : List Loc), rc76 x4 st = some st9 → Hp g nwM (ceM g) A s.heap st H locs → lv_has ls 6 [(0, .ref (g.2.1 0)), (1, .long x1), (3, .int x3), (4, .int x4)] → W p l e rm_X8_findBest s m args below meth c H locs 0 0 (MQ below (QV g nwM (ceM g) A st9) args s 0 0 A) (F0 m 76 ls [])) (h : X8_findBest_76b rc24 rc76 x1 x3 x4 st = some st9) (Y : Hp g nwM (ceM g) A s.heap st H locs)  (hl : lv_has ls 6 [(0, .ref (g.2.1 0)), (1, .long x1), (3, .int x3), (4, .int x4)]) : W p l e rm_X8_findBest s m args below meth c H locs 0 0 (MQ below (QV g nwM (ceM g) A st9) args s 0 0 A) (F0 m 76 ls []) := by
  have hx := X.1
  have hb := X.2.1
  unfold X8_findBest_76b at h
  refine lv_iload hx hb dX8_findBest_76 (lv_at hl 3 rfl) ?_
  refine lv_aload_n hx hb dX8_findBest_78 rfl (lv_at hl 0 rfl) ?_
  refine k_get (v := .int (st.1 0 4)) X Y fl_8_96 0 (Nat.le_of_ble_eq_true rfl) rfl rfl dX8_findBest_79 ?_
  refine lv_icmp_ge (tgt := 210) hx hb dX8_findBest_82 (by decide) (fun c1 => ?_) (fun c1 => ?_)
  · have h := ite_t h c1
    exact w_X8_findBest_210 X rc24 hrc24 h Y  (lv_sub hl [0, 2] rfl)
  · have h := ite_f h c1
    refine lv_aload_n hx hb dX8_findBest_85 rfl (lv_at hl 0 rfl) ?_
    refine lv_lload_n hx hb dX8_findBest_86 rfl (lv_at hl 1 rfl) ?_
    refine k_putJ X Y fl_8_120 0 (Nat.le_of_ble_eq_true rfl) rfl (Nat.le_of_ble_eq_true rfl) rfl dX8_findBest_87 (fun H locs Y => ?_)
    obtain ⟨st2, est2, h⟩ := nm_s h
    have Y : Hp g nwM (ceM g) A s.heap st2 H locs := by rw [est2]; exact Y
    refine lv_iconst (v := 0) hx hb dX8_findBest_90 (by decide) ?_
    refine lv_istore (lv' := [(5, .int 0), (0, .ref (g.2.1 0)), (1, .long x1), (3, .int x3), (4, .int x4)]) hx hb dX8_findBest_91 hl (by decide) rfl (fun ls hl => ?_)
    exact w_X8_findBest_93 X rc24 hrc24 rc76 hrc76  FU 0 st2 _ _ _ h Y (lv_sub hl [1, 2, 3, 4, 0] rfl)
theorem w_X8_findBest_76 (X : Cx g p s m args meth c cX8_findBest 6 RX8 none) {x1 : Int64} {x3 : Int32}  {st9 : Sg} (rc24 : Int64 → Int32 → Sg → Option Sg) (hrc24 : ∀ (x1 : Int64) (x3 : Int32) (st : Sg) (ls : Array Slot) (H : Heap) (locs : List Loc), rc24 x1 x3 st = some st9 → Hp g nwM (ceM g) A s.heap st H locs → lv_has ls 6 [(0, .ref (g.2.1 0)), (1, .long x1), (3, .int x3)] → W p l e rm_X8_findBest s m args below meth c H locs 0 0 (MQ below (QV g nwM (ceM g) A st9) args s 0 0 A) (F0 m 24 ls []))  : ∀ (k : Nat) (x4 : Int32) (st : Sg) (ls : Array Slot) (H : Heap) (locs : List Loc), X8_findBest_76 rc24 x1 x3 k x4 st = some st9 → Hp g nwM (ceM g) A s.heap st H locs → lv_has ls 6 [(0, .ref (g.2.1 0)), (1, .long x1), (3, .int x3), (4, .int x4)] → W p l e rm_X8_findBest s m args below meth c H locs 0 0 (MQ below (QV g nwM (ceM g) A st9) args s 0 0 A) (F0 m 76 ls []) := by
  intro k
  induction k with
  | zero =>
    intro x4 st ls H locs h
    exact none_s h
  | succ k ih =>
    intro x4 st ls H locs h Y hl
    exact w_X8_findBest_76b X rc24 hrc24 (X8_findBest_76 rc24 x1 x3 k) ih h Y  hl
set_option maxHeartbeats 4000000 in
set_option maxRecDepth 100000 in
theorem w_X8_findBest_73 (X : Cx g p s m args meth c cX8_findBest 6 RX8 none) {x1 : Int64} {x3 : Int32} {st : Sg} {st9 : Sg} (rc24 : Int64 → Int32 → Sg → Option Sg) (hrc24 : ∀ (x1 : Int64) (x3 : Int32) (st : Sg) (ls : Array Slot) (H : Heap) (locs : List Loc), rc24 x1 x3 st = some st9 → Hp g nwM (ceM g) A s.heap st H locs → lv_has ls 6 [(0, .ref (g.2.1 0)), (1, .long x1), (3, .int x3)] → W p l e rm_X8_findBest s m args below meth c H locs 0 0 (MQ below (QV g nwM (ceM g) A st9) args s 0 0 A) (F0 m 24 ls [])) (h : X8_findBest_73 rc24 x1 x3 st = some st9) (Y : Hp g nwM (ceM g) A s.heap st H locs)  (hl : lv_has ls 6 [(0, .ref (g.2.1 0)), (1, .long x1), (3, .int x3)]) : W p l e rm_X8_findBest s m args below meth c H locs 0 0 (MQ below (QV g nwM (ceM g) A st9) args s 0 0 A) (F0 m 73 ls []) := by
  have hx := X.1
  have hb := X.2.1
  unfold X8_findBest_73 at h
  refine lv_iconst (v := 0) hx hb dX8_findBest_73 (by decide) ?_
  refine lv_istore (lv' := [(4, .int 0), (0, .ref (g.2.1 0)), (1, .long x1), (3, .int x3)]) hx hb dX8_findBest_74 hl (by decide) rfl (fun ls hl => ?_)
  exact w_X8_findBest_76 X rc24 hrc24  FU 0 st _ _ _ h Y (lv_sub hl [1, 2, 3, 0] rfl)
set_option maxHeartbeats 4000000 in
set_option maxRecDepth 100000 in
theorem w_X8_findBest_31b (X : Cx g p s m args meth c cX8_findBest 6 RX8 none) {x1 : Int64} {x3 : Int32} {x4 : Int32} {st : Sg} {st9 : Sg} (rc24 : Int64 → Int32 → Sg → Option Sg) (hrc24 : ∀ (x1 : Int64) (x3 : Int32) (st : Sg) (ls : Array Slot) (H : Heap) (locs : List Loc), rc24 x1 x3 st = some st9 → Hp g nwM (ceM g) A s.heap st H locs → lv_has ls 6 [(0, .ref (g.2.1 0)), (1, .long x1), (3, .int x3)] → W p l e rm_X8_findBest s m args below meth c H locs 0 0 (MQ below (QV g nwM (ceM g) A st9) args s 0 0 A) (F0 m 24 ls [])) (rc31 : Int32 → Sg → Option Sg) (hrc31 : ∀ (x4 : Int32) (st : Sg) (ls : Array Slot) (H : Heap) (locs : List Loc), rc31 x4 st = some st9 → Hp g nwM (ceM g) A s.heap st H locs → lv_has ls 6 [(0, .ref (g.2.1 0)), (1, .long x1), (3, .int x3), (4, .int x4)] → W p l e rm_X8_findBest s m args below meth c H locs 0 0 (MQ below (QV g nwM (ceM g) A st9) args s 0 0 A) (F0 m 31 ls [])) (h : X8_findBest_31b rc24 rc31 x1 x3 x4 st = some st9) (Y : Hp g nwM (ceM g) A s.heap st H locs)  (hl : lv_has ls 6 [(0, .ref (g.2.1 0)), (1, .long x1), (3, .int x3), (4, .int x4)]) : W p l e rm_X8_findBest s m args below meth c H locs 0 0 (MQ below (QV g nwM (ceM g) A st9) args s 0 0 A) (F0 m 31 ls []) := by
  have hx := X.1
  have hb := X.2.1
  unfold X8_findBest_31b at h
  refine lv_iload hx hb dX8_findBest_31 (lv_at hl 3 rfl) ?_
  refine lv_bipush (v := 12) hx hb dX8_findBest_33 (by decide) ?_
  refine lv_icmp_gt (tgt := 73) hx hb dX8_findBest_35 (by decide) (fun c1 => ?_) (fun c1 => ?_)
  · have h := ite_t h c1
    exact w_X8_findBest_73 X rc24 hrc24 h Y  (lv_sub hl [0, 1, 2] rfl)
  · have h := ite_f h c1
    refine lv_aload_n hx hb dX8_findBest_38 rfl (lv_at hl 0 rfl) ?_
    refine k_get (v := .ref (g.2.1 10)) X Y fl_8_38 0 (Nat.le_of_ble_eq_true rfl) rfl rfl dX8_findBest_39 ?_
    refine lv_iload hx hb dX8_findBest_42 (lv_at hl 3 rfl) ?_
    refine lv_aload_n hx hb dX8_findBest_44 rfl (lv_at hl 0 rfl) ?_
    refine k_get (v := .ref (g.2.1 7)) X Y fl_8_28 0 (Nat.le_of_ble_eq_true rfl) rfl rfl dX8_findBest_45 ?_
    refine lv_iload hx hb dX8_findBest_48 (lv_at hl 3 rfl) ?_
    obtain ⟨i2, h⟩ := cix_s h
    refine k_lald X Y 7 (Nat.le_of_ble_eq_true rfl) (fun _ _ => rfl) i2 dX8_findBest_50 ?_
    obtain ⟨i3, h⟩ := cix_s h
    refine k_last X Y 10 (Nat.le_of_ble_eq_true rfl) (fun _ _ => rfl) i3 dX8_findBest_51 (fun H locs Y => ?_)
    obtain ⟨st4, est4, h⟩ := nm_s h
    have Y : Hp g nwM (ceM g) A s.heap st4 H locs := by rw [est4]; exact Y
    refine lv_aload_n hx hb dX8_findBest_52 rfl (lv_at hl 0 rfl) ?_
    refine k_get (v := .ref (g.2.1 8)) X Y fl_8_32 0 (Nat.le_of_ble_eq_true rfl) rfl rfl dX8_findBest_53 ?_
    refine lv_bipush (v := 13) hx hb dX8_findBest_56 (by decide) ?_
    refine lv_iload_n hx hb dX8_findBest_58 rfl (lv_at hl 2 rfl) ?_
    refine lv_imul hx hb dX8_findBest_59 ?_
    refine lv_iload hx hb dX8_findBest_60 (lv_at hl 3 rfl) ?_
    refine lv_iadd hx hb dX8_findBest_62 ?_
    refine k_ldc2 X lg_8_112 dX8_findBest_63 ?_
    obtain ⟨i5, h⟩ := cix_s h
    refine k_last X Y 8 (Nat.le_of_ble_eq_true rfl) (fun _ _ => rfl) i5 dX8_findBest_66 (fun H locs Y => ?_)
    obtain ⟨st6, est6, h⟩ := nm_s h
    have Y : Hp g nwM (ceM g) A s.heap st6 H locs := by rw [est6]; exact Y
    obtain ⟨v7, ev7, h⟩ := nm_s h
    refine lv_iinc (v := v7) (lv' := [(4, .int v7), (0, .ref (g.2.1 0)), (1, .long x1), (3, .int x3)]) hx hb dX8_findBest_67 hl (k := 3) rfl (by rw [ev7]; rfl) (by decide) rfl (fun ls hl => ?_)
    refine lv_goto (tgt := 31) hx hb dX8_findBest_70 (by decide) ?_
    exact hrc31 v7 st6 _ _ _ h Y (lv_sub hl [1, 2, 3, 0] rfl)
theorem w_X8_findBest_31 (X : Cx g p s m args meth c cX8_findBest 6 RX8 none) {x1 : Int64} {x3 : Int32}  {st9 : Sg} (rc24 : Int64 → Int32 → Sg → Option Sg) (hrc24 : ∀ (x1 : Int64) (x3 : Int32) (st : Sg) (ls : Array Slot) (H : Heap) (locs : List Loc), rc24 x1 x3 st = some st9 → Hp g nwM (ceM g) A s.heap st H locs → lv_has ls 6 [(0, .ref (g.2.1 0)), (1, .long x1), (3, .int x3)] → W p l e rm_X8_findBest s m args below meth c H locs 0 0 (MQ below (QV g nwM (ceM g) A st9) args s 0 0 A) (F0 m 24 ls []))  : ∀ (k : Nat) (x4 : Int32) (st : Sg) (ls : Array Slot) (H : Heap) (locs : List Loc), X8_findBest_31 rc24 x1 x3 k x4 st = some st9 → Hp g nwM (ceM g) A s.heap st H locs → lv_has ls 6 [(0, .ref (g.2.1 0)), (1, .long x1), (3, .int x3), (4, .int x4)] → W p l e rm_X8_findBest s m args below meth c H locs 0 0 (MQ below (QV g nwM (ceM g) A st9) args s 0 0 A) (F0 m 31 ls []) := by
  intro k
  induction k with
  | zero =>
    intro x4 st ls H locs h
    exact none_s h
  | succ k ih =>
    intro x4 st ls H locs h Y hl
    exact w_X8_findBest_31b X rc24 hrc24 (X8_findBest_31 rc24 x1 x3 k) ih h Y  hl
set_option maxHeartbeats 4000000 in
set_option maxRecDepth 100000 in
theorem w_X8_findBest_256 (X : Cx g p s m args meth c cX8_findBest 6 RX8 none)  {st : Sg} {st9 : Sg}  (h : X8_findBest_256 st = some st9) (Y : Hp g nwM (ceM g) A s.heap st H locs)  (hl : lv_has ls 6 []) : W p l e rm_X8_findBest s m args below meth c H locs 0 0 (MQ below (QV g nwM (ceM g) A st9) args s 0 0 A) (F0 m 256 ls []) := by
  have hx := X.1
  have hb := X.2.1
  unfold X8_findBest_256 at h
  exact k_vretW X Y h dX8_findBest_256
set_option maxHeartbeats 4000000 in
set_option maxRecDepth 100000 in
theorem w_X8_findBest_24b (X : Cx g p s m args meth c cX8_findBest 6 RX8 none) {x1 : Int64} {x3 : Int32} {st : Sg} {st9 : Sg} (rc24 : Int64 → Int32 → Sg → Option Sg) (hrc24 : ∀ (x1 : Int64) (x3 : Int32) (st : Sg) (ls : Array Slot) (H : Heap) (locs : List Loc), rc24 x1 x3 st = some st9 → Hp g nwM (ceM g) A s.heap st H locs → lv_has ls 6 [(0, .ref (g.2.1 0)), (1, .long x1), (3, .int x3)] → W p l e rm_X8_findBest s m args below meth c H locs 0 0 (MQ below (QV g nwM (ceM g) A st9) args s 0 0 A) (F0 m 24 ls [])) (h : X8_findBest_24b rc24 x1 x3 st = some st9) (Y : Hp g nwM (ceM g) A s.heap st H locs)  (hl : lv_has ls 6 [(0, .ref (g.2.1 0)), (1, .long x1), (3, .int x3)]) : W p l e rm_X8_findBest s m args below meth c H locs 0 0 (MQ below (QV g nwM (ceM g) A st9) args s 0 0 A) (F0 m 24 ls []) := by
  have hx := X.1
  have hb := X.2.1
  unfold X8_findBest_24b at h
  refine lv_iload_n hx hb dX8_findBest_24 rfl (lv_at hl 2 rfl) ?_
  refine lv_if_lt (tgt := 256) hx hb dX8_findBest_25 (by decide) (fun c1 => ?_) (fun c1 => ?_)
  · have h := ite_t h c1
    exact w_X8_findBest_256 X  h Y  (lv_sub hl [] rfl)
  · have h := ite_f h c1
    refine lv_iconst (v := 0) hx hb dX8_findBest_28 (by decide) ?_
    refine lv_istore (lv' := [(4, .int 0), (0, .ref (g.2.1 0)), (1, .long x1), (3, .int x3)]) hx hb dX8_findBest_29 hl (by decide) rfl (fun ls hl => ?_)
    exact w_X8_findBest_31 X rc24 hrc24  FU 0 st _ _ _ h Y (lv_sub hl [1, 2, 3, 0] rfl)
theorem w_X8_findBest_24 (X : Cx g p s m args meth c cX8_findBest 6 RX8 none)   {st9 : Sg}   : ∀ (k : Nat) (x1 : Int64) (x3 : Int32) (st : Sg) (ls : Array Slot) (H : Heap) (locs : List Loc), X8_findBest_24 k x1 x3 st = some st9 → Hp g nwM (ceM g) A s.heap st H locs → lv_has ls 6 [(0, .ref (g.2.1 0)), (1, .long x1), (3, .int x3)] → W p l e rm_X8_findBest s m args below meth c H locs 0 0 (MQ below (QV g nwM (ceM g) A st9) args s 0 0 A) (F0 m 24 ls []) := by
  intro k
  induction k with
  | zero =>
    intro x1 x3 st ls H locs h
    exact none_s h
  | succ k ih =>
    intro x1 x3 st ls H locs h Y hl
    exact w_X8_findBest_24b X  (X8_findBest_24 k) ih h Y  hl
set_option maxHeartbeats 4000000 in
set_option maxRecDepth 100000 in
theorem w_X8_findBest (X : Cx g p s m args meth c cX8_findBest 6 RX8 none)  {st : Sg} {st9 : Sg}  (h : X8_findBest st = some st9) (Y : Hp g nwM (ceM g) A s.heap st H locs)  (hl : lv_has ls 6 [(0, .ref (g.2.1 0))]) : W p l e rm_X8_findBest s m args below meth c H locs 0 0 (MQ below (QV g nwM (ceM g) A st9) args s 0 0 A) (F0 m 0 ls []) := by
  have hx := X.1
  have hb := X.2.1
  unfold X8_findBest at h
  refine lv_aload_n hx hb dX8_findBest_0 rfl (lv_at hl 0 rfl) ?_
  obtain ⟨st2, hc1, h⟩ := bnd1_s h
  refine k_cV Y (k_runV (As := []) (rest := []) (o := 0) X Y cl_8_128 (c_X8_beginEnd l hc1 _) ⟨rfl, rfl, Nat.le_of_ble_eq_true rfl, Nat.le_of_ble_eq_true rfl⟩ (Nat.le_of_ble_eq_true rfl) rfl rfl hl.1 rfl (Nat.le_of_ble_eq_true rfl) dX8_findBest_1 ⟨Nat.zero_le _, Nat.zero_le _⟩) (fun H locs Y => ?_)
  refine lv_aload_n hx hb dX8_findBest_4 rfl (lv_at hl 0 rfl) ?_
  refine k_get (v := .long (st2.2 0 12)) X Y fl_8_120 0 (Nat.le_of_ble_eq_true rfl) rfl rfl dX8_findBest_5 ?_
  obtain ⟨v3, ev3, h⟩ := nm_s h
  refine k_nmJ ev3 ?_
  refine lv_lstore_n (lv' := [(1, .long v3), (0, .ref (g.2.1 0))]) hx hb dX8_findBest_8 rfl hl (by decide) rfl (fun ls hl => ?_)
  refine lv_aload_n hx hb dX8_findBest_9 rfl (lv_at hl 1 rfl) ?_
  refine lv_aload_n hx hb dX8_findBest_10 rfl (lv_at hl 1 rfl) ?_
  refine k_get (v := .int (st2.1 0 1)) X Y fl_8_78 0 (Nat.le_of_ble_eq_true rfl) rfl rfl dX8_findBest_11 ?_
  obtain ⟨st5, hc4, h⟩ := bnd1_s h
  refine k_cV Y (k_runV (As := [.int (st2.1 0 1)]) (rest := []) (o := 0) X Y cl_8_131 (c_X8_keepRow l hc4 _) ⟨rfl, rfl, Nat.le_of_ble_eq_true rfl, Nat.le_of_ble_eq_true rfl⟩ (Nat.le_of_ble_eq_true rfl) rfl rfl hl.1 rfl (Nat.le_of_ble_eq_true rfl) dX8_findBest_14 ⟨Nat.zero_le _, Nat.zero_le _⟩) (fun H locs Y => ?_)
  refine lv_aload_n hx hb dX8_findBest_17 rfl (lv_at hl 1 rfl) ?_
  refine k_get (v := .int (st5.1 0 1)) X Y fl_8_78 0 (Nat.le_of_ble_eq_true rfl) rfl rfl dX8_findBest_18 ?_
  refine lv_iconst (v := 1) hx hb dX8_findBest_21 (by decide) ?_
  refine lv_isub hx hb dX8_findBest_22 ?_
  obtain ⟨v6, ev6, h⟩ := nm_s h
  refine k_nmI ev6 ?_
  refine lv_istore_n (lv' := [(3, .int v6), (1, .long v3), (0, .ref (g.2.1 0))]) hx hb dX8_findBest_23 rfl hl (by decide) rfl (fun ls hl => ?_)
  exact w_X8_findBest_24 X   FU v3 v6 st5 _ _ _ h Y (lv_sub hl [2, 1, 0] rfl)
theorem c_X8_findBest (l : Launch) {g : Gx}  {st : Sg} {st9 : Sg} (h : X8_findBest st = some st9) : MetV l yX8_findBest cX8_findBest 6 none rm_X8_findBest g nwM (ceM g) [.ref (g.2.1 0)] st st9 :=
  met_of (Qc := fun A => QV g nwM (ceM g) A st9) (by decide) (Nat.le_of_ble_eq_true rfl) (fun p e s m below meth c A ls X Y hl => w_X8_findBest X h Y hl)
def X8_beginPrice    (st : Sg) : Option (Int32 × Sg) :=
  bnd1 (X8_findBest st) fun st2 =>
  cix (st2.1 0 0) 78 <|
  some (st2.1 9 (st2.1 0 0).toNatClampNeg, st2)
abbrev rm_X8_beginPrice : Room := { frames := 3, cells := 0, slots := 0, locals := 72 }
set_option maxHeartbeats 4000000 in
set_option maxRecDepth 100000 in
theorem w_X8_beginPrice (X : Cx g p s m args meth c cX8_beginPrice 1 RX8 (some .int))  {st : Sg} {r9 : Int32} {st9 : Sg}  (h : X8_beginPrice st = some (r9, st9)) (Y : Hp g nwM (ceM g) A s.heap st H locs)  (hl : lv_has ls 1 [(0, .ref (g.2.1 0))]) : W p l e rm_X8_beginPrice s m args below meth c H locs 0 0 (MQ below (QI g nwM (ceM g) A r9 st9) args s 0 0 A) (F0 m 0 ls []) := by
  have hx := X.1
  have hb := X.2.1
  unfold X8_beginPrice at h
  refine lv_aload_n hx hb dX8_beginPrice_0 rfl (lv_at hl 0 rfl) ?_
  obtain ⟨st2, hc1, h⟩ := bnd1_s h
  refine k_cV Y (k_runV (As := []) (rest := []) (o := 0) X Y cl_8_158 (c_X8_findBest l hc1 _) ⟨rfl, rfl, Nat.le_of_ble_eq_true rfl, Nat.le_of_ble_eq_true rfl⟩ (Nat.le_of_ble_eq_true rfl) rfl rfl hl.1 rfl (Nat.le_of_ble_eq_true rfl) dX8_beginPrice_1 ⟨Nat.zero_le _, Nat.zero_le _⟩) (fun H locs Y => ?_)
  refine lv_aload_n hx hb dX8_beginPrice_4 rfl (lv_at hl 0 rfl) ?_
  refine k_get (v := .ref (g.2.1 9)) X Y fl_8_35 0 (Nat.le_of_ble_eq_true rfl) rfl rfl dX8_beginPrice_5 ?_
  refine lv_aload_n hx hb dX8_beginPrice_8 rfl (lv_at hl 0 rfl) ?_
  refine k_get (v := .int (st2.1 0 0)) X Y fl_8_75 0 (Nat.le_of_ble_eq_true rfl) rfl rfl dX8_beginPrice_9 ?_
  obtain ⟨i3, h⟩ := cix_s h
  refine k_iald X Y 9 (Nat.le_of_ble_eq_true rfl) (fun _ _ => rfl) i3 dX8_beginPrice_12 ?_
  exact k_iretW X Y h dX8_beginPrice_13
theorem c_X8_beginPrice (l : Launch) {g : Gx}  {st : Sg} {r9 : Int32} {st9 : Sg} (h : X8_beginPrice st = some (r9, st9)) : MetI l yX8_beginPrice cX8_beginPrice 1 (some .int) rm_X8_beginPrice g nwM (ceM g) [.ref (g.2.1 0)] st r9 st9 :=
  met_of (Qc := fun A => QI g nwM (ceM g) A r9 st9) (by decide) (Nat.le_of_ble_eq_true rfl) (fun p e s m below meth c A ls X Y hl => w_X8_beginPrice X h Y hl)
def X8_best_30    (st : Sg) : Option (Int32 × Sg) :=
  some ((-2), st)
def X8_best   (x1 : Int32) (x2 : Int32) (st : Sg) : Option (Int32 × Sg) :=
  bnd1 (X8_in (x1.toInt64) 0 (((st.1 0 1) - 1).toInt64)) fun v2 =>
  if v2 = (0 : Int32) then
    X8_best_30 st
  else
    bnd1 (X8_in (x2.toInt64) 1 ((st.1 0 0).toInt64)) fun v5 =>
    if v5 = (0 : Int32) then
      X8_best_30 st
    else
      if (st.1 0 4) = (0 : Int32) then
        some ((-3), st)
      else
        bnd1 (X8_findBest st) fun st9 =>
        cix ((13 * x1) + x2) 78 <|
        some (st9.1 9 ((13 * x1) + x2).toNatClampNeg, st9)
abbrev rm_X8_best : Room := { frames := 3, cells := 0, slots := 0, locals := 72 }
set_option maxHeartbeats 4000000 in
set_option maxRecDepth 100000 in
theorem w_X8_best_30 (X : Cx g p s m args meth c cX8_best 3 RX8 (some .int))  {st : Sg} {r9 : Int32} {st9 : Sg}  (h : X8_best_30 st = some (r9, st9)) (Y : Hp g nwM (ceM g) A s.heap st H locs)  (hl : lv_has ls 3 []) : W p l e rm_X8_best s m args below meth c H locs 0 0 (MQ below (QI g nwM (ceM g) A r9 st9) args s 0 0 A) (F0 m 30 ls []) := by
  have hx := X.1
  have hb := X.2.1
  unfold X8_best_30 at h
  refine lv_bipush (v := (-2)) hx hb dX8_best_30 (by decide) ?_
  exact k_iretW X Y h dX8_best_32
set_option maxHeartbeats 4000000 in
set_option maxRecDepth 100000 in
theorem w_X8_best (X : Cx g p s m args meth c cX8_best 3 RX8 (some .int)) {x1 : Int32} {x2 : Int32} {st : Sg} {r9 : Int32} {st9 : Sg}  (h : X8_best x1 x2 st = some (r9, st9)) (Y : Hp g nwM (ceM g) A s.heap st H locs)  (hl : lv_has ls 3 [(0, .ref (g.2.1 0)), (1, .int x1), (2, .int x2)]) : W p l e rm_X8_best s m args below meth c H locs 0 0 (MQ below (QI g nwM (ceM g) A r9 st9) args s 0 0 A) (F0 m 0 ls []) := by
  have hx := X.1
  have hb := X.2.1
  unfold X8_best at h
  refine lv_iload_n hx hb dX8_best_0 rfl (lv_at hl 1 rfl) ?_
  refine lv_i2l hx hb dX8_best_1 rfl ?_
  refine lv_lconst (v := 0) hx hb dX8_best_2 (by decide) ?_
  refine lv_aload_n hx hb dX8_best_3 rfl (lv_at hl 0 rfl) ?_
  refine k_get (v := .int (st.1 0 1)) X Y fl_8_78 0 (Nat.le_of_ble_eq_true rfl) rfl rfl dX8_best_4 ?_
  refine lv_iconst (v := 1) hx hb dX8_best_7 (by decide) ?_
  refine lv_isub hx hb dX8_best_8 ?_
  refine lv_i2l hx hb dX8_best_9 rfl ?_
  obtain ⟨v2, hc1, h⟩ := bnd1_s h
  refine k_cI Y (k_runS (As := [.long (x1.toInt64), .long 0, .long (((st.1 0 1) - 1).toInt64)]) (rest := []) X Y cl_8_83 (c_X8_in l hc1 _) ⟨rfl, rfl, Nat.le_of_ble_eq_true rfl, Nat.le_of_ble_eq_true rfl⟩ rfl hl.1 rfl (Nat.le_of_ble_eq_true rfl) dX8_best_10 ⟨Nat.zero_le _, Nat.zero_le _⟩) (fun H locs Y => ?_)
  refine lv_if_eq (tgt := 30) hx hb dX8_best_13 (by decide) (fun c3 => ?_) (fun c3 => ?_)
  · have h := ite_t h c3
    exact w_X8_best_30 X  h Y  (lv_sub hl [] rfl)
  · have h := ite_f h c3
    refine lv_iload_n hx hb dX8_best_16 rfl (lv_at hl 2 rfl) ?_
    refine lv_i2l hx hb dX8_best_17 rfl ?_
    refine lv_lconst (v := 1) hx hb dX8_best_18 (by decide) ?_
    refine lv_aload_n hx hb dX8_best_19 rfl (lv_at hl 0 rfl) ?_
    refine k_get (v := .int (st.1 0 0)) X Y fl_8_75 0 (Nat.le_of_ble_eq_true rfl) rfl rfl dX8_best_20 ?_
    refine lv_i2l hx hb dX8_best_23 rfl ?_
    obtain ⟨v5, hc4, h⟩ := bnd1_s h
    refine k_cI Y (k_runS (As := [.long (x2.toInt64), .long 1, .long ((st.1 0 0).toInt64)]) (rest := []) X Y cl_8_83 (c_X8_in l hc4 _) ⟨rfl, rfl, Nat.le_of_ble_eq_true rfl, Nat.le_of_ble_eq_true rfl⟩ rfl hl.1 rfl (Nat.le_of_ble_eq_true rfl) dX8_best_24 ⟨Nat.zero_le _, Nat.zero_le _⟩) (fun H locs Y => ?_)
    refine lv_if_ne (tgt := 33) hx hb dX8_best_27 (by decide) (fun c6 => ?_) (fun c6 => ?_)
    · have h := ite_f h c6
      refine lv_aload_n hx hb dX8_best_33 rfl (lv_at hl 0 rfl) ?_
      refine k_get (v := .int (st.1 0 4)) X Y fl_8_96 0 (Nat.le_of_ble_eq_true rfl) rfl rfl dX8_best_34 ?_
      refine lv_if_ne (tgt := 43) hx hb dX8_best_37 (by decide) (fun c7 => ?_) (fun c7 => ?_)
      · have h := ite_f h c7
        refine lv_aload_n hx hb dX8_best_43 rfl (lv_at hl 0 rfl) ?_
        obtain ⟨st9, hc8, h⟩ := bnd1_s h
        refine k_cV Y (k_runV (As := []) (rest := []) (o := 0) X Y cl_8_158 (c_X8_findBest l hc8 _) ⟨rfl, rfl, Nat.le_of_ble_eq_true rfl, Nat.le_of_ble_eq_true rfl⟩ (Nat.le_of_ble_eq_true rfl) rfl rfl hl.1 rfl (Nat.le_of_ble_eq_true rfl) dX8_best_44 ⟨Nat.zero_le _, Nat.zero_le _⟩) (fun H locs Y => ?_)
        refine lv_aload_n hx hb dX8_best_47 rfl (lv_at hl 0 rfl) ?_
        refine k_get (v := .ref (g.2.1 9)) X Y fl_8_35 0 (Nat.le_of_ble_eq_true rfl) rfl rfl dX8_best_48 ?_
        refine lv_bipush (v := 13) hx hb dX8_best_51 (by decide) ?_
        refine lv_iload_n hx hb dX8_best_53 rfl (lv_at hl 1 rfl) ?_
        refine lv_imul hx hb dX8_best_54 ?_
        refine lv_iload_n hx hb dX8_best_55 rfl (lv_at hl 2 rfl) ?_
        refine lv_iadd hx hb dX8_best_56 ?_
        obtain ⟨i10, h⟩ := cix_s h
        refine k_iald X Y 9 (Nat.le_of_ble_eq_true rfl) (fun _ _ => rfl) i10 dX8_best_57 ?_
        exact k_iretW X Y h dX8_best_58
      · have h := ite_t h c7
        refine lv_bipush (v := (-3)) hx hb dX8_best_40 (by decide) ?_
        exact k_iretW X Y h dX8_best_42
    · have h := ite_t h c6
      exact w_X8_best_30 X  h Y  (lv_sub hl [] rfl)
theorem c_X8_best (l : Launch) {g : Gx} {x1 : Int32} {x2 : Int32} {st : Sg} {r9 : Int32} {st9 : Sg} (h : X8_best x1 x2 st = some (r9, st9)) : MetI l yX8_best cX8_best 3 (some .int) rm_X8_best g nwM (ceM g) [.ref (g.2.1 0), .int x1, .int x2] st r9 st9 :=
  met_of (Qc := fun A => QI g nwM (ceM g) A r9 st9) (by decide) (Nat.le_of_ble_eq_true rfl) (fun p e s m below meth c A ls X Y hl => w_X8_best X h Y hl)
end LIFT
