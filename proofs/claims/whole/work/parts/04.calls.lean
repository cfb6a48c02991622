/-! contracts over the one world; entry, returns, calls -/
def PreW (g : Gx) (N : Nat) (ce : Ce) (st : Sg) (sz : Nat) (U : State) : Prop := U.heap.size = sz ∧ va_P g.1 vwCl (wdG N g.2.1 ce st) U.heap ∧ va_K g.1 vwCl (tysG g) U ∧ va_D (fun _ => True) (wdG N g.2.1 ce st) ∧ ∀ w ∈ NB, va_Nw w U
def PoW (g : Gx) (N : Nat) (ce : Ce) (A : Nat → Prop) (u : Sg) (t : State) : Prop := va_P g.1 vwCl (wdG N g.2.1 ce u) t.heap ∧ va_K g.1 vwCl (tysG g) t ∧ va_D A (wdG N g.2.1 ce u)
def AW (g : Gx) (N : Nat) (ce : Ce) (st : Sg) (sz : Nat) : Nat → Prop := va_A (wdG N g.2.1 ce st) sz
def QI (g : Gx) (N : Nat) (ce : Ce) (A : Nat → Prop) (r : Int32) (st' : Sg) : Array Value → State → Outcome → State → Prop := va_Qi (fun r' u => r' = r ∧ u = st') (PoW g N ce A) A
def QJ (g : Gx) (N : Nat) (ce : Ce) (A : Nat → Prop) (r : Int64) (st' : Sg) : Array Value → State → Outcome → State → Prop := va_Ql (fun r' u => r' = r ∧ u = st') (PoW g N ce A) A
def QV (g : Gx) (N : Nat) (ce : Ce) (A : Nat → Prop) (st' : Sg) : Array Value → State → Outcome → State → Prop := va_Qv (fun u => u = st') (PoW g N ce A) A
def QA (g : Gx) (N : Nat) (ce : Ce) (A : Nat → Prop) (r : Nat) (st' : Sg) : Array Value → State → Outcome → State → Prop := va_Qr (fun u => u = st') (fun u a t => a = g.2.1 r ∧ PoW g N ce A u t) A
def MetI (l : Launch) (y : MethodName) (cc : ByteArray) (maxL : Nat) (rt : Option FieldType) (rm : Room) (g : Gx) (N : Nat) (ce : Ce) (av : List Value) (st : Sg) (r : Int32) (st' : Sg) : Prop := ∀ sz, Met l y (.code y cc maxL rt :: TB) rm (va_Pc av (PreW g N ce st sz)) (QI g N ce (AW g N ce st sz) r st') 0 0 (AW g N ce st sz)
def MetJ (l : Launch) (y : MethodName) (cc : ByteArray) (maxL : Nat) (rt : Option FieldType) (rm : Room) (g : Gx) (N : Nat) (ce : Ce) (av : List Value) (st : Sg) (r : Int64) (st' : Sg) : Prop := ∀ sz, Met l y (.code y cc maxL rt :: TB) rm (va_Pc av (PreW g N ce st sz)) (QJ g N ce (AW g N ce st sz) r st') 0 0 (AW g N ce st sz)
def MetV (l : Launch) (y : MethodName) (cc : ByteArray) (maxL : Nat) (rt : Option FieldType) (rm : Room) (g : Gx) (N : Nat) (ce : Ce) (av : List Value) (st : Sg) (st' : Sg) : Prop := ∀ sz, Met l y (.code y cc maxL rt :: TB) rm (va_Pc av (PreW g N ce st sz)) (QV g N ce (AW g N ce st sz) st') 0 0 (AW g N ce st sz)
def MetA (l : Launch) (y : MethodName) (cc : ByteArray) (maxL : Nat) (rt : Option FieldType) (rm : Room) (g : Gx) (N : Nat) (ce : Ce) (av : List Value) (st : Sg) (r : Nat) (st' : Sg) : Prop := ∀ sz, Met l y (.code y cc maxL rt :: TB) rm (va_Pc av (PreW g N ce st sz)) (QA g N ce (AW g N ce st sz) r st') 0 0 (AW g N ce st sz)
section ENTRY
variable {p : Program} {l : Launch} {e : Env} {R : Room} {s : State} {m : MethodId} {args : Array Value} {below : List Frame} {meth : Method} {c : Code} {H H0 : Heap} {locs : List Loc} {cells slots : Nat} {Q : State → Prop}
variable {cc : ByteArray} {pc nL N : Nat} {ls : Array Slot} {rest : List Value} {g : Gx} {ce : Ce} {A : Nat → Prop} {st st' : Sg} {own : String} {rt : Option FieldType} {o : Nat}
theorem preW_blind (av : List Value) (sz : Nat) : FrameBlind (va_Pc av (PreW g N ce st sz)) := by
  intro a U gf mk q
  obtain ⟨q0, q1, qP, qK, qD, qN⟩ := q
  exact ⟨q0, q1, qP, va_K.moved (u := U) (U := U.calling gf mk a) (Vm.Alike.refl U.vm) qK, qD, nb_same (u := U) (U := U.calling gf mk a) rfl qN⟩
/-- a method's body: from its entry, with the world, the locals, the context -/
theorem met_of {y : MethodName} {maxL : Nat} {rm : Room} {Qc : (Nat → Prop) → Array Value → State → Outcome → State → Prop} {av : List Value} (hy : plainName y.cls = true) (hlen : (lg_sl av).length ≤ maxL)
    (body : ∀ (p : Program) (e : Env) (s : State) (m : MethodId) (below : List Frame) (meth : Method) (c : Code) (A : Nat → Prop) (ls : Array Slot), Cx g p s m av.toArray meth c cc maxL y.cls rt → Hp g N ce A s.heap st s.heap [] → lv_has ls maxL (lv_args 0 av) →
      W p l e rm s m av.toArray below meth c s.heap [] 0 0 (MQ below (Qc A) av.toArray s 0 0 A) (F0 m 0 ls [])) : ∀ sz, Met l y (.code y cc maxL rt :: TB) rm (va_Pc av (PreW g N ce st sz)) (Qc (AW g N ce st sz)) 0 0 (AW g N ce st sz) := by
  intro sz
  refine Met.ofW (cc := cc) (maxL := maxL) (ret := rt) hy rfl ?_
  intro p e s m args below meth c s₁ B hml hv
  obtain ⟨rfl, hsz, hP, hK, hD0, hN⟩ := hv
  have hts := atoms_spec (ws := .code y cc maxL rt :: TB) B.pre
  subst hsz
  have hl := lv_entry av (n := maxL) hlen
  rw [lg_entry_eq]
  generalize (lg_sl av ++ List.replicate (maxL - (lg_sl av).length) Slot.unset).toArray = ls at hl ⊢
  exact body p e s m below meth c (AW g N ce st s.heap.size) ls ⟨B.exec, B.bytes, hml, findClass_of_methodNamed B.named, fun w hw => hts w (List.mem_cons_of_mem _ hw), hN, hK, B.notSynchronized, B.returns⟩
    ⟨hP, hD0.self, va_S.rf, fun q h => Or.inr h⟩ hl
theorem poW_ret (X : Cx g p s m args meth c cc nL own rt) (Y : Hp g N ce A H0 st H locs) {t : State} (ht : t.heap = H) (hW : s.WarmedH t.vm) : PoW g N ce A st t := by
  obtain ⟨hP, hD, hS, hA⟩ := Y
  exact ⟨by rw [ht]; exact hP, va_K.moved hW.alike X.2.2.2.2.2.2.1, hD⟩
theorem k_iret (X : Cx g p s m args meth c cc nL own (some .int)) (Y : Hp g N ce A s.heap st H locs) {r : Int32} (hdg : decode cc pc = .ok (.ireturn, 1)) : W p l e R s m args below meth c H locs 0 0 (MQ below (QI g N ce A r st) args s 0 0 A) (F0 m pc ls [.int r]) :=
  W.iret X.1 X.2.1 X.2.2.2.2.2.2.2.2 (fun t ht hW => ⟨⟨r, st, rfl, ⟨rfl, rfl⟩, poW_ret X Y ht hW⟩, Y.2.2.1.F ht⟩) Y.2.2.1.2.2 hdg X.2.2.2.2.2.2.2.1
theorem nar_b {v : Int32} (h : v = 0 ∨ v = 1) : narrow .boolean (.int v) = .int v := by
  rcases h with rfl | rfl <;> rfl
theorem k_zret (X : Cx g p s m args meth c cc nL own (some .boolean)) (Y : Hp g N ce A s.heap st H locs) {r : Int32} (hr : r = 0 ∨ r = 1) (hdg : decode cc pc = .ok (.ireturn, 1)) : W p l e R s m args below meth c H locs 0 0 (MQ below (QI g N ce A r st) args s 0 0 A) (F0 m pc ls [.int r]) :=
  W.zret X.1 X.2.1 X.2.2.2.2.2.2.2.2 (nar_b hr) (fun t ht hW => ⟨⟨r, st, rfl, ⟨rfl, rfl⟩, poW_ret X Y ht hW⟩, Y.2.2.1.F ht⟩) Y.2.2.1.2.2 hdg X.2.2.2.2.2.2.2.1
theorem k_lret (X : Cx g p s m args meth c cc nL own (some .long)) (Y : Hp g N ce A s.heap st H locs) {r : Int64} (hdg : decode cc pc = .ok (.lreturn, 1)) : W p l e R s m args below meth c H locs 0 0 (MQ below (QJ g N ce A r st) args s 0 0 A) (F0 m pc ls [.long r]) :=
  W.lret X.1 X.2.1 X.2.2.2.2.2.2.2.2 (fun t ht hW => ⟨⟨r, st, rfl, ⟨rfl, rfl⟩, poW_ret X Y ht hW⟩, Y.2.2.1.F ht⟩) Y.2.2.1.2.2 hdg X.2.2.2.2.2.2.2.1
theorem k_vret (X : Cx g p s m args meth c cc nL own none) (Y : Hp g N ce A s.heap st H locs) (hdg : decode cc pc = .ok (.return_, 1)) : W p l e R s m args below meth c H locs 0 0 (MQ below (QV g N ce A st) args s 0 0 A) (F0 m pc ls []) :=
  W.vret X.1 X.2.1 X.2.2.2.2.2.2.2.2 (fun t ht hW => ⟨⟨st, rfl, rfl, poW_ret X Y ht hW⟩, Y.2.2.1.F ht⟩) Y.2.2.1.2.2 hdg X.2.2.2.2.2.2.2.1
theorem k_aret {C : String} (X : Cx g p s m args meth c cc nL own (some (.object C))) (Y : Hp g N ce A s.heap st H locs) {r : Nat} (hdg : decode cc pc = .ok (.areturn, 1)) : W p l e R s m args below meth c H locs 0 0 (MQ below (QA g N ce A r st) args s 0 0 A) (F0 m pc ls [.ref (g.2.1 r)]) :=
  W.aret X.1 X.2.1 X.2.2.2.2.2.2.2.2 (Or.inl ⟨C, rfl⟩) (Or.inr ⟨_, rfl⟩) (fun t ht hW => ⟨⟨st, g.2.1 r, rfl, rfl, rfl, poW_ret X Y ht hW⟩, Y.2.2.1.F ht⟩) Y.2.2.1.2.2 hdg X.2.2.2.2.2.2.2.1
/-- what the tables say of a call: of a receiver's method, of a static one -/
def CalV (own : String) (idx ci : Nat) (y : MethodName) (bytes : ByteArray) (maxL : Nat) (ret : Option FieldType) (n : Nat) : Prop :=
  (vwCl[ci]?.map fun q => q.1) = some y.cls ∧ (y.cls ≠ "java/lang/invoke/MethodHandle" ∧ y.cls ≠ "java/lang/invoke/VarHandle" ∧ (parseMethodDescriptor y.desc).map (fun d => d.parameters.length) = some n) ∧ Cond.code y bytes maxL ret ∈ TB ∧ Cond.instanceMethod y ∈ TB ∧ Cond.selects y.cls y y ∈ TB ∧ Cond.initialized y.cls ∈ TB ∧ Cond.methodLink own idx y ∈ TB
def CalS (own : String) (idx : Nat) (y : MethodName) (bytes : ByteArray) (maxL : Nat) (ret : Option FieldType) (n : Nat) : Prop :=
  (y.cls ≠ "java/lang/invoke/MethodHandle" ∧ y.cls ≠ "java/lang/invoke/VarHandle" ∧ (parseMethodDescriptor y.desc).map (fun d => d.parameters.length) = some n) ∧ Cond.code y bytes maxL ret ∈ TB ∧ Cond.static y ∈ TB ∧ Cond.initialized y.cls ∈ TB ∧ Cond.methodLink own idx y ∈ TB
theorem hp_free (Y : Hp g N ce A H0 st H locs) : ∀ q, AW g N ce st H.size q → A q := by
  obtain ⟨hP, hD, hS, hA⟩ := Y
  intro q h
  rcases h with ⟨k, e, h⟩ | h
  · exact hD.2 k _ h
  · exact hA q (Nat.le_trans hS.1 h)
theorem hp_pre (X : Cx g p s m args meth c cc nL own rt) (Y : Hp g N ce A H0 st H locs) {av : List Value} : ∀ U : State, U.heap = H → s.WarmedH U.vm → va_Pc av (PreW g N ce st H.size) av.toArray U := by
  obtain ⟨hx, hb, hml, hown, hts, hN, hK, hlk, hrt⟩ := X
  obtain ⟨hP, hD, hS, hA⟩ := Y
  intro U hU hW
  exact ⟨rfl, by rw [hU], by rw [hU]; exact hP, va_K.moved hW.alike hK, hD.weaken (fun _ _ _ _ => trivial), nb_warm hW hN⟩
theorem k_runV {y : MethodName} {bytes : ByteArray} {maxL n idx ci : Nat} {ret : Option FieldType} {rm : Room} {Qc : Array Value → State → Outcome → State → Prop} {As stk : List Value} {fs : List Value} (X : Cx g p s m args meth c cc nL own rt) (Y : Hp g N ce A H0 st H locs) (hc : CalV own idx ci y bytes maxL ret n)
    (hM : Met l y (.code y bytes maxL ret :: TB) rm (va_Pc (.ref (g.2.1 o) :: As) (PreW g N ce st H.size)) Qc 0 0 (AW g N ce st H.size)) (hrm : rm.cells = 0 ∧ rm.slots = 0 ∧ rm.frames + 1 ≤ R.frames ∧ 8 + (maxL + 11) + rm.locals ≤ R.locals) (ho : o < N) (he : ce o (st.1 o) (st.2 o) = .inr (ci, fs)) (hn : As.length = n) (hls : ls.size = nL) (hstk : stk = As.reverse ++ .ref (g.2.1 o) :: rest) (hW : (rest.map fun v => v.category).sum ≤ 8) (hdg : decode cc pc = .ok (.invokevirtual idx, 3)) (hf : cells ≤ R.cells ∧ slots ≤ R.slots) :
    va_Run p l e R s m args below meth c H locs cells slots 0 0 (F0 m pc ls stk) rest (Qc (Value.ref (g.2.1 o) :: As).toArray) (AW g N ce st H.size) := by
  obtain ⟨hC, hd, h1, h2, h3, h4, h5⟩ := hc
  obtain ⟨hx, hb, hml, hown, hts, hN, hK, hlk, hrt⟩ := id X
  obtain ⟨q, hq, hqy⟩ := Option.map_eq_some_iff.mp hC
  have hG : GoodIn TB (.code y bytes maxL ret :: TB) := goodIn_tb (fun _ h => h) (fun w h => (List.mem_cons.mp h).elim (fun e => e ▸ h1) id)
  have hrecv := va_recv hK Y.1 hq (wdG_get ho he)
  rw [hqy] at hrecv
  exact va_runV (Ts := TB) (C := y.cls) (b := g.2.1 o) (As := As) ⟨hx, hb, hml, hown, hts⟩ hM ⟨callB_of n hts hG rfl hrm.1 hrm.2.1 (hts _ h4) (hts _ h5) hd hrm.2.2, hts _ h2, hts _ h3⟩ ⟨preW_blind _ _, hrecv, hp_pre X Y⟩ rfl hn hls hstk (lv_room (m := m) (pc := pc) (ls := ls) (rest := stk) hW) hdg ⟨by simpa using hf.1, by simpa using hf.2⟩
theorem k_runS {y : MethodName} {bytes : ByteArray} {maxL n idx : Nat} {ret : Option FieldType} {rm : Room} {Qc : Array Value → State → Outcome → State → Prop} {As stk : List Value} (X : Cx g p s m args meth c cc nL own rt) (Y : Hp g N ce A H0 st H locs) (hc : CalS own idx y bytes maxL ret n)
    (hM : Met l y (.code y bytes maxL ret :: TB) rm (va_Pc As (PreW g N ce st H.size)) Qc 0 0 (AW g N ce st H.size)) (hrm : rm.cells = 0 ∧ rm.slots = 0 ∧ rm.frames + 1 ≤ R.frames ∧ 8 + (maxL + 11) + rm.locals ≤ R.locals) (hn : As.length = n) (hls : ls.size = nL) (hstk : stk = As.reverse ++ rest) (hW : (rest.map fun v => v.category).sum ≤ 8) (hdg : decode cc pc = .ok (.invokestatic idx, 3)) (hf : cells ≤ R.cells ∧ slots ≤ R.slots) :
    va_Run p l e R s m args below meth c H locs cells slots 0 0 (F0 m pc ls stk) rest (Qc As.toArray) (AW g N ce st H.size) := by
  obtain ⟨hd, h1, h2, h4, h5⟩ := hc
  obtain ⟨hx, hb, hml, hown, hts, hN, hK, hlk, hrt⟩ := id X
  have hG : GoodIn TB (.code y bytes maxL ret :: TB) := goodIn_tb (fun _ h => h) (fun w h => (List.mem_cons.mp h).elim (fun e => e ▸ h1) id)
  exact va_runS (Ts := TB) (As := As) ⟨hx, hb, hml, hown, hts⟩ hM ⟨callB_of n hts hG rfl hrm.1 hrm.2.1 (hts _ h4) (hts _ h5) hd hrm.2.2, hts _ h2⟩ ⟨preW_blind _ _, hp_pre X Y⟩ rfl hn hls hstk (lv_room (m := m) (pc := pc) (ls := ls) (rest := stk) hW) hdg ⟨by simpa using hf.1, by simpa using hf.2⟩
theorem k_cI {As : Array Value} {r : Int32} {stk : List Value} (Y : Hp g N ce A H0 st H locs) (hr : va_Run p l e R s m args below meth c H locs cells slots 0 0 (F0 m pc ls stk) rest (QI g N ce (AW g N ce st H.size) r st' As) (AW g N ce st H.size))
    (kk : ∀ (H1 : Heap) (locs1 : List Loc), Hp g N ce A H0 st' H1 locs1 → W p l e R s m args below meth c H1 locs1 cells slots Q (F0 m (pc + 3) ls (.int r :: rest))) : W p l e R s m args below meth c H locs cells slots Q (F0 m pc ls stk) := by
  have hF := hp_free Y
  refine va_calli hr Y.2.2.1 (fun q _ h => hF q h) hF (fun r' u t H1 locs1 ht hvm hw hB hz hk hS => ?_)
  obtain ⟨rfl, rfl⟩ := hw
  obtain ⟨hP1, hK1, hD1⟩ := hB
  rw [ht] at hP1
  exact kk H1 locs1 ⟨hP1, hD1.weaken (fun _ q _ h => hF q.1 h), hS, Y.2.2.2⟩
theorem k_cJ {As : Array Value} {r : Int64} {stk : List Value} (Y : Hp g N ce A H0 st H locs) (hr : va_Run p l e R s m args below meth c H locs cells slots 0 0 (F0 m pc ls stk) rest (QJ g N ce (AW g N ce st H.size) r st' As) (AW g N ce st H.size))
    (kk : ∀ (H1 : Heap) (locs1 : List Loc), Hp g N ce A H0 st' H1 locs1 → W p l e R s m args below meth c H1 locs1 cells slots Q (F0 m (pc + 3) ls (.long r :: rest))) : W p l e R s m args below meth c H locs cells slots Q (F0 m pc ls stk) := by
  have hF := hp_free Y
  refine va_calll hr Y.2.2.1 (fun q _ h => hF q h) hF (fun r' u t H1 locs1 ht hvm hw hB hz hk hS => ?_)
  obtain ⟨rfl, rfl⟩ := hw
  obtain ⟨hP1, hK1, hD1⟩ := hB
  rw [ht] at hP1
  exact kk H1 locs1 ⟨hP1, hD1.weaken (fun _ q _ h => hF q.1 h), hS, Y.2.2.2⟩
theorem k_cV {As : Array Value} {stk : List Value} (Y : Hp g N ce A H0 st H locs) (hr : va_Run p l e R s m args below meth c H locs cells slots 0 0 (F0 m pc ls stk) rest (QV g N ce (AW g N ce st H.size) st' As) (AW g N ce st H.size))
    (kk : ∀ (H1 : Heap) (locs1 : List Loc), Hp g N ce A H0 st' H1 locs1 → W p l e R s m args below meth c H1 locs1 cells slots Q (F0 m (pc + 3) ls rest)) : W p l e R s m args below meth c H locs cells slots Q (F0 m pc ls stk) := by
  have hF := hp_free Y
  refine va_callv hr Y.2.2.1 (fun q _ h => hF q h) hF (fun u t H1 locs1 ht hvm hw hB hz hk hS => ?_)
  subst hw
  obtain ⟨hP1, hK1, hD1⟩ := hB
  rw [ht] at hP1
  exact kk H1 locs1 ⟨hP1, hD1.weaken (fun _ q _ h => hF q.1 h), hS, Y.2.2.2⟩
theorem k_cA {As : Array Value} {r : Nat} {stk : List Value} (Y : Hp g N ce A H0 st H locs) (hr : va_Run p l e R s m args below meth c H locs cells slots 0 0 (F0 m pc ls stk) rest (QA g N ce (AW g N ce st H.size) r st' As) (AW g N ce st H.size))
    (kk : ∀ (H1 : Heap) (locs1 : List Loc), Hp g N ce A H0 st' H1 locs1 → W p l e R s m args below meth c H1 locs1 cells slots Q (F0 m (pc + 3) ls (.ref (g.2.1 r) :: rest))) : W p l e R s m args below meth c H locs cells slots Q (F0 m pc ls stk) := by
  have hF := hp_free Y
  refine va_callr hr Y.2.2.1 (fun q _ h => hF q h) hF (fun u ra t H1 locs1 ht hvm hw hB hz hk hS => ?_)
  subst hw
  obtain ⟨rfl, hP1, hK1, hD1⟩ := hB
  rw [ht] at hP1
  exact kk H1 locs1 ⟨hP1, hD1.weaken (fun _ q _ h => hF q.1 h), hS, Y.2.2.2⟩
/-- Math.max, Math.min -/
def CalMx (own : String) (idx : Nat) : Prop := Cond.methodLink own idx Lib.Math.max.name ∈ TB ∧ Cond.static Lib.Math.max.name ∈ TB ∧ Cond.initialized "java/lang/Math" ∈ TB ∧ Cond.code Lib.Math.max.name Lib.Math.max.code 2 (some .int) ∈ TB
def CalMn (own : String) (idx : Nat) : Prop := Cond.methodLink own idx Lib.Math.min.name ∈ TB ∧ Cond.static Lib.Math.min.name ∈ TB ∧ Cond.initialized "java/lang/Math" ∈ TB ∧ Cond.code Lib.Math.min.name Lib.Math.min.code 2 (some .int) ∈ TB
theorem k_max (X : Cx g p s m args meth c cc nL own rt) {idx : Nat} (hc : CalMx own idx) (hls : ls.size = nL) (hR : 1 ≤ R.frames ∧ (rest.map fun v => v.category).sum + 13 ≤ R.locals) (hf : cells ≤ R.cells ∧ slots ≤ R.slots) {x y : Int32} (hdg : decode cc pc = .ok (.invokestatic idx, 3))
    (kk : W p l e R s m args below meth c H locs cells slots Q (F0 m (pc + 3) ls (.int (if x < y then y else x) :: rest))) : W p l e R s m args below meth c H locs cells slots Q (F0 m pc ls (.int y :: .int x :: rest)) := by
  obtain ⟨hx, hb, hml, hown, hts, hN, hK, hlk, hrt⟩ := X
  obtain ⟨h1, h2, h3, h4⟩ := hc
  exact va_mmax hx hb (by rw [hml, hls]) hown (hts _ h1) (hts _ h2) (hts _ h3) (hts _ h4) hR.1 hR.2 hf.1 hf.2 hdg kk
theorem k_min (X : Cx g p s m args meth c cc nL own rt) {idx : Nat} (hc : CalMn own idx) (hls : ls.size = nL) (hR : 1 ≤ R.frames ∧ (rest.map fun v => v.category).sum + 13 ≤ R.locals) (hf : cells ≤ R.cells ∧ slots ≤ R.slots) {x y : Int32} (hdg : decode cc pc = .ok (.invokestatic idx, 3))
    (kk : W p l e R s m args below meth c H locs cells slots Q (F0 m (pc + 3) ls (.int (if y < x then y else x) :: rest))) : W p l e R s m args below meth c H locs cells slots Q (F0 m pc ls (.int y :: .int x :: rest)) := by
  obtain ⟨hx, hb, hml, hown, hts, hN, hK, hlk, hrt⟩ := X
  obtain ⟨h1, h2, h3, h4⟩ := hc
  exact va_mmin hx hb (by rw [hml, hls]) hown (hts _ h1) (hts _ h2) (hts _ h3) (hts _ h4) hR.1 hR.2 hf.1 hf.2 hdg kk
theorem k_ldc2 (X : Cx g p s m args meth c cc nL own rt) {idx : Nat} {v : Int64} (hc : Cond.constantLong own idx v ∈ TB) (hdg : decode cc pc = .ok (.ldc2_w idx, 3))
    (kk : W p l e R s m args below meth c H locs cells slots Q (F0 m (pc + 3) ls (.long v :: rest))) : W p l e R s m args below meth c H locs cells slots Q (F0 m pc ls rest) :=
  lv_ldc2 X.1 X.2.1 X.2.2.2.1 (X.2.2.2.2.1 _ hc) hdg kk
end ENTRY
