/-! my own rows: one fixed world of cells, what it holds is st; a row an instruction, a row a call -/
def isNest : Cond → Bool
  | .fieldLinkNest .. => true
  | .methodLinkNest .. => true
  | _ => false
def TB : List Cond := lw_tbl.filter goodWord
def NB : List Cond := tables_1.filter isNest
theorem tb_in {n : Nat} {w : Cond} (h : tables_1[n]? = some w) (hg : goodWord w = true) : w ∈ TB := List.mem_filter.mpr ⟨List.mem_append_right _ (List.mem_of_getElem? h), hg⟩
theorem tb_sel {n : Nat} {w : Cond} (h : (k2_sels lw_privs)[n]? = some w) (hg : goodWord w = true) : w ∈ TB := List.mem_filter.mpr ⟨List.mem_append_left _ (List.mem_of_getElem? h), hg⟩
theorem nb_in {n : Nat} {w : Cond} (h : tables_1[n]? = some w) (hg : isNest w = true) : w ∈ NB := List.mem_filter.mpr ⟨List.mem_of_getElem? h, hg⟩
theorem tb_good {w : Cond} (h : w ∈ TB) : goodWord w = true := (List.mem_filter.mp h).2
theorem goodIn_tb {big ws : List Cond} (hb : ∀ w ∈ TB, w ∈ big) (h : ∀ w ∈ ws, w ∈ TB) : GoodIn big ws := fun w hw => ⟨hb w (h w hw), good_of_word (tb_good (h w hw))⟩
theorem nb_warm {s U : State} (hW : s.WarmedH U.vm) (h : ∀ w ∈ NB, va_Nw w s) : ∀ w ∈ NB, va_Nw w U := by
  intro w hw
  have h1 := h w hw
  have h2 : isNest w = true := (List.mem_filter.mp hw).2
  cases w with
  | fieldLinkNest a i b n d x => exact va_Nw.warmF hW h1
  | methodLinkNest a i x y => exact va_Nw.warmM hW h1
  | _ => cases h2
theorem nb_same {u U : State} (e : u.vm = U.vm) (h : ∀ w ∈ NB, va_Nw w u) : ∀ w ∈ NB, va_Nw w U := by
  intro w hw
  have h1 := h w hw
  have h2 : isNest w = true := (List.mem_filter.mp hw).2
  cases w with
  | fieldLinkNest a i b n d x => exact va_Nw.same rfl e h1
  | methodLinkNest a i x y => exact va_Nw.same rfl e h1
  | _ => cases h2
theorem nb_of {args : Array Value} {s : State} (h : ∀ w ∈ tables_1, w.before args s = true) : ∀ w ∈ NB, va_Nw w s := by
  intro w hw
  have h1 := h w (List.mem_filter.mp hw).1
  have h2 : isNest w = true := (List.mem_filter.mp hw).2
  cases w with
  | fieldLinkNest a i b n d x => exact va_Nw.of rfl h1
  | methodLinkNest a i x y => exact va_Nw.of rfl h1
  | _ => cases h2
/-- what the cells hold: ints and longs by the cell's place and the slot -/
abbrev Sg : Type := (Nat → Nat → Int32) × (Nat → Nat → Int64)
def sI (st : Sg) (o k : Nat) (v : Int32) : Sg := (va_up st.1 o (upd (st.1 o) k v), st.2)
def sJ (st : Sg) (o k : Nat) (v : Int64) : Sg := (st.1, va_up st.2 o (vp_updL (st.2 o) k v))
def sIr (st : Sg) (o : Nat) (f : Nat → Int32) : Sg := (va_up st.1 o f, st.2)
def sJr (st : Sg) (o : Nat) (f : Nat → Int64) : Sg := (st.1, va_up st.2 o f)
abbrev Ce : Type := Nat → (Nat → Int32) → (Nat → Int64) → va_E
/-- fields' and classes' numbers, addresses of the places, classes of int[], long[], int[][], long[][] -/
abbrev Gx : Type := va_G × (Nat → Nat) × ClassId × ClassId × ClassId × ClassId
def tysG (g : Gx) : List (ClassId × FieldType) := [(g.2.2.1, .int), (g.2.2.2.1, .long), (g.2.2.2.2.1, .array .int), (g.2.2.2.2.2, .array .long)]
def wdG (N : Nat) (ad : Nat → Nat) (ce : Ce) (st : Sg) : va_W := (List.range N).map (fun k => (ad k, ce k (st.1 k) (st.2 k)))
theorem wdG_get {N : Nat} {ad : Nat → Nat} {ce : Ce} {st : Sg} {k : Nat} (h : k < N) {e : va_E} (he : ce k (st.1 k) (st.2 k) = e) : (wdG N ad ce st)[k]? = some (ad k, e) := by
  subst he
  simp [wdG, h]
theorem wdG_set {N : Nat} {ad : Nat → Nat} {ce : Ce} {st st' : Sg} {o : Nat} {e : va_E} (h1 : ∀ j, j ≠ o → st'.1 j = st.1 j) (h2 : ∀ j, j ≠ o → st'.2 j = st.2 j) (he : ce o (st'.1 o) (st'.2 o) = e) : (wdG N ad ce st).set o (ad o, e) = wdG N ad ce st' := by
  subst he
  apply List.ext_getElem?
  intro k
  by_cases hk : k = o
  · subst hk
    by_cases hN : k < N
    · simp [wdG, List.getElem?_set, hN]
    · simp [wdG, hN]
  · simp only [wdG, List.getElem?_set]
    rw [if_neg (Ne.symm hk)]
    by_cases hN : k < N
    · simp [hN, h1 k hk, h2 k hk]
    · simp [hN]
/-- the heap holds st, apart, and nothing else was written since H0 -/
def Hp (g : Gx) (N : Nat) (ce : Ce) (A : Nat → Prop) (H0 : Heap) (st : Sg) (H : Heap) (locs : List Loc) : Prop :=
  va_P g.1 vwCl (wdG N g.2.1 ce st) H ∧ va_D A (wdG N g.2.1 ce st) ∧ va_S A H0 H locs ∧ ∀ q, H0.size ≤ q → A q
def Cx (g : Gx) (p : Program) (s : State) (m : MethodId) (args : Array Value) (meth : Method) (c : Code) (cc : ByteArray) (nL : Nat) (own : String) (rt : Option FieldType) : Prop :=
  p.tables.exec = Jvm.exec ∧ c.code = cc ∧ c.maxLocals = nL ∧ s.vm.findClass own = some m.cls ∧ (∀ w ∈ TB, w.before args s = true) ∧ (∀ w ∈ NB, va_Nw w s) ∧ va_K g.1 vwCl (tysG g) s ∧ meth.locks = false ∧ meth.sig.returnType = rt
def Fld (own : String) (idx ci k : Nat) (fin : Bool) (ty : FieldType) : Prop :=
  ∃ (C : String) (T : u_T) (N : Nat) (t0 : Nat → FieldType), vwCl[ci]? = some (C, T, N) ∧ k < N ∧ (∀ w ∈ u_ws C T N, w ∈ TB) ∧ (∀ k, k < N → parseFieldDescriptor (T k).2.2.1 = some (t0 k)) ∧ (∀ a, a < N → ∀ b, b < N → a ≠ b → (T a).2.1 ≠ (T b).2.1) ∧ (T k).2.2.2 = fin ∧ parseFieldDescriptor (T k).2.2.1 = some ty ∧
    (Cond.fieldLink own idx (T k).1 (T k).2.1 (T k).2.2.1 ∈ TB ∨ ∃ host, Cond.fieldLinkNest own idx (T k).1 (T k).2.1 (T k).2.2.1 host ∈ NB)
section KIT
variable {p : Program} {l : Launch} {e : Env} {R : Room} {s : State} {m : MethodId} {args : Array Value} {below : List Frame} {meth : Method} {c : Code} {H H0 : Heap} {locs : List Loc} {cells slots : Nat} {Q : State → Prop}
variable {cc : ByteArray} {pc nL N : Nat} {ls : Array Slot} {rest : List Value} {g : Gx} {ce : Ce} {A : Nat → Prop} {st st' : Sg} {own : String} {rt : Option FieldType} {o : Nat}
theorem k_get (X : Cx g p s m args meth c cc nL own rt) (Y : Hp g N ce A H0 st H locs) {idx ci k : Nat} {fin : Bool} {ty : FieldType} (hf : Fld own idx ci k fin ty) (o : Nat) (ho : o < N) {fs : List Value} (he : ce o (st.1 o) (st.2 o) = .inr (ci, fs)) {v : Value} (hv : fs[k]? = some v) (hdg : decode cc pc = .ok (.getfield idx, 3))
    (kk : W p l e R s m args below meth c H locs cells slots Q (F0 m (pc + 3) ls (v :: rest))) : W p l e R s m args below meth c H locs cells slots Q (F0 m pc ls (.ref (g.2.1 o) :: rest)) := by
  obtain ⟨hx, hb, hml, hown, hts, hN, hK, hlk, hrt⟩ := X
  obtain ⟨hP, hD, hS, hA⟩ := Y
  obtain ⟨C, T, N', t0, hc, hk, hin, hty, hnm, hfin, hd, hl⟩ := hf
  rcases hl with hl | ⟨host, hl⟩
  · exact va_get hx hb hts hin hown hK hP o (wdG_get ho he) hc k hk (hts _ hl) (fun _ h => h) hv hdg kk
  · exact va_getN hx hb hts hin hown hK hP o (wdG_get ho he) hc k hk (va_Nw.use rfl (hN _ hl)) (fun _ h => h) hv hdg kk
theorem k_putI (X : Cx g p s m args meth c cc nL own rt) (Y : Hp g N ce A H0 st H locs) {idx ci k : Nat} {ty : FieldType} (hf : Fld own idx ci k false ty) (o : Nat) (ho : o < N) {fs : List Value} (he : ce o (st.1 o) (st.2 o) = .inr (ci, fs)) {v : Int32} (hn : narrow ty (.int v) = .int v) (hfit : fits ty (.int v) = true) (hl0 : k < fs.length) (hs : ce o (upd (st.1 o) k v) (st.2 o) = .inr (ci, fs.set k (.int v))) (hdg : decode cc pc = .ok (.putfield idx, 3))
    (kk : ∀ (H1 : Heap) (locs1 : List Loc), Hp g N ce A H0 (sI st o k v) H1 locs1 → W p l e R s m args below meth c H1 locs1 cells slots Q (F0 m (pc + 3) ls rest)) : W p l e R s m args below meth c H locs cells slots Q (F0 m pc ls (.int v :: .ref (g.2.1 o) :: rest)) := by
  obtain ⟨hx, hb, hml, hown, hts, hN, hK, hlk, hrt⟩ := X
  obtain ⟨hP, hD, hS, hA⟩ := Y
  obtain ⟨C, T, N', t0, hc, hk, hin, hty, hnm, hfin, hd, hl⟩ := hf
  have hset : (wdG N g.2.1 ce st).set o (g.2.1 o, .inr (ci, fs.set k (.int v))) = wdG N g.2.1 ce (sI st o k v) := by
    refine wdG_set (fun j hj => ?_) (fun j hj => rfl) ?_
    · simp [sI, va_up, hj]
    · rw [← hs]; simp [sI, va_up]
  rcases hl with hl | ⟨host, hl⟩
  · refine va_put (v := .int v) (ty := ty) hx hb hts hin t0 hty hnm hown hK hP hD hS o (wdG_get ho he) hc k hk (hts _ hl) (fun _ h => h) hfin hd hn hfit hl0 hdg (fun H1 locs1 hP1 hD1 hS1 => ?_)
    rw [hset] at hP1 hD1
    exact kk H1 locs1 ⟨hP1, hD1, hS1, hA⟩
  · refine va_putN (v := .int v) (ty := ty) hx hb hts hin t0 hty hnm hown hK hP hD hS o (wdG_get ho he) hc k hk (va_Nw.use rfl (hN _ hl)) (fun _ h => h) hfin hd hn hfit hl0 hdg (fun H1 locs1 hP1 hD1 hS1 => ?_)
    rw [hset] at hP1 hD1
    exact kk H1 locs1 ⟨hP1, hD1, hS1, hA⟩
theorem k_putJ (X : Cx g p s m args meth c cc nL own rt) (Y : Hp g N ce A H0 st H locs) {idx ci k : Nat} (hf : Fld own idx ci k false .long) (o : Nat) (ho : o < N) {fs : List Value} (he : ce o (st.1 o) (st.2 o) = .inr (ci, fs)) {v : Int64} (hl0 : k < fs.length) (hs : ce o (st.1 o) (vp_updL (st.2 o) k v) = .inr (ci, fs.set k (.long v))) (hdg : decode cc pc = .ok (.putfield idx, 3))
    (kk : ∀ (H1 : Heap) (locs1 : List Loc), Hp g N ce A H0 (sJ st o k v) H1 locs1 → W p l e R s m args below meth c H1 locs1 cells slots Q (F0 m (pc + 3) ls rest)) : W p l e R s m args below meth c H locs cells slots Q (F0 m pc ls (.long v :: .ref (g.2.1 o) :: rest)) := by
  obtain ⟨hx, hb, hml, hown, hts, hN, hK, hlk, hrt⟩ := X
  obtain ⟨hP, hD, hS, hA⟩ := Y
  obtain ⟨C, T, N', t0, hc, hk, hin, hty, hnm, hfin, hd, hl⟩ := hf
  have hset : (wdG N g.2.1 ce st).set o (g.2.1 o, .inr (ci, fs.set k (.long v))) = wdG N g.2.1 ce (sJ st o k v) := by
    refine wdG_set (fun j hj => rfl) (fun j hj => ?_) ?_
    · simp [sJ, va_up, hj]
    · rw [← hs]; simp [sJ, va_up]
  rcases hl with hl | ⟨host, hl⟩
  · refine va_put (v := .long v) (ty := .long) hx hb hts hin t0 hty hnm hown hK hP hD hS o (wdG_get ho he) hc k hk (hts _ hl) (fun _ h => h) hfin hd rfl rfl hl0 hdg (fun H1 locs1 hP1 hD1 hS1 => ?_)
    rw [hset] at hP1 hD1
    exact kk H1 locs1 ⟨hP1, hD1, hS1, hA⟩
  · refine va_putN (v := .long v) (ty := .long) hx hb hts hin t0 hty hnm hown hK hP hD hS o (wdG_get ho he) hc k hk (va_Nw.use rfl (hN _ hl)) (fun _ h => h) hfin hd rfl rfl hl0 hdg (fun H1 locs1 hP1 hD1 hS1 => ?_)
    rw [hset] at hP1 hD1
    exact kk H1 locs1 ⟨hP1, hD1, hS1, hA⟩
/-- the place o is an int[] of n, a long[] of n, an array of n rows that lie from the place b on -/
def IsI (g : Gx) (ce : Ce) (o n : Nat) : Prop := ∀ f h, ce o f h = .inl (g.2.2.1, n, .inl f)
def IsJ (g : Gx) (ce : Ce) (o n : Nat) : Prop := ∀ f h, ce o f h = .inl (g.2.2.2.1, n, .inr (.inl h))
def IsII (g : Gx) (ce : Ce) (o n b : Nat) : Prop := ∀ f h, ce o f h = .inl (g.2.2.2.2.1, n, .inr (.inr (.inr (.inr (fun i => if i < n then some (g.2.1 (b + i)) else none)))))
def IsJJ (g : Gx) (ce : Ce) (o n b : Nat) : Prop := ∀ f h, ce o f h = .inl (g.2.2.2.2.2, n, .inr (.inr (.inr (.inr (fun i => if i < n then some (g.2.1 (b + i)) else none)))))
theorem vp_lt {i : Int32} {n : Nat} (h : vp_in i n) : i.toNatClampNeg < n := Nat.not_le.mp fun q => h (Or.inr q)
theorem k_iald (X : Cx g p s m args meth c cc nL own rt) (Y : Hp g N ce A H0 st H locs) (o : Nat) (ho : o < N) {n : Nat} (he : IsI g ce o n) {i : Int32} (hin : vp_in i n) (hdg : decode cc pc = .ok (.iaload, 1))
    (kk : W p l e R s m args below meth c H locs cells slots Q (F0 m (pc + 1) ls (.int (st.1 o i.toNatClampNeg) :: rest))) : W p l e R s m args below meth c H locs cells slots Q (F0 m pc ls (.int i :: .ref (g.2.1 o) :: rest)) := by
  obtain ⟨hx, hb, hml, hown, hts, hN, hK, hlk, hrt⟩ := X
  obtain ⟨hP, hD, hS, hA⟩ := Y
  exact va_iald hx hb hK hP o 0 (wdG_get ho (he _ _)) rfl hin hdg kk
theorem k_lald (X : Cx g p s m args meth c cc nL own rt) (Y : Hp g N ce A H0 st H locs) (o : Nat) (ho : o < N) {n : Nat} (he : IsJ g ce o n) {i : Int32} (hin : vp_in i n) (hdg : decode cc pc = .ok (.laload, 1))
    (kk : W p l e R s m args below meth c H locs cells slots Q (F0 m (pc + 1) ls (.long (st.2 o i.toNatClampNeg) :: rest))) : W p l e R s m args below meth c H locs cells slots Q (F0 m pc ls (.int i :: .ref (g.2.1 o) :: rest)) := by
  obtain ⟨hx, hb, hml, hown, hts, hN, hK, hlk, hrt⟩ := X
  obtain ⟨hP, hD, hS, hA⟩ := Y
  exact va_lald hx hb hK hP o 1 (wdG_get ho (he _ _)) rfl hin hdg kk
theorem k_iast (X : Cx g p s m args meth c cc nL own rt) (Y : Hp g N ce A H0 st H locs) (o : Nat) (ho : o < N) {n : Nat} (he : IsI g ce o n) {i v : Int32} (hin : vp_in i n) (hdg : decode cc pc = .ok (.iastore, 1))
    (kk : ∀ (H1 : Heap) (locs1 : List Loc), Hp g N ce A H0 (sI st o i.toNatClampNeg v) H1 locs1 → W p l e R s m args below meth c H1 locs1 cells slots Q (F0 m (pc + 1) ls rest)) : W p l e R s m args below meth c H locs cells slots Q (F0 m pc ls (.int v :: .int i :: .ref (g.2.1 o) :: rest)) := by
  obtain ⟨hx, hb, hml, hown, hts, hN, hK, hlk, hrt⟩ := X
  obtain ⟨hP, hD, hS, hA⟩ := Y
  refine va_iast hx hb hK hP hD hS o 0 (wdG_get ho (he _ _)) rfl hin hdg (fun H1 locs1 hP1 hD1 hS1 => ?_)
  have hset : (wdG N g.2.1 ce st).set o (g.2.1 o, .inl (g.2.2.1, n, .inl (upd (st.1 o) i.toNatClampNeg v))) = wdG N g.2.1 ce (sI st o i.toNatClampNeg v) := by
    refine wdG_set (fun j hj => ?_) (fun j hj => rfl) ?_
    · simp [sI, va_up, hj]
    · rw [he]; simp [sI, va_up]
  rw [hset] at hP1 hD1
  exact kk H1 locs1 ⟨hP1, hD1, hS1, hA⟩
theorem k_last (X : Cx g p s m args meth c cc nL own rt) (Y : Hp g N ce A H0 st H locs) (o : Nat) (ho : o < N) {n : Nat} (he : IsJ g ce o n) {i : Int32} {v : Int64} (hin : vp_in i n) (hdg : decode cc pc = .ok (.lastore, 1))
    (kk : ∀ (H1 : Heap) (locs1 : List Loc), Hp g N ce A H0 (sJ st o i.toNatClampNeg v) H1 locs1 → W p l e R s m args below meth c H1 locs1 cells slots Q (F0 m (pc + 1) ls rest)) : W p l e R s m args below meth c H locs cells slots Q (F0 m pc ls (.long v :: .int i :: .ref (g.2.1 o) :: rest)) := by
  obtain ⟨hx, hb, hml, hown, hts, hN, hK, hlk, hrt⟩ := X
  obtain ⟨hP, hD, hS, hA⟩ := Y
  refine va_last hx hb hK hP hD hS o 1 (wdG_get ho (he _ _)) rfl hin hdg (fun H1 locs1 hP1 hD1 hS1 => ?_)
  have hset : (wdG N g.2.1 ce st).set o (g.2.1 o, .inl (g.2.2.2.1, n, .inr (.inl (vp_updL (st.2 o) i.toNatClampNeg v)))) = wdG N g.2.1 ce (sJ st o i.toNatClampNeg v) := by
    refine wdG_set (fun j hj => rfl) (fun j hj => ?_) ?_
    · simp [sJ, va_up, hj]
    · rw [he]; simp [sJ, va_up]
  rw [hset] at hP1 hD1
  exact kk H1 locs1 ⟨hP1, hD1, hS1, hA⟩
theorem k_aaldI (X : Cx g p s m args meth c cc nL own rt) (Y : Hp g N ce A H0 st H locs) (o : Nat) (ho : o < N) {n b : Nat} (he : IsII g ce o n b) {i : Int32} (hin : vp_in i n) (hdg : decode cc pc = .ok (.aaload, 1))
    (kk : W p l e R s m args below meth c H locs cells slots Q (F0 m (pc + 1) ls (.ref (g.2.1 (b + i.toNatClampNeg)) :: rest))) : W p l e R s m args below meth c H locs cells slots Q (F0 m pc ls (.int i :: .ref (g.2.1 o) :: rest)) := by
  obtain ⟨hx, hb, hml, hown, hts, hN, hK, hlk, hrt⟩ := X
  obtain ⟨hP, hD, hS, hA⟩ := Y
  have hlt := vp_lt hin
  have hc := hP o _ (wdG_get ho (he _ _))
  refine W.aald (v := va_rf (if i.toNatClampNeg < n then some (g.2.1 (b + i.toNatClampNeg)) else none)) (ty := .array .int) hx hb hc ((hK.2 2 _ rfl).1 n (fun j => va_rf (if j < n then some (g.2.1 (b + j)) else none))) rfl (fun q => by cases q) (by show ¬ (i < 0 ∨ (arrV _ _ _).slots.size ≤ _); rw [arrV_size]; exact hin) (by show (arrV _ _ _).slots[_]? = _; rw [arrV_read _ _ hlt]) rfl rfl hdg ?_
  rw [if_pos hlt]
  exact kk
theorem k_aaldJ (X : Cx g p s m args meth c cc nL own rt) (Y : Hp g N ce A H0 st H locs) (o : Nat) (ho : o < N) {n b : Nat} (he : IsJJ g ce o n b) {i : Int32} (hin : vp_in i n) (hdg : decode cc pc = .ok (.aaload, 1))
    (kk : W p l e R s m args below meth c H locs cells slots Q (F0 m (pc + 1) ls (.ref (g.2.1 (b + i.toNatClampNeg)) :: rest))) : W p l e R s m args below meth c H locs cells slots Q (F0 m pc ls (.int i :: .ref (g.2.1 o) :: rest)) := by
  obtain ⟨hx, hb, hml, hown, hts, hN, hK, hlk, hrt⟩ := X
  obtain ⟨hP, hD, hS, hA⟩ := Y
  have hlt := vp_lt hin
  have hc := hP o _ (wdG_get ho (he _ _))
  refine W.aald (v := va_rf (if i.toNatClampNeg < n then some (g.2.1 (b + i.toNatClampNeg)) else none)) (ty := .array .long) hx hb hc ((hK.2 3 _ rfl).1 n (fun j => va_rf (if j < n then some (g.2.1 (b + j)) else none))) rfl (fun q => by cases q) (by show ¬ (i < 0 ∨ (arrV _ _ _).slots.size ≤ _); rw [arrV_size]; exact hin) (by show (arrV _ _ _).slots[_]? = _; rw [arrV_read _ _ hlt]) rfl rfl hdg ?_
  rw [if_pos hlt]
  exact kk
/-- System.arraycopy from the place o1 to the place o, longs and ints -/
def Cpy (own : String) (idx : Nat) : Prop := Cond.methodLink own idx arraycopyName ∈ TB ∧ Cond.native arraycopyName ∈ TB ∧ Cond.static arraycopyName ∈ TB ∧ Cond.initialized "java/lang/System" ∈ TB
def okC (sp dp n : Int32) (n0 n1 : Nat) : Prop := ¬ sp < 0 ∧ ¬ dp < 0 ∧ ¬ n < 0 ∧ sp.toNatClampNeg + n.toNatClampNeg ≤ n0 ∧ dp.toNatClampNeg + n.toNatClampNeg ≤ n1
theorem k_copyJ (X : Cx g p s m args meth c cc nL own rt) (Y : Hp g N ce A H0 st H locs) {idx : Nat} (hc : Cpy own idx) (hls : ls.size = nL) (o1 o : Nat) (ho1 : o1 < N) (ho : o < N) {n0 n1 : Nat} (he1 : IsJ g ce o1 n0) (he : IsJ g ce o n1) {sp dp n : Int32} (hok : okC sp dp n n0 n1) (hR : 1 ≤ R.frames ∧ (rest.map fun v => v.category).sum + (nativeFrameWords "java/lang/System" "arraycopy" 5 + 11) ≤ R.locals) (hdg : decode cc pc = .ok (.invokestatic idx, 3))
    (kk : ∀ (H1 : Heap) (locs1 : List Loc), Hp g N ce A H0 (sJr st o (va_cpy (st.2 o1) (st.2 o) sp.toNatClampNeg dp.toNatClampNeg n.toNatClampNeg)) H1 locs1 → W p l e R s m args below meth c H1 locs1 cells slots Q (F0 m (pc + 3) ls rest)) : W p l e R s m args below meth c H locs cells slots Q (F0 m pc ls (.int n :: .int dp :: .ref (g.2.1 o) :: .int sp :: .ref (g.2.1 o1) :: rest)) := by
  obtain ⟨hx, hb, hml, hown, hts, hN, hK, hlk, hrt⟩ := X
  obtain ⟨hP, hD, hS, hA⟩ := Y
  obtain ⟨h1, h2, h3, h4⟩ := hc
  obtain ⟨k1, k2, k3, k4, k5⟩ := hok
  refine va_copyl (ty := .long) hx hb (by rw [hml, hls]) hown (hts _ h1) (hts _ h2) (hts _ h3) (hts _ h4) hK hP hD hS o1 o 1 1 (wdG_get ho1 (he1 _ _)) (wdG_get ho (he _ _)) rfl rfl rfl k1 k2 k3 k4 k5 (fun _ _ => rfl) hR.1 hR.2 hdg (fun H1 locs1 hP1 hD1 hS1 => ?_)
  have hset : (wdG N g.2.1 ce st).set o (g.2.1 o, .inl (g.2.2.2.1, n1, .inr (.inl (va_cpy (st.2 o1) (st.2 o) sp.toNatClampNeg dp.toNatClampNeg n.toNatClampNeg)))) = wdG N g.2.1 ce (sJr st o (va_cpy (st.2 o1) (st.2 o) sp.toNatClampNeg dp.toNatClampNeg n.toNatClampNeg)) := by
    refine wdG_set (fun j hj => rfl) (fun j hj => ?_) ?_
    · simp [sJr, va_up, hj]
    · rw [he]; simp [sJr, va_up]
  rw [hset] at hP1 hD1
  exact kk H1 locs1 ⟨hP1, hD1, hS1, hA⟩
theorem k_copyI (X : Cx g p s m args meth c cc nL own rt) (Y : Hp g N ce A H0 st H locs) {idx : Nat} (hc : Cpy own idx) (hls : ls.size = nL) (o1 o : Nat) (ho1 : o1 < N) (ho : o < N) {n0 n1 : Nat} (he1 : IsI g ce o1 n0) (he : IsI g ce o n1) {sp dp n : Int32} (hok : okC sp dp n n0 n1) (hR : 1 ≤ R.frames ∧ (rest.map fun v => v.category).sum + (nativeFrameWords "java/lang/System" "arraycopy" 5 + 11) ≤ R.locals) (hdg : decode cc pc = .ok (.invokestatic idx, 3))
    (kk : ∀ (H1 : Heap) (locs1 : List Loc), Hp g N ce A H0 (sIr st o (va_cpy (st.1 o1) (st.1 o) sp.toNatClampNeg dp.toNatClampNeg n.toNatClampNeg)) H1 locs1 → W p l e R s m args below meth c H1 locs1 cells slots Q (F0 m (pc + 3) ls rest)) : W p l e R s m args below meth c H locs cells slots Q (F0 m pc ls (.int n :: .int dp :: .ref (g.2.1 o) :: .int sp :: .ref (g.2.1 o1) :: rest)) := by
  obtain ⟨hx, hb, hml, hown, hts, hN, hK, hlk, hrt⟩ := X
  obtain ⟨hP, hD, hS, hA⟩ := Y
  obtain ⟨h1, h2, h3, h4⟩ := hc
  obtain ⟨k1, k2, k3, k4, k5⟩ := hok
  refine va_copyi (ty := .int) hx hb (by rw [hml, hls]) hown (hts _ h1) (hts _ h2) (hts _ h3) (hts _ h4) hK hP hD hS o1 o 0 0 (wdG_get ho1 (he1 _ _)) (wdG_get ho (he _ _)) rfl rfl rfl k1 k2 k3 k4 k5 (fun _ _ => rfl) hR.1 hR.2 hdg (fun H1 locs1 hP1 hD1 hS1 => ?_)
  have hset : (wdG N g.2.1 ce st).set o (g.2.1 o, .inl (g.2.2.1, n1, .inl (va_cpy (st.1 o1) (st.1 o) sp.toNatClampNeg dp.toNatClampNeg n.toNatClampNeg))) = wdG N g.2.1 ce (sIr st o (va_cpy (st.1 o1) (st.1 o) sp.toNatClampNeg dp.toNatClampNeg n.toNatClampNeg)) := by
    refine wdG_set (fun j hj => ?_) (fun j hj => rfl) ?_
    · simp [sIr, va_up, hj]
    · rw [he]; simp [sIr, va_up]
  rw [hset] at hP1 hD1
  exact kk H1 locs1 ⟨hP1, hD1, hS1, hA⟩
end KIT
