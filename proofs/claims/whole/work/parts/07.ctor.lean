/-! constructors: the world grows by cells whose addresses follow each other -/
def OV (U : State) : Prop := (Cond.arrayOver (.array .int)).before #[] U = true ∧ (Cond.arrayOver (.array .long)).before #[] U = true
theorem ov_one {t : FieldType} {u U : State} (hvm : u.vm.Alike U.vm) (h : (Cond.arrayOver (.array t)).before #[] u = true) : (Cond.arrayOver (.array t)).before #[] U = true := Jvm.Stand.arrayOver_alikeB hvm h
theorem ov_moved {u U : State} (hvm : u.vm.Alike U.vm) (h : OV u) : OV U := ⟨ov_one hvm h.1, ov_one hvm h.2⟩
theorem vr_outer (c : ClassId) (N h0 : Nat) : ∀ i : Nat, Jvm.Free.Multi.outerC c N h0 i = arrV c N (fun j => va_rf (if j < i then some (h0 + 1 + j) else none))
  | 0 => by
    show ({ cls := c, slots := Array.replicate N .null, vm := .none } : Cell) = _
    rw [arrV_new]
    refine congrArg (arrV c N) (funext fun j => ?_)
    simp [va_rf]
  | i + 1 => by
    show (Jvm.Free.Multi.outerC c N h0 i).setSlot i (.ref (h0 + 1 + i)) = _
    rw [vr_outer c N h0 i, arrV_store]
    refine congrArg (arrV c N) (funext fun j => ?_)
    by_cases e : j = i
    · subst e
      simp [updV, va_rf]
    · by_cases h : j < i
      · simp [updV, e, h, Nat.lt_succ_of_lt h]
      · simp [updV, e, h, show ¬ j < i + 1 by omega]
/-- the heap holds the cells ws, and the next address is that of the place n -/
def Hw (g : Gx) (A : Nat → Prop) (H0 : Heap) (n : Nat) (ws : va_W) (H : Heap) (locs : List Loc) : Prop :=
  va_P g.1 vwCl ws H ∧ va_D A ws ∧ va_S A H0 H locs ∧ (∀ q, H0.size ≤ q → A q) ∧ H.size = g.2.1 n ∧ ∀ k, g.2.1 (k + 1) = g.2.1 k + 1
theorem ad_add {g : Gx} (h : ∀ k, g.2.1 (k + 1) = g.2.1 k + 1) (n : Nat) : ∀ i, g.2.1 (n + i) = g.2.1 n + i
  | 0 => rfl
  | i + 1 => by rw [← Nat.add_assoc, h, ad_add h n i, Nat.add_assoc]
def FldF (own : String) (idx ci k : Nat) (ty : FieldType) : Prop :=
  ∃ (C : String) (T : u_T) (N : Nat) (t0 : Nat → FieldType), vwCl[ci]? = some (C, T, N) ∧ k < N ∧ (∀ w ∈ u_ws C T N, w ∈ TB) ∧ (∀ k, k < N → parseFieldDescriptor (T k).2.2.1 = some (t0 k)) ∧ (∀ a, a < N → ∀ b, b < N → a ≠ b → (T a).2.1 ≠ (T b).2.1) ∧ (T k).2.2.2 = true ∧ parseFieldDescriptor (T k).2.2.1 = some ty ∧ (T k).1 = own ∧ Cond.fieldLink own idx (T k).1 (T k).2.1 (T k).2.2.1 ∈ TB
def NewC (own : String) (idx ci : Nat) (fs : List Value) : Prop :=
  ∃ (C : String) (T : u_T) (N : Nat) (t0 : Nat → FieldType), vwCl[ci]? = some (C, T, N) ∧ (∀ w ∈ u_ws C T N, w ∈ TB) ∧ (∀ k, k < N → parseFieldDescriptor (T k).2.2.1 = some (t0 k)) ∧ (∀ j, j < N → defaultValue (t0 j) = vp_V fs j) ∧ fs.length = N ∧ Cond.classLink own idx C ∈ TB ∧ Cond.instantiable C N ∈ TB ∧ Cond.initialized C ∈ TB
section CTOR
variable {p : Program} {l : Launch} {e : Env} {R : Room} {s : State} {m : MethodId} {args : Array Value} {below : List Frame} {meth : Method} {c : Code} {H H0 : Heap} {locs : List Loc} {cells slots : Nat} {Q : State → Prop}
variable {cc : ByteArray} {pc nL n : Nat} {ls : Array Slot} {rest : List Value} {g : Gx} {A : Nat → Prop} {own : String} {rt : Option FieldType} {ws : va_W}
theorem n_newI (X : Cx g p s m args meth c cc nL own rt) (Y : Hw g A H0 n ws H locs) (hac : Cond.arrayClass .int ∈ TB) {N' : Nat} {v : Int32} (hv : v.toNatClampNeg = N') (hn : ¬ v < 0) (hb9 : N' * 4 ≤ 536870912) (hcells : cells + 1 ≤ R.cells) (hslots : slots + N' ≤ R.slots) (hdg : decode cc pc = .ok (.newarray .int, 2))
    (kk : ∀ H1 : Heap, Hw g A H0 (n + 1) (ws ++ [(g.2.1 n, .inl (g.2.2.1, N', .inl (fun _ => 0)))]) H1 locs → W p l e R s m args below meth c H1 locs (cells + 1) (slots + N') Q (F0 m (pc + 2) ls (.ref (g.2.1 n) :: rest))) : W p l e R s m args below meth c H locs cells slots Q (F0 m pc ls (.int v :: rest)) := by
  obtain ⟨hx, hb, hml, hown, hts, hN, hK, hlk, hrt⟩ := X
  obtain ⟨hP, hD, hS, hA, hsz, hga⟩ := Y
  refine va_newaK (atype := .int) hx hb (hts _ hac) rfl hdg rfl hn hv hb9 hcells hslots hsz fun H1 cA e1 z1 o1 hAr hNm => ?_
  have h2 : s.vm.findClass ("[" ++ (FieldType.int).toString) = some g.2.2.1 := (hK.2 0 _ rfl).2
  have hc : cA = g.2.2.1 := Option.some.inj (hNm.symm.trans h2)
  subst hc
  have hk : ∀ (k : Nat) (x : Nat × va_E), ws[k]? = some x → H1[x.1]? = H[x.1]? := fun k x hx => o1 x.1 (by have := (hP k x hx).lt; omega)
  refine kk H1 ⟨(hP.kept hk).app (fun k x hx => ?_), hD.push hP hsz.symm (by rw [← hsz]; exact hA _ hS.1), ⟨Nat.le_trans hS.1 (by omega), fun x h1 h2 => (o1 x (by have := hS.1; omega)).trans (hS.2.1 x h1 h2), hS.2.2⟩, hA, by rw [z1, hga], hga⟩
  have hz : k < 1 := (List.getElem?_eq_some_iff.mp hx).1
  rw [show k = 0 by omega] at hx
  cases hx
  exact e1
theorem n_newJ (X : Cx g p s m args meth c cc nL own rt) (Y : Hw g A H0 n ws H locs) (hac : Cond.arrayClass .long ∈ TB) {N' : Nat} {v : Int32} (hv : v.toNatClampNeg = N') (hn : ¬ v < 0) (hb9 : N' * 8 ≤ 536870912) (hcells : cells + 1 ≤ R.cells) (hslots : slots + N' ≤ R.slots) (hdg : decode cc pc = .ok (.newarray .long, 2))
    (kk : ∀ H1 : Heap, Hw g A H0 (n + 1) (ws ++ [(g.2.1 n, .inl (g.2.2.2.1, N', .inr (.inl (fun _ => 0))))]) H1 locs → W p l e R s m args below meth c H1 locs (cells + 1) (slots + N') Q (F0 m (pc + 2) ls (.ref (g.2.1 n) :: rest))) : W p l e R s m args below meth c H locs cells slots Q (F0 m pc ls (.int v :: rest)) := by
  obtain ⟨hx, hb, hml, hown, hts, hN, hK, hlk, hrt⟩ := X
  obtain ⟨hP, hD, hS, hA, hsz, hga⟩ := Y
  refine va_newaK (atype := .long) hx hb (hts _ hac) rfl hdg rfl hn hv hb9 hcells hslots hsz fun H1 cA e1 z1 o1 hAr hNm => ?_
  have h2 : s.vm.findClass ("[" ++ (FieldType.long).toString) = some g.2.2.2.1 := (hK.2 1 _ rfl).2
  have hc : cA = g.2.2.2.1 := Option.some.inj (hNm.symm.trans h2)
  subst hc
  have hk : ∀ (k : Nat) (x : Nat × va_E), ws[k]? = some x → H1[x.1]? = H[x.1]? := fun k x hx => o1 x.1 (by have := (hP k x hx).lt; omega)
  refine kk H1 ⟨(hP.kept hk).app (fun k x hx => ?_), hD.push hP hsz.symm (by rw [← hsz]; exact hA _ hS.1), ⟨Nat.le_trans hS.1 (by omega), fun x h1 h2 => (o1 x (by have := hS.1; omega)).trans (hS.2.1 x h1 h2), hS.2.2⟩, hA, by rw [z1, hga], hga⟩
  have hz : k < 1 := (List.getElem?_eq_some_iff.mp hx).1
  rw [show k = 0 by omega] at hx
  cases hx
  exact e1
/-- a cell behind all others: still apart -/
theorem D_rows {f : Nat → Nat} {E : va_E} (hD : va_D A ws) (h0 : ∀ (k : Nat) (x : Nat × va_E), ws[k]? = some x → x.1 < f 0) (hf : ∀ i, f i = f 0 + i) (hA : ∀ i, A (f i)) (N' : Nat) : va_D A (ws ++ (List.range N').map (fun i => (f i, E))) := by
  refine va_D.app hD ⟨fun i j x y hi hj hxy => ?_, fun k x hx => ?_⟩ (fun i j x y hx hy => ?_)
  · simp only [List.getElem?_map, Option.map_eq_some_iff] at hi hj
    obtain ⟨i', hi1, rfl⟩ := hi
    obtain ⟨j', hj1, rfl⟩ := hj
    have e1 := (List.getElem?_eq_some_iff.mp hi1).2
    have e2 := (List.getElem?_eq_some_iff.mp hj1).2
    simp at e1 e2
    have h3 := hf i'
    have h4 := hf j'
    have h5 : f i' = f j' := hxy
    omega
  · simp only [List.getElem?_map, Option.map_eq_some_iff] at hx
    obtain ⟨i', -, rfl⟩ := hx
    exact hA i'
  · simp only [List.getElem?_map, Option.map_eq_some_iff] at hy
    obtain ⟨j', -, rfl⟩ := hy
    have h1 := h0 i x hx
    have h2 := hf j'
    intro h3
    have h4 : x.1 = f j' := h3
    omega
theorem n_mna {ty : FieldType} {cO cy : ClassId} {z : vp_A} (X : Cx g p s m args meth c cc nL own rt) (Y : Hw g A H0 n ws H locs) (hac : Cond.arrayClass ty ∈ TB) (hov : (Cond.arrayOver (.array ty)).before args s = true) {idx : Nat} (hcl : Cond.classLink own idx ("[" ++ (FieldType.array ty).toString) ∈ TB) (hcO : s.vm.findClass ("[" ++ (FieldType.array ty).toString) = some cO) (hcy : s.vm.findClass (FieldType.array ty).toString = some cy)
    {N' K' : Nat} {v k : Int32} (hv : v.toNatClampNeg = N') (hk' : k.toNatClampNeg = K') (hn : ¬ v < 0) (hk : ¬ k < 0) (hb1 : N' * 4 ≤ 536870912) (hb2 : K' * componentBytes ty ≤ 536870912) (hb3 : K' ≤ 536870912) (hdf : fits ty (defaultValue ty) = true) (hdd : (defaultValue ty).isDefault = true) (hcells : cells + (1 + N') ≤ R.cells) (hslots : slots + (N' + N' * K') ≤ R.slots) (hz : ∀ c : ClassId, Jvm.Free.Multi.innerC c K' (defaultValue ty) = vp_cell c z) (hdg : decode cc pc = .ok (.multianewarray idx 2, 4))
    (kk : ∀ H1 : Heap, Hw g A H0 (n + 1 + N') ((ws ++ [(g.2.1 n, .inl (cO, N', .inr (.inr (.inr (.inr (fun i => if i < N' then some (g.2.1 (n + 1 + i)) else none))))))]) ++ (List.range N').map (fun i => (g.2.1 (n + 1 + i), .inl (cy, z)))) H1 locs → W p l e R s m args below meth c H1 locs (cells + 1 + N') (slots + N' + N' * K') Q (F0 m (pc + 4) ls (.ref (g.2.1 n) :: rest))) : W p l e R s m args below meth c H locs cells slots Q (F0 m pc ls (.int k :: .int v :: rest)) := by
  subst hv
  subst hk'
  obtain ⟨hx, hb, hml, hown, hts, hN, hK, hlk, hrt⟩ := X
  obtain ⟨hP, hD, hS, hA, hsz, hga⟩ := Y
  intro T hT Xs
  obtain ⟨vm₁, cA, comp, -, fA, fC, hO, -, X', step⟩ := Xs.multianewarray2F hx hown (hts _ hcl) hov (hts _ hac) (g := F0 m pc ls (.int k :: .int v :: rest)) rfl (by rw [hb]; exact hdg) rfl hn hk hb1 hb2 hb3 hdf hdd hcells hslots
  have ec : some cy = some comp := hcy.symm.trans fC
  cases ec
  have eO : some cO = some cA := hcO.symm.trans fA
  cases eO
  generalize hF : Jvm.Free.Multi.fill (T.setVm vm₁) cO cy v.toNatClampNeg k.toNatClampNeg (defaultValue ty) v.toNatClampNeg = F at X' step
  have hTh : (T.setVm vm₁).heap = H := hT
  obtain ⟨f1, f2, -, -⟩ := Jvm.Free.Multi.fill_facts (T.setVm vm₁) cO cy v.toNatClampNeg k.toNatClampNeg (defaultValue ty) v.toNatClampNeg
  rw [hF, hTh] at f1 f2
  have hold : ∀ x : Nat, x < H.size → F.heap[x]? = H[x]? := fun x hx => by
    have := Jvm.Free.Multi.fill_old (T.setVm vm₁) cO cy v.toNatClampNeg k.toNatClampNeg (defaultValue ty) (a := x) (by rw [hTh]; exact hx) v.toNatClampNeg
    rw [hF, hTh] at this
    exact this
  have hrow : ∀ j : Nat, j < v.toNatClampNeg → F.heap[H.size + 1 + j]? = some (vp_cell cy z) := fun j hj => by
    have := Jvm.Free.Multi.fill_inner (T.setVm vm₁) cO cy v.toNatClampNeg k.toNatClampNeg (defaultValue ty) v.toNatClampNeg j hj
    rw [hF, hTh, hz] at this
    exact this
  have had : ∀ i, g.2.1 (n + 1 + i) = H.size + 1 + i := fun i => by rw [ad_add hga, hga, hsz]
  have hout : Jvm.Free.Multi.outerC cO v.toNatClampNeg H.size v.toNatClampNeg = vp_cell cO (v.toNatClampNeg, .inr (.inr (.inr (.inr (fun i => if i < v.toNatClampNeg then some (g.2.1 (n + 1 + i)) else none))))) := by
    rw [vp_cell_q]
    simp only [had]
    exact vr_outer cO v.toNatClampNeg H.size v.toNatClampNeg
  rw [hout] at f2
  have hP0 : va_P g.1 vwCl ws F.heap := hP.kept (fun k9 x hx => hold x.1 ((hP k9 x hx).lt))
  have hP1 := hP0.app (w2 := [(g.2.1 n, .inl (cO, v.toNatClampNeg, .inr (.inr (.inr (.inr (fun i => if i < v.toNatClampNeg then some (g.2.1 (n + 1 + i)) else none))))))]) (fun k9 x hx => by
    have h0 : k9 < 1 := (List.getElem?_eq_some_iff.mp hx).1
    rw [show k9 = 0 by omega] at hx
    cases hx
    rw [hsz] at f2
    exact f2)
  have hP2 := hP1.app (w2 := (List.range v.toNatClampNeg).map (fun i => (g.2.1 (n + 1 + i), .inl (cy, z)))) (fun k9 x hx => by
    obtain ⟨i, hi, rfl⟩ := List.mem_map.mp (List.mem_of_getElem? hx)
    have := hrow i (List.mem_range.mp hi)
    rw [← had] at this
    exact this)
  have hD1 := hD.push (e := .inl (cO, v.toNatClampNeg, .inr (.inr (.inr (.inr (fun i => if i < v.toNatClampNeg then some (g.2.1 (n + 1 + i)) else none)))))) hP hsz.symm (by rw [← hsz]; exact hA _ hS.1)
  have hD2 := D_rows (f := fun i => g.2.1 (n + 1 + i)) (E := .inl (cy, z)) hD1 (fun k x hx => by
    show x.1 < g.2.1 (n + 1 + 0)
    rw [had]
    by_cases hl : k < ws.length
    · rw [List.getElem?_append_left hl] at hx
      have := (hP k x hx).lt
      omega
    · rw [List.getElem?_append_right (by omega)] at hx
      have h0 : k - ws.length < 1 := (List.getElem?_eq_some_iff.mp hx).1
      rw [show k - ws.length = 0 by omega] at hx
      cases hx
      show g.2.1 n < _
      omega) (fun i => by show g.2.1 (n + 1 + i) = g.2.1 (n + 1 + 0) + i; rw [had, had] <;> rfl) (fun i => by show A (g.2.1 (n + 1 + i)); rw [had]; exact hA _ (by have := hS.1; omega)) v.toNatClampNeg
  obtain ⟨t, a1, b1⟩ := kk F.heap ⟨hP2, hD2, ⟨by rw [f1]; have := hS.1; omega, fun x h1 h2 => (hold x (Nat.lt_of_lt_of_le h1 hS.1)).trans (hS.2.1 x h1 h2), hS.2.2⟩, hA, by rw [f1, had], hga⟩ F rfl X'
  refine ⟨t, step t ?_, b1⟩
  have e : T.heap.size = g.2.1 n := by rw [hT]; exact hsz
  rw [e]
  exact a1
theorem n_new (X : Cx g p s m args meth c cc nL own rt) (Y : Hw g A H0 n ws H locs) {idx ci : Nat} {fs : List Value} (hc : NewC own idx ci fs) (hcells : cells + 1 ≤ R.cells) (hslots : slots + fs.length ≤ R.slots) (hdg : decode cc pc = .ok (.new idx, 3))
    (kk : ∀ H1 : Heap, Hw g A H0 (n + 1) (ws ++ [(g.2.1 n, .inr (ci, fs))]) H1 locs → W p l e R s m args below meth c H1 locs (cells + 1) (slots + fs.length) Q (F0 m (pc + 3) ls (.ref (g.2.1 n) :: rest))) : W p l e R s m args below meth c H locs cells slots Q (F0 m pc ls rest) := by
  obtain ⟨hx, hb, hml, hown, hts, hN, hK, hlk, hrt⟩ := X
  obtain ⟨hP, hD, hS, hA, hsz, hga⟩ := Y
  obtain ⟨C, T, N', t0, hc, hin, hty, hfs, rfl, h1, h2, h3⟩ := hc
  have hKn := hK.1 ci _ hc
  refine W.newcK hx hb hown (hts _ h1) (hts _ h2) (hts _ h3) rfl hdg hcells hslots hKn.2.1 hsz fun H1 kC hkC e1 z1 o1 => ?_
  have hk : ∀ (k : Nat) (x : Nat × va_E), ws[k]? = some x → H1[x.1]? = H[x.1]? := fun k x hx => o1 x.1 (by have := (hP k x hx).lt; omega)
  refine kk H1 ⟨(hP.kept hk).app (fun k x hx => ?_), hD.push hP hsz.symm (by rw [← hsz]; exact hA _ hS.1), ⟨Nat.le_trans hS.1 (by omega), fun x h1 h2 => (o1 x (by have := hS.1; omega)).trans (hS.2.1 x h1 h2), hS.2.2⟩, hA, by rw [z1, hga], hga⟩
  have hz : k < 1 := (List.getElem?_eq_some_iff.mp hx).1
  rw [show k = 0 by omega] at hx
  cases hx
  exact ⟨_, hc, (u_born t0 hts hin hKn hkC e1 hty).to hfs⟩
theorem n_putF (X : Cx g p s m args meth c cc nL own rt) (hin2 : meth.name = "<init>") (Y : Hw g A H0 n ws H locs) {idx ci k : Nat} {ty : FieldType} (hf : FldF own idx ci k ty) (j : Nat) {a : Nat} {fs : List Value} (he : ws[j]? = some (a, .inr (ci, fs))) {v : Value} (hn : narrow ty v = v) (hfit : fits ty v = true) (hl0 : k < fs.length) (hdg : decode cc pc = .ok (.putfield idx, 3))
    (kk : ∀ (H1 : Heap) (locs1 : List Loc), Hw g A H0 n (ws.set j (a, .inr (ci, fs.set k v))) H1 locs1 → W p l e R s m args below meth c H1 locs1 cells slots Q (F0 m (pc + 3) ls rest)) : W p l e R s m args below meth c H locs cells slots Q (F0 m pc ls (v :: .ref a :: rest)) := by
  obtain ⟨hx, hb, hml, hown, hts, hN, hK, hlk, hrt⟩ := X
  obtain ⟨hP, hD, hS0, hA, hsz, hga⟩ := Y
  obtain ⟨C, T, N', t0, hc, hk, hin, hty, hnm, hfin, hd, hdecl, hl⟩ := hf
  have hap := va_apart (own := own) hts hin t0 hty hnm hK hc
  obtain ⟨r, h1, cell, q1, q2, q3, q4⟩ := hP j _ he
  have hr : r = (C, T, N') := Option.some.inj (h1.symm.trans hc)
  subst hr
  obtain ⟨hS, hfc, kC, hkC, hkind⟩ := hK.1 ci _ hc
  obtain ⟨cf, kf, fi, f, hi, hsl⟩ := hS k hk
  have hlay := hts _ (hin _ (u_in_lay hk))
  unfold u_lay at hlay
  rw [if_pos hfin] at hlay
  have hst := (u_facts hfc hkC (u_lays hts hin hk) hi).1
  have hcf : m.cls = cf := by
    obtain ⟨_, _, c', _, _, _, -, -, hf', -, -, -, hown2, -⟩ := Cond.laysFinal_spec hlay
    have e1 : c' = cf := by have := hi.symm.trans hf'; simp at this; exact this.1.symm
    rw [hdecl] at hown2
    rw [← e1]; exact Option.some.inj (hown.symm.trans hown2)
  have h6 := u_fits hfc hkC hkind (Or.inr hlay) hi hd hn hfit
  refine W.putFinK hx hb hown (hts _ hl) hi hst hcf hin2 (by rw [q2]; exact h6) q1 q3 (by rw [hsl]; exact k2_hasslot (q4 k hk)) rfl rfl hdg fun H' e1 e2 e3 => ?_
  rw [hsl] at e1 ⊢
  exact kk H' _ ⟨hP.set hD he ⟨_, hc, t_OB.to (V := updV (vp_V fs) k v) ⟨_, e1, q2, q3, t_set q4 hap hk v⟩ (fun j _ => vp_updV_set hl0 v j)⟩ e3, hD.set he, hS0.put e2 e3 (hD.2 j _ he), hA, by rw [e2]; exact hsz, hga⟩
theorem n_put (X : Cx g p s m args meth c cc nL own rt) (Y : Hw g A H0 n ws H locs) {idx ci k : Nat} {ty : FieldType} (hf : Fld own idx ci k false ty) (hnn : ∀ (C : String) (T : u_T) (N : Nat), vwCl[ci]? = some (C, T, N) → Cond.fieldLink own idx (T k).1 (T k).2.1 (T k).2.2.1 ∈ TB) (j : Nat) {a : Nat} {fs : List Value} (he : ws[j]? = some (a, .inr (ci, fs))) {v : Value} (hn : narrow ty v = v) (hfit : fits ty v = true) (hl0 : k < fs.length) (hdg : decode cc pc = .ok (.putfield idx, 3))
    (kk : ∀ (H1 : Heap) (locs1 : List Loc), Hw g A H0 n (ws.set j (a, .inr (ci, fs.set k v))) H1 locs1 → W p l e R s m args below meth c H1 locs1 cells slots Q (F0 m (pc + 3) ls rest)) : W p l e R s m args below meth c H locs cells slots Q (F0 m pc ls (v :: .ref a :: rest)) := by
  obtain ⟨hx, hb, hml, hown, hts, hN, hK, hlk, hrt⟩ := X
  obtain ⟨hP, hD, hS0, hA, hsz, hga⟩ := Y
  obtain ⟨C, T, N', t0, hc, hk, hin, hty, hnm, hfin, hd, -⟩ := hf
  have hl := hnn _ _ _ hc
  have hap := va_apart (own := own) hts hin t0 hty hnm hK hc
  obtain ⟨r, h1, cell, q1, q2, q3, q4⟩ := hP j _ he
  have hr : r = (C, T, N') := Option.some.inj (h1.symm.trans hc)
  subst hr
  obtain ⟨hS, hfc, kC, hkC, hkind⟩ := hK.1 ci _ hc
  obtain ⟨cf, kf, fi, f, hi, hsl⟩ := hS k hk
  have hlay := hts _ (hin _ (u_in_lay hk))
  unfold u_lay at hlay
  rw [if_neg (by rw [hfin]; decide)] at hlay
  have hst := (u_facts hfc hkC (u_lays hts hin hk) hi).1
  have h6 := u_store hfc hkC hkind hlay hi hd hn hfit
  refine W.putK hx hb (f := f) ⟨hown, hts _ hl, ⟨_, _, _, hi⟩, hst⟩ (by rw [q2]; exact h6) q1 q3 (by rw [hsl]; exact k2_hasslot (q4 k hk)) rfl rfl hdg fun H' e1 e2 e3 => ?_
  rw [hsl] at e1 ⊢
  exact kk H' _ ⟨hP.set hD he ⟨_, hc, t_OB.to (V := updV (vp_V fs) k v) ⟨_, e1, q2, q3, t_set q4 hap hk v⟩ (fun j _ => vp_updV_set hl0 v j)⟩ e3, hD.set he, hS0.put e2 e3 (hD.2 j _ he), hA, by rw [e2]; exact hsz, hga⟩
def CalO (own : String) (idx : Nat) : Prop := Cond.methodLink own idx Lib.objectInit ∈ TB ∧ Cond.instanceMethod Lib.objectInit ∈ TB ∧ Cond.code Lib.objectInit ⟨#[0xb1]⟩ 1 none ∈ TB
theorem n_obj (X : Cx g p s m args meth c cc nL own rt) {idx a : Nat} (hc : CalO own idx) (hls : ls.size = nL) (hdg : decode cc pc = .ok (.invokespecial idx, 3)) (hR : 1 ≤ R.frames ∧ (rest.map fun v => v.category).sum + 12 ≤ R.locals)
    (kk : W p l e R s m args below meth c H locs cells slots Q (F0 m (pc + 3) ls rest)) : W p l e R s m args below meth c H locs cells slots Q (F0 m pc ls (.ref a :: rest)) := by
  obtain ⟨hx, hb, hml, hown, hts, hN, hK, hlk, hrt⟩ := X
  exact W.objInit hx hb hown (hts _ hc.1) (hts _ hc.2.1) (hts _ hc.2.2) rfl (by rw [hml]; exact hls) rfl hdg hR.1 (by have := hR.2; show 2 * 0 + _ + 12 ≤ _; omega) kk
/-- a piece of the world: m cells from the place b on -/
def seg (g : Gx) (ce : Ce) (st : Sg) (b m : Nat) : va_W := (List.range m).map (fun k => (g.2.1 (b + k), ce (b + k) (st.1 (b + k)) (st.2 (b + k))))
def PreC (g : Gx) (b ci : Nat) (fs : List Value) (U : State) : Prop := U.heap.size = g.2.1 (b + 1) ∧ va_P g.1 vwCl [(g.2.1 b, .inr (ci, fs))] U.heap ∧ va_K g.1 vwCl (tysG g) U ∧ va_D (fun _ => True) [(g.2.1 b, .inr (ci, fs))] ∧ (∀ w ∈ NB, va_Nw w U) ∧ OV U ∧ ∀ k, g.2.1 (k + 1) = g.2.1 k + 1
def PoC (g : Gx) (A : Nat → Prop) (n : Nat) (w1 : va_W) (t : State) : Prop := t.heap.size = g.2.1 n ∧ va_P g.1 vwCl w1 t.heap ∧ va_K g.1 vwCl (tysG g) t ∧ va_D A w1
def AC (g : Gx) (b ci : Nat) (fs : List Value) : Nat → Prop := va_A [(g.2.1 b, .inr (ci, fs))] (g.2.1 (b + 1))
def QC (g : Gx) (A : Nat → Prop) (n : Nat) (w1 : va_W) : Array Value → State → Outcome → State → Prop := va_Qv (fun _ : Unit => True) (fun _ t => PoC g A n w1 t) A
def MetC (l : Launch) (y : MethodName) (cc : ByteArray) (maxL : Nat) (rm : Room) (g : Gx) (b ci : Nat) (fs : List Value) (n : Nat) (w1 : va_W) (mc ms : Nat) : Prop := Met l y (.code y cc maxL none :: TB) rm (va_Pc [.ref (g.2.1 b)] (PreC g b ci fs)) (QC g (AC g b ci fs) n w1) mc ms (AC g b ci fs)
theorem preC_blind (av : List Value) (b ci : Nat) (fs : List Value) : FrameBlind (va_Pc av (PreC g b ci fs)) := by
  intro a U gf mk q
  obtain ⟨q0, q1, qP, qK, qD, qN, qO, qg⟩ := q
  exact ⟨q0, q1, qP, va_K.moved (u := U) (U := U.calling gf mk a) (Vm.Alike.refl U.vm) qK, qD, nb_same (u := U) (U := U.calling gf mk a) rfl qN, ov_moved (u := U) (U := U.calling gf mk a) (Vm.Alike.refl U.vm) qO, qg⟩
theorem metC_of {y : MethodName} {maxL b ci n2 mc ms : Nat} {rm : Room} {fs : List Value} {w1 : va_W} (hy : plainName y.cls = true) (hlen : 1 ≤ maxL) (hnm : y.name = "<init>")
    (body : ∀ (p : Program) (e : Env) (s : State) (m : MethodId) (below : List Frame) (meth : Method) (c : Code) (A : Nat → Prop) (ls : Array Slot), Cx g p s m [Value.ref (g.2.1 b)].toArray meth c cc maxL y.cls none → OV s → meth.name = "<init>" → Hw g A s.heap (b + 1) [(g.2.1 b, .inr (ci, fs))] s.heap [] → lv_has ls maxL [(0, .ref (g.2.1 b))] →
      W p l e rm s m [Value.ref (g.2.1 b)].toArray below meth c s.heap [] 0 0 (MQ below (QC g A n2 w1) [Value.ref (g.2.1 b)].toArray s mc ms A) (F0 m 0 ls [])) : MetC l y cc maxL rm g b ci fs n2 w1 mc ms := by
  refine Met.ofW (cc := cc) (maxL := maxL) (ret := none) hy rfl ?_
  intro p e s m args below meth c s₁ B hml hv
  obtain ⟨rfl, hsz, hP, hK, hD0, hN, hO, hg⟩ := hv
  have hts := atoms_spec (ws := .code y cc maxL none :: TB) B.pre
  have hl := lv_entry [.ref (g.2.1 b)] (n := maxL) hlen
  rw [lg_entry_eq]
  generalize (lg_sl [.ref (g.2.1 b)] ++ List.replicate (maxL - (lg_sl [.ref (g.2.1 b)]).length) Slot.unset).toArray = ls at hl ⊢
  exact body p e s m below meth c (AC g b ci fs) ls ⟨B.exec, B.bytes, hml, findClass_of_methodNamed B.named, fun w hw => hts w (List.mem_cons_of_mem _ hw), hN, hK, B.notSynchronized, B.returns⟩ hO ((name_of_methodNamed B.named B.method).1.trans hnm)
    ⟨hP, hD0.self, va_S.rf, fun q h => Or.inr (by rw [← hsz]; exact h), hsz, hg⟩ hl
theorem n_ret {w1 : va_W} (X : Cx g p s m args meth c cc nL own none) (Y : Hw g A s.heap n w1 H locs) (hdg : decode cc pc = .ok (.return_, 1)) : W p l e R s m args below meth c H locs cells slots (MQ below (QC g A n w1) args s cells slots A) (F0 m pc ls []) := by
  obtain ⟨hP, hD, hS, hA, hsz, hga⟩ := Y
  exact W.vret X.1 X.2.1 X.2.2.2.2.2.2.2.2 (fun t ht hW => ⟨⟨(), rfl, trivial, by rw [ht]; exact hsz, by rw [ht]; exact hP, va_K.moved hW.alike X.2.2.2.2.2.2.1, hD⟩, hS.F ht⟩) hS.2.2 hdg X.2.2.2.2.2.2.2.1
/-- what the tables say of a constructor's call -/
def CalC (own : String) (idx : Nat) (y : MethodName) (bytes : ByteArray) (maxL : Nat) : Prop :=
  (y.cls ≠ "java/lang/invoke/MethodHandle" ∧ y.cls ≠ "java/lang/invoke/VarHandle" ∧ (parseMethodDescriptor y.desc).map (fun d => d.parameters.length) = some 0) ∧ y.name = "<init>" ∧ Cond.code y bytes maxL none ∈ TB ∧ Cond.instanceMethod y ∈ TB ∧ Cond.initialized y.cls ∈ TB ∧ (Cond.methodLink own idx y ∈ TB ∨ ∃ host, Cond.methodLinkNest own idx y host ∈ NB)
theorem n_call {y : MethodName} {bytes : ByteArray} {maxL idx ci b n2 mc ms : Nat} {rm : Room} {fs : List Value} {w1 : va_W} (X : Cx g p s m args meth c cc nL own rt) (hO : OV s) (Y : Hw g A H0 (b + 1) (ws ++ [(g.2.1 b, .inr (ci, fs))]) H locs) (hc : CalC own idx y bytes maxL) (hM : MetC l y bytes maxL rm g b ci fs n2 w1 mc ms)
    (hrm : rm.cells = mc ∧ rm.slots = ms ∧ rm.frames + 1 ≤ R.frames ∧ 8 + (maxL + 11) + rm.locals ≤ R.locals) (hls : ls.size = nL) (hW : (rest.map fun v => v.category).sum ≤ 8) (hdg : decode cc pc = .ok (.invokespecial idx, 3)) (hf : cells + mc ≤ R.cells ∧ slots + ms ≤ R.slots)
    (kk : ∀ (H1 : Heap) (locs1 : List Loc), Hw g A H0 n2 (ws ++ w1) H1 locs1 → W p l e R s m args below meth c H1 locs1 (cells + mc) (slots + ms) Q (F0 m (pc + 3) ls rest)) : W p l e R s m args below meth c H locs cells slots Q (F0 m pc ls (.ref (g.2.1 b) :: rest)) := by
  obtain ⟨hd, hy1, h1, h2, h4, h5⟩ := hc
  obtain ⟨hx, hb, hml, hown, hts, hN, hK, hlk, hrt⟩ := id X
  obtain ⟨hP, hD, hS, hA, hsz, hga⟩ := id Y
  have hG : GoodIn TB (.code y bytes maxL none :: TB) := goodIn_tb (fun _ h => h) (fun w h => (List.mem_cons.mp h).elim (fun e => e ▸ h1) id)
  have hlast : (ws ++ [(g.2.1 b, .inr (ci, fs))])[ws.length]? = some (g.2.1 b, .inr (ci, fs)) := by simp
  have hPc : va_P g.1 vwCl [(g.2.1 b, .inr (ci, fs))] H := fun k q hq => by
    have h0 : k < 1 := (List.getElem?_eq_some_iff.mp hq).1
    rw [show k = 0 by omega] at hq
    cases hq
    exact hP _ _ hlast
  have hpre : ∀ U : State, U.heap = H → s.WarmedH U.vm → va_Pc [.ref (g.2.1 b)] (PreC g b ci fs) [Value.ref (g.2.1 b)].toArray U := fun U hU hW => by
    refine ⟨rfl, by rw [hU]; exact hsz, by rw [hU]; exact hPc, va_K.moved hW.alike hK, ⟨fun i j p q hi hj _ => ?_, fun _ _ _ => trivial⟩, nb_warm hW hN, ov_moved hW.alike hO, hga⟩
    have a1 : i < 1 := (List.getElem?_eq_some_iff.mp hi).1
    have a2 : j < 1 := (List.getElem?_eq_some_iff.mp hj).1
    omega
  have hFc : ∀ q, AC g b ci fs q → A q := fun q h => by
    rcases h with ⟨k, e, h⟩ | h
    · have h0 : k < 1 := (List.getElem?_eq_some_iff.mp h).1
      rw [show k = 0 by omega] at h
      cases h
      exact hD.2 _ _ hlast
    · exact hA q (Nat.le_trans hS.1 (by rw [hsz]; exact h))
  have hrun : va_Run p l e R s m args below meth c H locs cells slots mc ms (F0 m pc ls (.ref (g.2.1 b) :: rest)) rest (QC g (AC g b ci fs) n2 w1 [Value.ref (g.2.1 b)].toArray) (AC g b ci fs) := by
    rcases h5 with h5 | ⟨host, h5⟩
    · exact va_runI (Ts := TB) (b := g.2.1 b) (As := []) ⟨hx, hb, hml, hown, hts⟩ hM ⟨callB_of 0 hts hG rfl hrm.1 hrm.2.1 (hts _ h4) (hts _ h5) hd hrm.2.2, hy1, hts _ h2⟩ ⟨preC_blind _ _ _ _, hpre⟩ rfl rfl hls rfl (lv_room (m := m) (pc := pc) (ls := ls) (rest := .ref (g.2.1 b) :: rest) hW) hdg hf
    · exact va_runIN (Ts := TB) (b := g.2.1 b) (As := []) ⟨hx, hb, hml, hown, hts⟩ hM ⟨va_cnB 0 hts hG rfl hrm.1 hrm.2.1 (hN _ h5) (hts _ h4) hd hrm.2.2, hy1, hts _ h2⟩ ⟨preC_blind _ _ _ _, hpre⟩ rfl rfl hls rfl (lv_room (m := m) (pc := pc) (ls := ls) (rest := .ref (g.2.1 b) :: rest) hW) hdg hf
  refine va_callv hrun hS (fun q _ h => hFc q h) hFc (fun u t H1 locs1 ht hvm hw hB hz hk hS1 => ?_)
  obtain ⟨hz1, hP1, hK1, hD1⟩ := hB
  rw [ht] at hz1 hP1
  have hkeep : ∀ (k : Nat) (x : Nat × va_E), ws[k]? = some x → x.1 < H.size ∧ ¬ AC g b ci fs x.1 := fun k x hx => by
    have hl : k < ws.length := (List.getElem?_eq_some_iff.mp hx).1
    have hx' : (ws ++ [(g.2.1 b, .inr (ci, fs))])[k]? = some x := by rw [List.getElem?_append_left hl]; exact hx
    have hlt := (hP k x hx').lt
    refine ⟨hlt, fun h => ?_⟩
    rcases h with ⟨k2, e, h⟩ | h
    · have h0 : k2 < 1 := (List.getElem?_eq_some_iff.mp h).1
      rw [show k2 = 0 by omega] at h
      have he : g.2.1 b = x.1 := congrArg Prod.fst (Option.some.inj h)
      have := hD.1 k ws.length x _ hx' hlast he.symm
      omega
    · omega
  refine kk H1 locs1 ⟨va_P.app (fun k x hx => ?_) hP1, va_D.app ⟨fun i j x y hi hj hxy => ?_, fun k x hx => ?_⟩ (hD1.weaken (fun _ q _ h => hFc q.1 h)) (fun i j x y hx hy hxy => ?_), hS1, hA, hz1, hga⟩
  · have hl : k < ws.length := (List.getElem?_eq_some_iff.mp hx).1
    have hx' : (ws ++ [(g.2.1 b, .inr (ci, fs))])[k]? = some x := by rw [List.getElem?_append_left hl]; exact hx
    exact (hP k x hx').kept (hk x.1 (hkeep k x hx).1 (hkeep k x hx).2)
  · have hl : i < ws.length := (List.getElem?_eq_some_iff.mp hi).1
    have hl2 : j < ws.length := (List.getElem?_eq_some_iff.mp hj).1
    exact hD.1 i j x y (by rw [List.getElem?_append_left hl]; exact hi) (by rw [List.getElem?_append_left hl2]; exact hj) hxy
  · have hl : k < ws.length := (List.getElem?_eq_some_iff.mp hx).1
    exact hD.2 k x (by rw [List.getElem?_append_left hl]; exact hx)
  · exact (hkeep i x hx).2 (by rw [hxy]; exact hD1.2 j y hy)
end CTOR
