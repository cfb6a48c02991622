/-! words of the lifted methods, and how they are taken apart -/
def FU : Nat := 4611686018427387904
def nm {α β : Type} (v : β) (k : β → Option α) : Option α := k v
def bnd1 {α β : Type} (o : Option β) (k : β → Option α) : Option α := o.bind k
def bnd2 {α β γ : Type} (o : Option (β × γ)) (k : β → γ → Option α) : Option α := o.bind (fun q => k q.1 q.2)
def cix {α : Type} (i : Int32) (n : Nat) (k : Option α) : Option α := if i < 0 ∨ n ≤ i.toNatClampNeg then none else k
def cnz {α : Type} (y : Int64) (k : Option α) : Option α := if y = 0 then none else k
def cb01 {α : Type} (y : Int32) (k : Option α) : Option α := if y = 0 ∨ y = 1 then k else none
def cpc {α : Type} (sp dp n : Int32) (n0 n1 : Nat) (k : Option α) : Option α := if ¬ sp < 0 ∧ ¬ dp < 0 ∧ ¬ n < 0 ∧ sp.toNatClampNeg + n.toNatClampNeg ≤ n0 ∧ dp.toNatClampNeg + n.toNatClampNeg ≤ n1 then k else none
theorem nm_s {α β : Type} {v : β} {k : β → Option α} {r : α} (h : nm v k = some r) : ∃ x, x = v ∧ k x = some r := ⟨v, rfl, h⟩
theorem bnd1_s {α β : Type} {o : Option β} {k : β → Option α} {r : α} (h : bnd1 o k = some r) : ∃ x, o = some x ∧ k x = some r := by
  cases o with
  | none => cases h
  | some x => exact ⟨x, rfl, h⟩
theorem bnd2_s {α β γ : Type} {o : Option (β × γ)} {k : β → γ → Option α} {r : α} (h : bnd2 o k = some r) : ∃ x y, o = some (x, y) ∧ k x y = some r := by
  cases o with
  | none => cases h
  | some x => exact ⟨x.1, x.2, rfl, h⟩
theorem cix_s {α : Type} {i : Int32} {n : Nat} {k : Option α} {r : α} (h : cix i n k = some r) : vp_in i n ∧ k = some r := by
  unfold cix at h
  split at h
  · cases h
  · rename_i q; exact ⟨q, h⟩
theorem cnz_s {α : Type} {y : Int64} {k : Option α} {r : α} (h : cnz y k = some r) : ¬ y = 0 ∧ k = some r := by
  unfold cnz at h
  split at h
  · cases h
  · rename_i q; exact ⟨q, h⟩
theorem cb01_s {α : Type} {y : Int32} {k : Option α} {r : α} (h : cb01 y k = some r) : (y = 0 ∨ y = 1) ∧ k = some r := by
  unfold cb01 at h
  split at h
  · rename_i q; exact ⟨q, h⟩
  · cases h
theorem cpc_s {α : Type} {sp dp n : Int32} {n0 n1 : Nat} {k : Option α} {r : α} (h : cpc sp dp n n0 n1 k = some r) : okC sp dp n n0 n1 ∧ k = some r := by
  unfold cpc at h
  split at h
  · rename_i q; exact ⟨q, h⟩
  · cases h
theorem ite_t {α : Type} {c : Prop} [Decidable c] {a b : Option α} {r : α} (h : (if c then a else b) = some r) (hc : c) : a = some r := by rwa [if_pos hc] at h
theorem ite_f {α : Type} {c : Prop} [Decidable c] {a b : Option α} {r : α} (h : (if c then a else b) = some r) (hc : ¬ c) : b = some r := by rwa [if_neg hc] at h
theorem none_s {α : Type} {r : α} {P : Prop} (h : (none : Option α) = some r) : P := by cases h
theorem row_lt {i : Int32} {n b N : Nat} (h : vp_in i n) (hb : b + n ≤ N) : b + i.toNatClampNeg < N := by
  have := vp_lt h
  omega
section RET
variable {p : Program} {l : Launch} {e : Env} {R : Room} {s : State} {m : MethodId} {args : Array Value} {below : List Frame} {meth : Method} {c : Code} {H H0 : Heap} {locs : List Loc} {cells slots : Nat} {Q : State → Prop}
variable {cc : ByteArray} {pc nL N : Nat} {ls : Array Slot} {rest : List Value} {g : Gx} {ce : Ce} {A : Nat → Prop} {st st' : Sg} {own : String} {rt : Option FieldType} {o : Nat}
theorem k_nmI {x v : Int32} (ex : x = v) (kk : W p l e R s m args below meth c H locs cells slots Q (F0 m pc ls (.int x :: rest))) : W p l e R s m args below meth c H locs cells slots Q (F0 m pc ls (.int v :: rest)) := by subst ex; exact kk
theorem k_nmJ {x v : Int64} (ex : x = v) (kk : W p l e R s m args below meth c H locs cells slots Q (F0 m pc ls (.long x :: rest))) : W p l e R s m args below meth c H locs cells slots Q (F0 m pc ls (.long v :: rest)) := by subst ex; exact kk
theorem k_nmR {x v : Int32} {f : Int32 → Nat} (ex : x = v) (kk : W p l e R s m args below meth c H locs cells slots Q (F0 m pc ls (.ref (f x) :: rest))) : W p l e R s m args below meth c H locs cells slots Q (F0 m pc ls (.ref (f v) :: rest)) := by subst ex; exact kk
theorem k_iretW (X : Cx g p s m args meth c cc nL own (some .int)) (Y : Hp g N ce A s.heap st H locs) {r v : Int32} (h : some (v, st) = some (r, st')) (hdg : decode cc pc = .ok (.ireturn, 1)) : W p l e R s m args below meth c H locs 0 0 (MQ below (QI g N ce A r st') args s 0 0 A) (F0 m pc ls [.int v]) := by
  cases h; exact k_iret X Y hdg
theorem k_iretR (X : Cx g p s m args meth c cc nL own (some .int)) (Y : Hp g N ce A s.heap st H locs) {r v : Int32} (h : some v = some r) (hdg : decode cc pc = .ok (.ireturn, 1)) : W p l e R s m args below meth c H locs 0 0 (MQ below (QI g N ce A r st) args s 0 0 A) (F0 m pc ls [.int v]) := by
  cases h; exact k_iret X Y hdg
theorem k_zretW (X : Cx g p s m args meth c cc nL own (some .boolean)) (Y : Hp g N ce A s.heap st H locs) {r v : Int32} (hv : v = 0 ∨ v = 1) (h : some (v, st) = some (r, st')) (hdg : decode cc pc = .ok (.ireturn, 1)) : W p l e R s m args below meth c H locs 0 0 (MQ below (QI g N ce A r st') args s 0 0 A) (F0 m pc ls [.int v]) := by
  cases h; exact k_zret X Y hv hdg
theorem k_zretR (X : Cx g p s m args meth c cc nL own (some .boolean)) (Y : Hp g N ce A s.heap st H locs) {r v : Int32} (hv : v = 0 ∨ v = 1) (h : some v = some r) (hdg : decode cc pc = .ok (.ireturn, 1)) : W p l e R s m args below meth c H locs 0 0 (MQ below (QI g N ce A r st) args s 0 0 A) (F0 m pc ls [.int v]) := by
  cases h; exact k_zret X Y hv hdg
theorem k_lretW (X : Cx g p s m args meth c cc nL own (some .long)) (Y : Hp g N ce A s.heap st H locs) {r v : Int64} (h : some (v, st) = some (r, st')) (hdg : decode cc pc = .ok (.lreturn, 1)) : W p l e R s m args below meth c H locs 0 0 (MQ below (QJ g N ce A r st') args s 0 0 A) (F0 m pc ls [.long v]) := by
  cases h; exact k_lret X Y hdg
theorem k_lretR (X : Cx g p s m args meth c cc nL own (some .long)) (Y : Hp g N ce A s.heap st H locs) {r v : Int64} (h : some v = some r) (hdg : decode cc pc = .ok (.lreturn, 1)) : W p l e R s m args below meth c H locs 0 0 (MQ below (QJ g N ce A r st) args s 0 0 A) (F0 m pc ls [.long v]) := by
  cases h; exact k_lret X Y hdg
theorem k_vretW (X : Cx g p s m args meth c cc nL own none) (Y : Hp g N ce A s.heap st H locs) (h : some st = some st') (hdg : decode cc pc = .ok (.return_, 1)) : W p l e R s m args below meth c H locs 0 0 (MQ below (QV g N ce A st') args s 0 0 A) (F0 m pc ls []) := by
  cases h; exact k_vret X Y hdg
theorem k_aretW {C : String} (X : Cx g p s m args meth c cc nL own (some (.object C))) (Y : Hp g N ce A s.heap st H locs) {r v : Nat} (h : some (v, st) = some (r, st')) (hdg : decode cc pc = .ok (.areturn, 1)) : W p l e R s m args below meth c H locs 0 0 (MQ below (QA g N ce A r st') args s 0 0 A) (F0 m pc ls [.ref (g.2.1 v)]) := by
  cases h; exact k_aret X Y hdg
end RET
