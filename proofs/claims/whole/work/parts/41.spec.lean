/-! what the two sides compute, in one language. q 0 prices, q 1 chances, q 2 worths, q 3 falls, q 4 waits -/
def wv (q : Nat → Nat → Int32) (s d : Nat) : Int32 := if 0 < q 2 s - q 3 s * nI d then q 2 s - q 3 s * nI d else 0
def cb (q : Nat → Nat → Int32) (d p s : Nat) : Int32 := if wv q s d < q 0 p then 0 else q 1 s
def UB (c p : Int32) (fi : Int64) (b : Nat → Int64) (n : Nat) : Int64 := c.toInt64 * (p.toInt64 * fi + b (n - 1)) + (4 - c).toInt64 * b n
def rowU (c p : Int32) (fi : Int64) (b : Nat → Int64) : Nat → Int64 := fun n => if n = 0 ∨ 12 < n then b n else UB c p fi b n
def dayB (cs : Nat → Int32) (p : Int32) : Nat → Int64 → (Nat → Int64) → Nat → Int64
  | 0, _, b => b
  | s + 1, fi, b => dayB cs p s (fi * 4) (rowU (cs s) p fi b)
def fi4 : Nat → Int64 → Int64
  | 0, f => f
  | s + 1, f => fi4 s (f * 4)
def FI (k : Nat) : Int64 := fi4 k 1
def bsV (rows : Nat → Nat → Int64) (n : Nat) : Nat → Int64
  | 0 => -1
  | p + 1 => if bsV rows n p < rows p n then rows p n else bsV rows n p
def bsA (rows : Nat → Nat → Int64) (n : Nat) : Nat → Nat
  | 0 => 0
  | p + 1 => if bsV rows n p < rows p n then p else bsA rows n p
def endV (re : Nat) : Nat → Int64 := fun n => (nI re).toInt64 * (nI n).toInt64
/-- the best with k days to come, of D days -/
def BV (q : Nat → Nat → Int32) (D re np ns : Nat) : Nat → Nat → Int64
  | 0 => endV re
  | k + 1 => fun n => bsV (fun p => dayB (cb q (D - 1 - k) p) (q 0 p) ns (FI (ns * k)) (BV q D re np ns k)) n np
def BA (q : Nat → Nat → Int32) (D re np ns k n : Nat) : Nat := bsA (fun p => dayB (cb q (D - 1 - k) p) (q 0 p) ns (FI (ns * k)) (BV q D re np ns k)) n np
/-- what a table of numbers asked brings with k days to come -/
def TV (q : Nat → Nat → Int32) (D re ns : Nat) (P : Nat → Nat → Nat) : Nat → Nat → Int64
  | 0 => endV re
  | k + 1 => fun n => dayB (cb q (D - 1 - k) (P (D - 1 - k) n)) (q 0 (P (D - 1 - k) n)) ns (FI (ns * k)) (TV q D re ns P k) n
/-- falling plans, in their order -/
def nxP (m : Nat) : List Nat → Option (List Nat)
  | [] => none
  | x :: xs => match nxP m xs with
    | some ys => some (x :: ys)
    | none => if x < m then some ((x + 1) :: xs.map (fun _ => x + 1)) else none
def plansFrom (m : Nat) : Nat → List Nat → List (List Nat)
  | 0, _ => []
  | f + 1, l => l :: (match nxP m l with
    | some l' => plansFrom m f l'
    | none => [])
def plansEnd (m : Nat) : Nat → List Nat → Bool
  | 0, _ => false
  | f + 1, l => match nxP m l with
    | some l' => plansEnd m f l'
    | none => true
theorem plans_ok : ∀ D, D < 7 → ∀ np, np < 6 → 0 < np → plansEnd (np - 1) 210 (List.replicate D 0) = true := by decide +kernel
def mks : List Nat → Nat
  | [] => 0
  | [_] => 0
  | x :: y :: r => (if y ≠ x then 1 else 0) + mks (y :: r)
/-- the first greatest of the plans that count -/
def KP (val : List Nat → Int64) (ok : List Nat → Bool) : List (List Nat) → Int64 × List Nat → Int64 × List Nat
  | [], r => r
  | l :: ls, r => KP val ok ls (if ok l = true ∧ r.1 < val l then (val l, l) else r)
def plans (D np : Nat) : List (List Nat) := plansFrom (np - 1) 210 (List.replicate D 0)
/-- the day that a buyer of sort s who first comes on day f picks under the plan P: from day d on, k days left; D = none -/
def pkG (q : Nat → Nat → Int32) (P : Nat → Nat) (s f : Nat) : Nat → Nat → Int32 → Int32 → Int32
  | 0, _, best, _ => best
  | k + 1, d, best, most => if wv q s d - q 0 (P d) - q 4 s * (nI d - nI f) ≤ most then pkG q P s f k (d + 1) best most else pkG q P s f k (d + 1) (nI d) (wv q s d - q 0 (P d) - q 4 s * (nI d - nI f))
def pkD (q : Nat → Nat → Int32) (D : Nat) (P : Nat → Nat) (s f : Nat) : Int32 := pkG q P s f (D - f) f (-6) (-1)
/-- whom a waiting walk passes on day d of those of sort s who first came on day f -/
def mtB (q : Nat → Nat → Int32) (D : Nat) (P : Nat → Nat) (d f s : Nat) : Option Int32 :=
  if q 4 s = -1 then (if f = d then some (cb q d (P d) s) else none)
  else if pkD q D P s f = nI d then some (cb q d (P d) s) else if pkD q D P s f = -6 ∧ f = d then some 0 else none
/-- back over the sorts of one day of coming -/
def mtS (g : Nat → Option Int32) (p : Int32) : Nat → Int64 × (Nat → Int64) → Int64 × (Nat → Int64)
  | 0, x => x
  | s + 1, x => mtS g p s (match g s with
    | some c => (x.1 * 4, rowU c p x.1 x.2)
    | none => x)
def mtF (g : Nat → Nat → Option Int32) (p : Int32) (ns : Nat) : Nat → Int64 × (Nat → Int64) → Int64 × (Nat → Int64)
  | 0, x => x
  | f + 1, x => mtF g p ns f (mtS (g f) p ns x)
def mtD (q : Nat → Nat → Int32) (D ns : Nat) (P : Nat → Nat) : Nat → Int64 × (Nat → Int64) → Int64 × (Nat → Int64)
  | 0, x => x
  | d + 1, x => mtD q D ns P d (mtF (mtB q D P d) (q 0 (P d)) ns (d + 1) x)
def MV (q : Nat → Nat → Int32) (D re ns : Nat) (P : Nat → Nat) : Nat → Int64 := (mtD q D ns P D (1, endV re)).2
def PV (q : Nat → Nat → Int32) (D re ns : Nat) (P : Nat → Nat) (k : Nat) : Nat → Int64 := TV q D re ns (fun d _ => P d) k
def keptS (q : Nat → Nat → Int32) (C D re np ns : Nat) : Int64 × List Nat := KP (fun l => PV q D re ns (fun d => l.getD d 0) D C) (fun _ => true) (plans D np) (-1, [])
def onceS (q : Nat → Nat → Int32) (C D re np ns : Nat) : Int64 × List Nat := KP (fun l => PV q D re ns (fun d => l.getD d 0) D C) (fun l => decide (mks l ≤ 1)) (plans D np) (-1, [])
def metS (q : Nat → Nat → Int32) (C D re np ns : Nat) : Int64 × List Nat := KP (fun l => MV q D re ns (fun d => l.getD d 0) C) (fun _ => true) (plans D np) (-1, [])
/-- the data's bounds -/
def Okd (q : Nat → Nat → Int32) (C D re np ns : Nat) : Prop :=
  C ≤ 12 ∧ 1 ≤ D ∧ D ≤ 6 ∧ re ≤ 99 ∧ np ≤ 5 ∧ ns ≤ 3 ∧ (∀ i, i < np → ∃ v : Nat, q 0 i = nI v ∧ 1 ≤ v ∧ v ≤ 99) ∧ (∀ i, i < ns → ∃ v : Nat, q 1 i = nI v ∧ v ≤ 4) ∧ (∀ i, i < ns → ∃ v : Nat, q 2 i = nI v ∧ v ≤ 99) ∧ (∀ i, i < ns → ∃ v : Nat, q 3 i = nI v ∧ v ≤ 30) ∧ ∀ i, i < ns → q 4 i = -1 ∨ ∃ v : Nat, q 4 i = nI v ∧ v ≤ 30
def VX (sx : Sg) (q : Nat → Nat → Int32) (C D re np ns : Nat) : Prop :=
  sx.1 1 0 = nI C ∧ sx.1 1 1 = nI D ∧ sx.1 1 2 = nI re ∧ sx.1 1 4 = nI np ∧ sx.1 1 9 = nI ns ∧ ∀ i, i < 5 → sx.1 (2 + i) = q i
def VM (sm : Sg) (q : Nat → Nat → Int32) (C D re np ns : Nat) : Prop :=
  sm.1 0 0 = nI C ∧ sm.1 0 1 = nI D ∧ sm.1 0 2 = nI re ∧ sm.1 0 4 = nI np ∧ sm.1 0 9 = nI ns ∧ ∀ i, i < 5 → sm.1 (1 + i) = q i
def Pln (sx sm : Sg) (np : Nat) : Prop := sm.1 6 = sx.1 7 ∧ ∀ d, d < 6 → ∃ v : Nat, sx.1 7 d = nI v ∧ (v = 0 ∨ v < np)
def Txt (sx sm : Sg) : Prop := ∃ (t : Nat → Int32) (k : Nat), k ≤ 40 ∧ sx.1 67 1 = nI k ∧ sm.1 0 20 = nI k ∧ sx.1 68 = t ∧ sm.1 14 = t
def Rul (sx sm : Sg) : Prop := (sx.1 69 0 = 0 ∧ sm.1 0 26 = -6) ∨ (sx.1 69 0 = 1 ∧ ∃ nc lp : Nat, nc ≤ 6 ∧ lp ≤ 4 ∧ sx.1 69 1 = nI nc ∧ sm.1 0 25 = nI nc ∧ sx.1 69 6 = nI lp ∧ sm.1 0 26 = nI lp ∧ ∀ k, k < nc → sm.1 15 k = sx.1 70 k ∧ sm.1 16 k = sx.1 71 k ∧ sm.1 17 k = sx.1 72 k ∧ sm.1 18 k = sx.1 73 k ∧ ∃ v : Nat, sx.1 73 k = nI v ∧ v ≤ 4)
def Best (sx : Sg) (q : Nat → Nat → Int32) (C D re np ns : Nat) : Prop := ∀ d, d ≤ D → ∀ n, n ≤ 12 → sx.2 (10 + d) n = BV q D re np ns (D - d) n ∧ (d < D → sx.1 (18 + d) n = nI (BA q D re np ns (D - 1 - d) n))
def Kept (sx : Sg) (q : Nat → Nat → Int32) (C D re np ns : Nat) : Prop := (sx.2 61 1 = (keptS q C D re np ns).1 ∧ ∀ d, d < D → sx.1 62 d = nI ((keptS q C D re np ns).2.getD d 0)) ∧ (sx.2 63 1 = (onceS q C D re np ns).1 ∧ ∀ d, d < D → sx.1 64 d = nI ((onceS q C D re np ns).2.getD d 0))
def Metc (sx : Sg) (q : Nat → Nat → Int32) (C D re np ns : Nat) : Prop := sx.2 65 1 = (metS q C D re np ns).1 ∧ ∀ d, d < D → sx.1 66 d = nI ((metS q C D re np ns).2.getD d 0)
/-- what was found counts for its edition -/
def Edn (n : Nat) (sx : Sg) (q : Nat → Nat → Int32) (C D re np ns : Nat) : Prop := ∃ ed e1 e2 e3 : Nat, ed ≤ n ∧ sx.1 1 10 = nI ed ∧
  (sx.1 0 11 = nI e1 + (-1) ∧ e1 ≤ ed + 1 ∧ (e1 = ed + 1 → Best sx q C D re np ns)) ∧ (sx.1 0 12 = nI e2 + (-1) ∧ e2 ≤ ed + 1 ∧ (e2 = ed + 1 → Kept sx q C D re np ns)) ∧ (sx.1 0 13 = nI e3 + (-1) ∧ e3 ≤ ed + 1 ∧ (e3 = ed + 1 → Metc sx q C D re np ns))
def Rel (n : Nat) (sx sm : Sg) : Prop := n ≤ 512 ∧ ∃ (q : Nat → Nat → Int32) (C D re np ns : Nat), Okd q C D re np ns ∧ VX sx q C D re np ns ∧ VM sm q C D re np ns ∧ Pln sx sm np ∧ Txt sx sm ∧ Rul sx sm ∧ Edn n sx q C D re np ns
