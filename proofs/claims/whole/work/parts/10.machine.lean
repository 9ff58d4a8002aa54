/-! An abstract machine: values, cells by numbers, instructions as functions of what comes behind them. -/
abbrev zVal : Type := Int32 ⊕ (Int64 ⊕ Option Nat)
abbrev zI (x : Int32) : zVal := .inl x
abbrev zL (y : Int64) : zVal := .inr (.inl y)
abbrev zR (r : Option Nat) : zVal := .inr (.inr r)
abbrev yI (x : Int32) : Option zVal := some (.inl x)
abbrev yL (y : Int64) : Option zVal := some (.inr (.inl y))
abbrev yR (r : Option Nat) : Option zVal := some (.inr (.inr r))
abbrev zLoc : Type := List (Option zVal)
abbrev zStk : Type := List zVal
/-- int fields by key and place, reference fields, int rows (sort, length, what), reference rows, classes, the next place, slots used -/
abbrev zHeap : Type := (Nat → Nat → Option Int32) × (Nat → Nat → Option (Option Nat)) × (Nat → Option (Nat × Nat × (Nat → Int32))) × (Nat → Option (Nat × Nat × (Nat → Option Nat))) × (Nat → Option Nat) × Nat × Nat
def hFI (h : zHeap) : Nat → Nat → Option Int32 := h.1
def hFR (h : zHeap) : Nat → Nat → Option (Option Nat) := h.2.1
def hAI (h : zHeap) : Nat → Option (Nat × Nat × (Nat → Int32)) := h.2.2.1
def hAR (h : zHeap) : Nat → Option (Nat × Nat × (Nat → Option Nat)) := h.2.2.2.1
def hCL (h : zHeap) : Nat → Option Nat := h.2.2.2.2.1
def hN (h : zHeap) : Nat := h.2.2.2.2.2.1
def hS (h : zHeap) : Nat := h.2.2.2.2.2.2
abbrev zRes : Type := zVal × zHeap
abbrev zNxt : Type := zLoc → zStk → zHeap → Option zRes
abbrev zCal : Type := Nat → List zVal → zHeap → Option zRes
abbrev zSem : Type := zNxt → (Nat → zNxt) → zCal → zNxt
def i32 (n : Int) : Int32 := Int32.ofInt n
def i64 (n : Int) : Int64 := Int64.ofInt n
/-! heaps: what is read and written -/
def zsI (h : zHeap) (k a : Nat) (x : Int32) : zHeap := (fun k' a' => if k' = k ∧ a' = a then some x else hFI h k' a', hFR h, hAI h, hAR h, hCL h, hN h, hS h)
def zsR (h : zHeap) (k a : Nat) (r : Option Nat) : zHeap := (hFI h, fun k' a' => if k' = k ∧ a' = a then some r else hFR h k' a', hAI h, hAR h, hCL h, hN h, hS h)
def zsA (h : zHeap) (a : Nat) (t n : Nat) (f : Nat → Int32) : zHeap := (hFI h, hFR h, fun a' => if a' = a then some (t, n, f) else hAI h a', hAR h, hCL h, hN h, hS h)
def zsQ (h : zHeap) (a : Nat) (t n : Nat) (f : Nat → Option Nat) : zHeap := (hFI h, hFR h, hAI h, fun a' => if a' = a then some (t, n, f) else hAR h a', hCL h, hN h, hS h)
def zup {α : Type} (f : Nat → α) (k : Nat) (v : α) : Nat → α := fun j => if j = k then v else f j
def zgI (h : zHeap) (r : Option Nat) (k : Nat) : Option Int32 := match r with
  | some a => hFI h k a
  | none => none
def zgR (h : zHeap) (r : Option Nat) (k : Nat) : Option (Option Nat) := match r with
  | some a => hFR h k a
  | none => none
def zpI (h : zHeap) (r : Option Nat) (k : Nat) (x : Int32) : Option zHeap := match r with
  | some a => match hFI h k a with
    | some _ => some (zsI h k a x)
    | none => none
  | none => none
def zpZ (h : zHeap) (r : Option Nat) (k : Nat) (x : Int32) : Option zHeap := if x = 0 ∨ x = 1 then zpI h r k x else none
def zpR (h : zHeap) (r : Option Nat) (k : Nat) (v : Option Nat) : Option zHeap := match r with
  | some a => match hFR h k a with
    | some _ => some (zsR h k a v)
    | none => none
  | none => none
/-- a row's element: of sort t (0 int, 1 byte, 2 boolean) -/
def zaI (h : zHeap) (r : Option Nat) (i : Int32) (t : Nat) : Option Int32 := match r with
  | some a => match hAI h a with
    | some (t', n, f) => if t' = t ∧ 0 ≤ i ∧ i.toNatClampNeg < n then some (f i.toNatClampNeg) else none
    | none => none
  | none => none
def zaB (h : zHeap) (r : Option Nat) (i : Int32) : Option Int32 := match r with
  | some a => match hAI h a with
    | some (t, n, f) => if (t = 1 ∨ t = 2) ∧ 0 ≤ i ∧ i.toNatClampNeg < n then some (f i.toNatClampNeg) else none
    | none => none
  | none => none
/-- places from here on are constants: read alone -/
def zK0 : Nat := 1000000
def zaS (h : zHeap) (r : Option Nat) (i : Int32) (x : Int32) : Option zHeap := match r with
  | some a => match hAI h a with
    | some (t, n, f) => if t = 0 ∧ a < zK0 ∧ 0 ≤ i ∧ i.toNatClampNeg < n then some (zsA h a t n (zup f i.toNatClampNeg x)) else none
    | none => none
  | none => none
def znar (t : Nat) (x : Int32) : Int32 := if t = 1 then x.toInt8.toInt32 else x &&& 1
def zaC (h : zHeap) (r : Option Nat) (i : Int32) (x : Int32) : Option zHeap := match r with
  | some a => match hAI h a with
    | some (t, n, f) => if (t = 1 ∨ t = 2) ∧ a < zK0 ∧ 0 ≤ i ∧ i.toNatClampNeg < n then some (zsA h a t n (zup f i.toNatClampNeg (znar t x))) else none
    | none => none
  | none => none
def zaR (h : zHeap) (r : Option Nat) (i : Int32) : Option (Option Nat) := match r with
  | some a => match hAR h a with
    | some (_, n, f) => if 0 ≤ i ∧ i.toNatClampNeg < n then some (f i.toNatClampNeg) else none
    | none => none
  | none => none
def zaT (h : zHeap) (r : Option Nat) (i : Int32) (v : Option Nat) : Option zHeap := match r with
  | some a => match hAR h a with
    | some (t, n, f) => match v with
      | some q => if 0 ≤ i ∧ i.toNatClampNeg < n ∧ hCL h q = some t then some (zsQ h a t n (zup f i.toNatClampNeg v)) else none
      | none => none
    | none => none
  | none => none
def zaN (h : zHeap) (r : Option Nat) : Option Int32 := match r with
  | some a => match hAI h a with
    | some (_, n, _) => some (i32 n)
    | none => none
  | none => none
/-- what sort each field is: 1 int (boolean, byte), 2 reference; by classes -/
def zfk (tb : List (List Nat)) (k : Nat) : Nat := ((tb[k / 64]?).bind (fun r => r[k % 64]?)).getD 0
def znO (tb : List (List Nat)) (C : Nat) (h : zHeap) : zHeap :=
  (fun k a => if a = hN h ∧ k / 64 = C then (if zfk tb k = 1 then some 0 else none) else hFI h k a, fun k a => if a = hN h ∧ k / 64 = C then (if zfk tb k = 2 then some none else none) else hFR h k a, hAI h, hAR h, fun a => if a = hN h then some C else hCL h a, hN h + 1, hS h + ((tb[C]?).getD []).length)
def znA (t n : Nat) (h : zHeap) : zHeap := (hFI h, hFR h, fun a => if a = hN h then some (t, n, fun _ => 0) else hAI h a, hAR h, hCL h, hN h + 1, hS h + n)
def znQ (C n : Nat) (h : zHeap) : zHeap := (hFI h, hFR h, hAI h, fun a => if a = hN h then some (C, n, fun _ => none) else hAR h a, hCL h, hN h + 1, hS h + n)
/-- System.arraycopy of int rows that are two -/
def zcpy {α : Type} (f g : Nat → α) (sp dp n : Nat) : Nat → α := fun k => if dp ≤ k ∧ k < dp + n then f (sp + (k - dp)) else g k
def zaY (h : zHeap) (r : Option Nat) (sp : Int32) (q : Option Nat) (dp n : Int32) : Option zHeap := match r, q with
  | some a, some b => match hAI h a, hAI h b with
    | some (t, n0, f), some (t', n1, g) => if t = t' ∧ (t = 0 ∨ t = 1) ∧ a < zK0 ∧ b < zK0 ∧ a ≠ b ∧ 0 ≤ sp ∧ 0 ≤ dp ∧ 0 ≤ n ∧ sp.toNatClampNeg + n.toNatClampNeg ≤ n0 ∧ dp.toNatClampNeg + n.toNatClampNeg ≤ n1 then some (zsA h b t' n1 (zcpy f g sp.toNatClampNeg dp.toNatClampNeg n.toNatClampNeg)) else none
    | _, _ => none
  | _, _ => none
/-! what a call gives -/
def zbI (o : Option zRes) (k : Int32 → zHeap → Option zRes) : Option zRes := match o with
  | some (.inl x, h) => k x h
  | _ => none
def zbL (o : Option zRes) (k : Int64 → zHeap → Option zRes) : Option zRes := match o with
  | some (.inr (.inl x), h) => k x h
  | _ => none
def zbR (o : Option zRes) (k : Option Nat → zHeap → Option zRes) : Option zRes := match o with
  | some (.inr (.inr r), h) => k r h
  | _ => none
def zbV (o : Option zRes) (k : zHeap → Option zRes) : Option zRes := match o with
  | some (_, h) => k h
  | _ => none
def zoI (o : Option Int32) (k : Int32 → Option zRes) : Option zRes := match o with
  | some x => k x
  | none => none
def zoR (o : Option (Option Nat)) (k : Option Nat → Option zRes) : Option zRes := match o with
  | some x => k x
  | none => none
def zoH (o : Option zHeap) (k : zHeap → Option zRes) : Option zRes := match o with
  | some x => k x
  | none => none
def zif (b : Bool) (x y : Option zRes) : Option zRes := match b with
  | true => x
  | false => y
/-! instructions -/
def sP (f : zLoc → zStk → Option (zLoc × zStk)) : zSem := fun nx _ _ ls st h => match f ls st with
  | some q => nx q.1 q.2 h
  | none => none
def sRI (g : zStk → zHeap → Option (Option Int32 × zStk)) : zSem := fun nx _ _ ls st h => match g st h with
  | some q => zoI q.1 (fun x => nx ls (.inl x :: q.2) h)
  | none => none
def sRR (g : zStk → zHeap → Option (Option (Option Nat) × zStk)) : zSem := fun nx _ _ ls st h => match g st h with
  | some q => zoR q.1 (fun x => nx ls (.inr (.inr x) :: q.2) h)
  | none => none
def sWr (g : zStk → zHeap → Option (Option zHeap × zStk)) : zSem := fun nx _ _ ls st h => match g st h with
  | some q => zoH q.1 (fun h' => nx ls q.2 h')
  | none => none
def sBr (c : zStk → Option (Bool × zStk)) (t : Nat) : zSem := fun nx go _ ls st h => match c st with
  | some q => zif q.1 (go t ls q.2 h) (nx ls q.2 h)
  | none => none
def sGo (t : Nat) : zSem := fun _ go _ ls st h => go t ls st h
def zsw (x : Int32) (ts : List (Int × Nat)) (k : Nat → Option zRes) (d : Nat) : Option zRes := match ts with
  | [] => k d
  | q :: r => zif (decide (x = i32 q.1)) (k q.2) (zsw x r k d)
def sSw (ts : List (Int × Nat)) (d : Nat) : zSem := fun _ go _ ls st h => match st with
  | .inl x :: r => zsw x ts (fun t => go t ls r h) d
  | _ => none
/-- the topmost n of the stack, the deepest first, and the rest -/
def ztk : Nat → zStk → List zVal → Option (List zVal × zStk)
  | 0, st, acc => some (acc, st)
  | n + 1, v :: st, acc => ztk n st (v :: acc)
  | _ + 1, [], _ => none
def zct (v : zVal) : Nat := match v with
  | .inr (.inl _) => 2
  | _ => 1
def zcs : zStk → Nat
  | [] => 0
  | v :: st => zct v + zcs st
/-- what a call's arguments must be: of a method with a receiver, an object of the class -/
def zok (C : Option Nat) (as : List zVal) (h : zHeap) (k : Option zRes) : Option zRes := match C with
  | none => k
  | some C => match as with
    | .inr (.inr (some a)) :: _ => if hCL h a = some C then k else none
    | _ => none
def sCI (m n : Nat) (C : Option Nat) (w : Nat) : zSem := fun nx _ cl ls st h => match ztk n st [] with
  | some q => zif (Nat.ble (zcs q.2) 8 && Nat.ble (zcs q.1) w) (zbI (zok C q.1 h (cl m q.1 h)) (fun x h' => nx ls (.inl x :: q.2) h')) none
  | none => none
def sCL (m n : Nat) (C : Option Nat) (w : Nat) : zSem := fun nx _ cl ls st h => match ztk n st [] with
  | some q => zif (Nat.ble (zcs q.2) 8 && Nat.ble (zcs q.1) w) (zbL (zok C q.1 h (cl m q.1 h)) (fun x h' => nx ls (.inr (.inl x) :: q.2) h')) none
  | none => none
def sCR (m n : Nat) (C : Option Nat) (w : Nat) : zSem := fun nx _ cl ls st h => match ztk n st [] with
  | some q => zif (Nat.ble (zcs q.2) 8 && Nat.ble (zcs q.1) w) (zbR (zok C q.1 h (cl m q.1 h)) (fun x h' => nx ls (.inr (.inr x) :: q.2) h')) none
  | none => none
def sCV (m n : Nat) (C : Option Nat) (w : Nat) : zSem := fun nx _ cl ls st h => match ztk n st [] with
  | some q => zif (Nat.ble (zcs q.2) 8 && Nat.ble (zcs q.1) w) (zbV (zok C q.1 h (cl m q.1 h)) (fun h' => nx ls q.2 h')) none
  | none => none
def sNw (g : zStk → zHeap → Option (zHeap × zStk)) : zSem := fun nx _ _ ls st h => match g st h with
  | some q => nx ls (.inr (.inr (some (hN h))) :: q.2) q.1
  | none => none
def sRet (f : zStk → Option zVal) : zSem := fun _ _ _ _ st h => match f st with
  | some v => some (v, h)
  | none => none
/-! pure steps -/
abbrev zPur : Type := zLoc → zStk → Option (zLoc × zStk)
def fCon (n : Int) : zPur := fun ls st => some (ls, .inl (i32 n) :: st)
def fLon (n : Int) : zPur := fun ls st => some (ls, .inr (.inl (i64 n)) :: st)
def fRef (r : Option Nat) : zPur := fun ls st => some (ls, .inr (.inr r) :: st)
def fIld (k : Nat) : zPur := fun ls st => match ls[k]? with
  | some (some (.inl x)) => some (ls, .inl x :: st)
  | _ => none
def fAld (k : Nat) : zPur := fun ls st => match ls[k]? with
  | some (some (.inr (.inr x))) => some (ls, .inr (.inr x) :: st)
  | _ => none
def fLld (k : Nat) : zPur := fun ls st => match ls[k]?, ls[k + 1]? with
  | some (some (.inr (.inl x))), some none => some (ls, .inr (.inl x) :: st)
  | _, _ => none
def fIst (k : Nat) : zPur := fun ls st => match st with
  | .inl x :: r => match Nat.blt k ls.length with
    | true => some (ls.set k (some (.inl x)), r)
    | false => none
  | _ => none
def fAst (k : Nat) : zPur := fun ls st => match st with
  | .inr (.inr x) :: r => match Nat.blt k ls.length with
    | true => some (ls.set k (some (.inr (.inr x))), r)
    | false => none
  | _ => none
def fLst (k : Nat) : zPur := fun ls st => match st with
  | .inr (.inl x) :: r => match Nat.blt (k + 1) ls.length with
    | true => some ((ls.set k (some (.inr (.inl x)))).set (k + 1) none, r)
    | false => none
  | _ => none
def fInc (k : Nat) (n : Int) : zPur := fun ls st => match ls[k]? with
  | some (some (.inl x)) => match Nat.blt k ls.length with
    | true => some (ls.set k (some (.inl (x + i32 n))), st)
    | false => none
  | _ => none
def fII (f : Int32 → Int32 → Int32) : zPur := fun ls st => match st with
  | .inl y :: .inl x :: r => some (ls, .inl (f x y) :: r)
  | _ => none
def fI1 (f : Int32 → Int32) : zPur := fun ls st => match st with
  | .inl x :: r => some (ls, .inl (f x) :: r)
  | _ => none
def fLL (f : Int64 → Int64 → Int64) : zPur := fun ls st => match st with
  | .inr (.inl y) :: .inr (.inl x) :: r => some (ls, .inr (.inl (f x y)) :: r)
  | _ => none
def fIL : zPur := fun ls st => match st with
  | .inl x :: r => some (ls, .inr (.inl x.toInt64) :: r)
  | _ => none
def zcmp (x y : Int64) : Int32 := lg_cmp x y
def fLc : zPur := fun ls st => match st with
  | .inr (.inl y) :: .inr (.inl x) :: r => some (ls, .inl (zcmp x y) :: r)
  | _ => none
def fDup : zPur := fun ls st => match st with
  | .inl x :: r => some (ls, .inl x :: .inl x :: r)
  | .inr (.inr x) :: r => some (ls, .inr (.inr x) :: .inr (.inr x) :: r)
  | _ => none
def fPop : zPur := fun ls st => match st with
  | .inl _ :: r => some (ls, r)
  | .inr (.inr _) :: r => some (ls, r)
  | _ => none
/-- dup2 of an index and a row beneath it -/
def fDup2 : zPur := fun ls st => match st with
  | .inl x :: .inr (.inr y) :: r => some (ls, .inl x :: .inr (.inr y) :: .inl x :: .inr (.inr y) :: r)
  | _ => none
def zk8 {α : Type} (r : zStk) (v : Option α) : Option α := match Nat.ble (zcs r) 8 with
  | true => v
  | false => none
def fMM (f : Int32 → Int32 → Int32) : zPur := fun ls st => match st with
  | .inl y :: .inl x :: r => zk8 r (some (ls, .inl (f x y) :: r))
  | _ => none
def zmax (x y : Int32) : Int32 := if x < y then y else x
def zmin (x y : Int32) : Int32 := if y < x then y else x
/-! division asks for a divisor -/
def gDiv (f : Int32 → Int32 → Int32) : zStk → zHeap → Option (Option Int32 × zStk) := fun st _ => match st with
  | .inl y :: .inl x :: r => some (if y = 0 then none else some (f x y), r)
  | _ => none
def zoL (o : Option Int64) (k : Int64 → Option zRes) : Option zRes := match o with
  | some x => k x
  | none => none
def sDL (f : Int64 → Int64 → Int64) : zSem := fun nx _ _ ls st h => match st with
  | .inr (.inl y) :: .inr (.inl x) :: r => zoL (if y = 0 then none else some (f x y)) (fun z => nx ls (.inr (.inl z) :: r) h)
  | _ => none
/-! reads and writes -/
abbrev zRdI : Type := zStk → zHeap → Option (Option Int32 × zStk)
def gFI (k : Nat) : zRdI := fun st h => match st with
  | .inr (.inr r) :: s => some (zgI h r k, s)
  | _ => none
def gFR (k : Nat) : zStk → zHeap → Option (Option (Option Nat) × zStk) := fun st h => match st with
  | .inr (.inr r) :: s => some (zgR h r k, s)
  | _ => none
def gAI : zRdI := fun st h => match st with
  | .inl i :: .inr (.inr r) :: s => some (zaI h r i 0, s)
  | _ => none
def gAB : zRdI := fun st h => match st with
  | .inl i :: .inr (.inr r) :: s => some (zaB h r i, s)
  | _ => none
def gAR : zStk → zHeap → Option (Option (Option Nat) × zStk) := fun st h => match st with
  | .inl i :: .inr (.inr r) :: s => some (zaR h r i, s)
  | _ => none
def gAN : zRdI := fun st h => match st with
  | .inr (.inr r) :: s => some (zaN h r, s)
  | _ => none
abbrev zWrt : Type := zStk → zHeap → Option (Option zHeap × zStk)
def wFI (k : Nat) : zWrt := fun st h => match st with
  | .inl x :: .inr (.inr r) :: s => some (zpI h r k x, s)
  | _ => none
def wFZ (k : Nat) : zWrt := fun st h => match st with
  | .inl x :: .inr (.inr r) :: s => some (zpZ h r k x, s)
  | _ => none
def wFR (k : Nat) : zWrt := fun st h => match st with
  | .inr (.inr v) :: .inr (.inr r) :: s => some (zpR h r k v, s)
  | _ => none
def wAI : zWrt := fun st h => match st with
  | .inl x :: .inl i :: .inr (.inr r) :: s => some (zaS h r i x, s)
  | _ => none
def wAB : zWrt := fun st h => match st with
  | .inl x :: .inl i :: .inr (.inr r) :: s => some (zaC h r i x, s)
  | _ => none
def wAR : zWrt := fun st h => match st with
  | .inr (.inr v) :: .inl i :: .inr (.inr r) :: s => some (zaT h r i v, s)
  | _ => none
def wCp : zWrt := fun st h => match st with
  | .inl n :: .inl dp :: .inr (.inr q) :: .inl sp :: .inr (.inr r) :: s => zk8 s (some (zaY h r sp q dp n, s))
  | _ => none
/-- Object's own constructor: nothing -/
def fObj : zPur := fun ls st => match st with
  | .inr (.inr (some _)) :: r => zk8 r (some (ls, r))
  | _ => none
/-! branches -/
def c2 (f : Int32 → Int32 → Bool) : zStk → Option (Bool × zStk) := fun st => match st with
  | .inl y :: .inl x :: r => some (f x y, r)
  | _ => none
def c1 (f : Int32 → Bool) : zStk → Option (Bool × zStk) := fun st => match st with
  | .inl x :: r => some (f x, r)
  | _ => none
def cN (f : Option Nat → Bool) : zStk → Option (Bool × zStk) := fun st => match st with
  | .inr (.inr x) :: r => some (f x, r)
  | _ => none
/-! made cells -/
abbrev zNew : Type := zStk → zHeap → Option (zHeap × zStk)
def nO (tb : List (List Nat)) (C : Nat) : zNew := fun st h => some (znO tb C h, st)
def zlen (n : Int32) : Option Nat := if 0 ≤ n ∧ n.toNatClampNeg ≤ 100000 then some n.toNatClampNeg else none
def zoN (o : Option Nat) (k : Nat → Option zRes) : Option zRes := match o with
  | some x => k x
  | none => none
def sNA (g : Nat → zHeap → zHeap) : zSem := fun nx _ _ ls st h => match st with
  | .inl n :: r => zoN (zlen n) (fun n => nx ls (.inr (.inr (some (hN h))) :: r) (g n h))
  | _ => none
/-! ends -/
def rI : zStk → Option zVal := fun st => match st with
  | [.inl x] => some (.inl x)
  | _ => none
def rL : zStk → Option zVal := fun st => match st with
  | [.inr (.inl x)] => some (.inr (.inl x))
  | _ => none
def rR : zStk → Option zVal := fun st => match st with
  | [.inr (.inr x)] => some (.inr (.inr x))
  | _ => none
def rV : zStk → Option zVal := fun st => match st with
  | [] => some (.inl 0)
  | _ => none
def zrz (x : Int32) (h : zHeap) : Option zRes := if x = 0 ∨ x = 1 then some (.inl x, h) else none
def sRz : zSem := fun _ _ _ _ st h => match st with
  | [.inl x] => zrz x h
  | _ => none
def zrem (x y : Int32) : Int32 := x - x / y * y
def zremL (x y : Int64) : Int64 := x - x / y * y
def zshl (x y : Int32) : Int32 := x <<< (y &&& 31)
def zshr (x y : Int32) : Int32 := x >>> (y &&& 31)
def zushr (x y : Int32) : Int32 := (x.toUInt32 >>> (y.toUInt32 &&& Int32.toUInt32 31)).toInt32
def zi2b (x : Int32) : Int32 := x.toInt8.toInt32
/-! constant texts: their lengths, their signs -/
def zTx : List (List Int) := [[114,101,101,100],[112,108,97,121,101,114],[113,117,101,115,116,105,111,110],[109,101,97,110,115],[99,111,108,100],[97,115,107],[100,117,101,116],[119,101,116],[99,117,116],[110,105,103,104,116],[104,101,97,114,100],[99,111,117,103,104],[110,111],[121,101,115],[119,97,105,116]]
/-- the place of a constant text -/
def zK1 : Nat := 1000100
def zSn (r : Option Nat) : Option Int32 := match r with
  | some a => if zK1 ≤ a then (zTx[a - zK1]?).map (fun t => i32 t.length) else none
  | none => none
def zSc (r : Option Nat) (i : Int32) : Option Int32 := match r with
  | some a => if zK1 ≤ a ∧ 0 ≤ i then (zTx[a - zK1]?).bind (fun t => (t[i.toNatClampNeg]?).map i32) else none
  | none => none
def gSn : zRdI := fun st _ => match st with
  | .inr (.inr r) :: s => zk8 s (some (zSn r, s))
  | _ => none
def gSc : zRdI := fun st _ => match st with
  | .inl i :: .inr (.inr r) :: s => zk8 s (some (zSc r i, s))
  | _ => none
