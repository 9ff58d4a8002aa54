/-! the constants: the script and three rows -/
def zTb0 : List Int := [2, 1, 2, 1, 1, 3, 5, 1, 1, 1, 0, 3, 2]
def zTb1 : List Int := [0, 1, 1, 0, 0, 0, 0, 0, 0, 0, 0, 0, 0]
def zTb2 : List Int := [9, 7, 0, 0, 0, 9, 0, 0, 0, 0, 15, 3, 0, 0, 0, 9, 0, 0, 0, 0, 7, 0, 0, 0, 0, 5, 3, 7, 0, 0, 5, 5, 3, 3, 7, 5, 0, 0, 0, 0, 5, 0, 0, 0, 0, 9, 0, 0, 0, 0, 0, 0, 0, 0, 0, 3, 7, 7, 0, 0, 3, 7, 0, 0, 0]
def zKA (L : Nat) (xs : Nat → Int32) (a : Nat) : Option (Nat × (Nat → Int32)) := if a = 1000001 then some (L, xs) else if a = 1000002 then some (13, fun j => i32 (zTb0.getD j 0)) else if a = 1000003 then some (13, fun j => i32 (zTb1.getD j 0)) else if a = 1000004 then some (65, fun j => i32 (zTb2.getD j 0)) else none
/-- the heap at the start: nothing is made yet -/
def zh0 (L : Nat) (xs : Nat → Int32) : zHeap := (fun _ _ => none, fun _ _ => none, fun a => (zKA L xs a).map (fun q => (0, q.1, q.2)), fun _ => none, fun _ => none, 0, 0)
