/-! branches, made cells, ends -/
section ZR5
variable {p : Program} {l : Launch} {e : Env} {R : Room} {s : State} {m : MethodId} {args : Array Value} {below : List Frame} {meth : Method} {c : Code} {H : Heap} {locs : List Loc} {cells slots : Nat} {Q : State → Prop}
variable {cc : ByteArray} {pc : Nat} {base : Nat} {cst : Nat → Nat} {ls ls' : zLoc} {st st' : zStk} {nL : Nat} {D : va_G} {tys : List (ClassId × FieldType)} {KA : Nat → Option (Nat × (Nat → Int32))} {h h' : zHeap} {own : String} {idx k : Nat}
theorem zr_icmp (hx : p.tables.exec = Jvm.exec) (hb : c.code = cc) {cd : ClassFile.Cond} {off : Int} {tgt : Nat} (hd : decode cc pc = .ok (.if_icmp cd off, 3)) (ht : (pc : Int) + off = (tgt : Int)) {b : Bool} (hf : c2 (zcI cd) st = some (b, st')) (kt : b = true → zWW p l e R s m args below meth c H locs cells slots Q base cst nL tgt ls st') (kf : b = false → zWW p l e R s m args below meth c H locs cells slots Q base cst nL (pc + 3) ls st') : zWW p l e R s m args below meth c H locs cells slots Q base cst nL pc ls st := by
  intro L hL
  unfold c2 at hf
  split at hf
  · obtain ⟨h1, rfl⟩ := Prod.mk.inj (Option.some.inj hf)
    cases cd with
    | eq => exact lv_icmp_eq hx hb hd ht (fun q => kt (by rw [← h1]; simpa [zcI] using q) L hL) (fun q => kf (by rw [← h1]; simpa [zcI] using q) L hL)
    | ne => exact lv_icmp_ne hx hb hd ht (fun q => kt (by rw [← h1]; simpa [zcI] using q) L hL) (fun q => kf (by rw [← h1]; simpa [zcI] using q) L hL)
    | lt => exact lv_icmp_lt hx hb hd ht (fun q => kt (by rw [← h1]; simpa [zcI] using q) L hL) (fun q => kf (by rw [← h1]; simpa [zcI] using q) L hL)
    | ge => exact lv_icmp_ge hx hb hd ht (fun q => kt (by rw [← h1]; simpa [zcI] using q) L hL) (fun q => kf (by rw [← h1]; simpa [zcI] using q) L hL)
    | gt => exact lv_icmp_gt hx hb hd ht (fun q => kt (by rw [← h1]; simpa [zcI] using q) L hL) (fun q => kf (by rw [← h1]; simpa [zcI] using q) L hL)
    | le => exact lv_icmp_le hx hb hd ht (fun q => kt (by rw [← h1]; simpa [zcI] using q) L hL) (fun q => kf (by rw [← h1]; simpa [zcI] using q) L hL)
  · cases hf
theorem zr_ifc (hx : p.tables.exec = Jvm.exec) (hb : c.code = cc) {cd : ClassFile.Cond} {off : Int} {tgt : Nat} (hd : decode cc pc = .ok (.ifCond cd off, 3)) (ht : (pc : Int) + off = (tgt : Int)) {b : Bool} (hf : c1 (zc0 cd) st = some (b, st')) (kt : b = true → zWW p l e R s m args below meth c H locs cells slots Q base cst nL tgt ls st') (kf : b = false → zWW p l e R s m args below meth c H locs cells slots Q base cst nL (pc + 3) ls st') : zWW p l e R s m args below meth c H locs cells slots Q base cst nL pc ls st := by
  intro L hL
  unfold c1 at hf
  split at hf
  · obtain ⟨h1, rfl⟩ := Prod.mk.inj (Option.some.inj hf)
    cases cd with
    | eq => exact lv_if_eq hx hb hd ht (fun q => kt (by rw [← h1]; simpa [zc0] using q) L hL) (fun q => kf (by rw [← h1]; simpa [zc0] using q) L hL)
    | ne => exact lv_if_ne hx hb hd ht (fun q => kt (by rw [← h1]; simpa [zc0] using q) L hL) (fun q => kf (by rw [← h1]; simpa [zc0] using q) L hL)
    | lt => exact lv_if_lt hx hb hd ht (fun q => kt (by rw [← h1]; simpa [zc0] using q) L hL) (fun q => kf (by rw [← h1]; simpa [zc0] using q) L hL)
    | ge => exact lv_if_ge hx hb hd ht (fun q => kt (by rw [← h1]; simpa [zc0] using q) L hL) (fun q => kf (by rw [← h1]; simpa [zc0] using q) L hL)
    | gt => exact lv_if_gt hx hb hd ht (fun q => kt (by rw [← h1]; simpa [zc0] using q) L hL) (fun q => kf (by rw [← h1]; simpa [zc0] using q) L hL)
    | le => exact lv_if_le hx hb hd ht (fun q => kt (by rw [← h1]; simpa [zc0] using q) L hL) (fun q => kf (by rw [← h1]; simpa [zc0] using q) L hL)
  · cases hf
theorem zr_ifnull (hx : p.tables.exec = Jvm.exec) (hb : c.code = cc) {off : Int} {tgt : Nat} (hd : decode cc pc = .ok (.ifnull off, 3)) (ht : (pc : Int) + off = (tgt : Int)) {b : Bool} (hf : cN (fun r => r.isNone) st = some (b, st')) (kt : b = true → zWW p l e R s m args below meth c H locs cells slots Q base cst nL tgt ls st') (kf : b = false → zWW p l e R s m args below meth c H locs cells slots Q base cst nL (pc + 3) ls st') : zWW p l e R s m args below meth c H locs cells slots Q base cst nL pc ls st := by
  intro L hL
  unfold cN at hf
  split at hf
  · rename_i x r
    obtain ⟨h1, rfl⟩ := Prod.mk.inj (Option.some.inj hf)
    cases x with
    | none => exact lv_ifnullN hx hb hd ht (kt h1.symm L hL)
    | some a => exact lv_ifnull hx hb hd (kf h1.symm L hL)
  · cases hf
theorem zr_ifnonnull (hx : p.tables.exec = Jvm.exec) (hb : c.code = cc) {off : Int} {tgt : Nat} (hd : decode cc pc = .ok (.ifnonnull off, 3)) (ht : (pc : Int) + off = (tgt : Int)) {b : Bool} (hf : cN (fun r => r.isSome) st = some (b, st')) (kt : b = true → zWW p l e R s m args below meth c H locs cells slots Q base cst nL tgt ls st') (kf : b = false → zWW p l e R s m args below meth c H locs cells slots Q base cst nL (pc + 3) ls st') : zWW p l e R s m args below meth c H locs cells slots Q base cst nL pc ls st := by
  intro L hL
  unfold cN at hf
  split at hf
  · rename_i x r
    obtain ⟨h1, rfl⟩ := Prod.mk.inj (Option.some.inj hf)
    cases x with
    | none => exact lv_ifnonnullN hx hb hd (kf h1.symm L hL)
    | some a => exact lv_ifnonnull hx hb hd ht (kt h1.symm L hL)
  · cases hf
theorem zr_goto (hx : p.tables.exec = Jvm.exec) (hb : c.code = cc) {off : Int} {tgt : Nat} (hd : decode cc pc = .ok (.goto off, 3)) (ht : (pc : Int) + off = (tgt : Int)) (k : zWW p l e R s m args below meth c H locs cells slots Q base cst nL tgt ls st) : zWW p l e R s m args below meth c H locs cells slots Q base cst nL pc ls st := fun L hL => lv_goto hx hb hd ht (k L hL)
theorem zr_idiv (hx : p.tables.exec = Jvm.exec) (hb : c.code = cc) (hd : decode cc pc = .ok (.idiv, 1)) {x : Int32} (hf : gDiv (fun x y => x / y) st h = some (some x, st')) (k : zWW p l e R s m args below meth c H locs cells slots Q base cst nL (pc + 1) ls (.inl x :: st')) : zWW p l e R s m args below meth c H locs cells slots Q base cst nL pc ls st := by
  intro L hL
  unfold gDiv at hf
  split at hf
  · rename_i y x0 r
    obtain ⟨h1, rfl⟩ := Prod.mk.inj (Option.some.inj hf)
    by_cases hy : y = 0
    · rw [if_pos hy] at h1; cases h1
    · rw [if_neg hy] at h1
      obtain rfl := Option.some.inj h1
      exact lv_idiv hx hb hd hy (k L hL)
  · cases hf
theorem zr_irem (hx : p.tables.exec = Jvm.exec) (hb : c.code = cc) (hd : decode cc pc = .ok (.irem, 1)) {x : Int32} (hf : gDiv (zrem) st h = some (some x, st')) (k : zWW p l e R s m args below meth c H locs cells slots Q base cst nL (pc + 1) ls (.inl x :: st')) : zWW p l e R s m args below meth c H locs cells slots Q base cst nL pc ls st := by
  intro L hL
  unfold gDiv at hf
  split at hf
  · rename_i y x0 r
    obtain ⟨h1, rfl⟩ := Prod.mk.inj (Option.some.inj hf)
    by_cases hy : y = 0
    · rw [if_pos hy] at h1; cases h1
    · rw [if_neg hy] at h1
      obtain rfl := Option.some.inj h1
      exact lv_irem hx hb hd hy (k L hL)
  · cases hf
theorem zr_ldiv (hx : p.tables.exec = Jvm.exec) (hb : c.code = cc) (hd : decode cc pc = .ok (.ldiv, 1)) {x y : Int64} (hy : ¬ y = 0) (k : zWW p l e R s m args below meth c H locs cells slots Q base cst nL (pc + 1) ls (.inr (.inl (x / y)) :: st')) : zWW p l e R s m args below meth c H locs cells slots Q base cst nL pc ls (.inr (.inl y) :: .inr (.inl x) :: st') := fun L hL => lv_ldiv hx hb hd hy (k L hL)
theorem zr_lrem (hx : p.tables.exec = Jvm.exec) (hb : c.code = cc) (hd : decode cc pc = .ok (.lrem, 1)) {x y : Int64} (hy : ¬ y = 0) (k : zWW p l e R s m args below meth c H locs cells slots Q base cst nL (pc + 1) ls (.inr (.inl (zremL x y)) :: st')) : zWW p l e R s m args below meth c H locs cells slots Q base cst nL pc ls (.inr (.inl y) :: .inr (.inl x) :: st') := fun L hL => lv_lrem hx hb hd hy (k L hL)
theorem ztoInt {x : Int32} {v : Int} (h1 : -2147483648 ≤ v) (h2 : v < 2147483648) : x = i32 v ↔ x.toInt = v := by
  unfold i32
  constructor
  · rintro rfl
    exact Int32.toInt_ofInt_of_le h1 h2
  · intro h
    rw [← h]
    exact (Int32.ofInt_toInt x).symm
/-- where a switch goes -/
def zswt (x : Int32) (ts : List (Int × Nat)) (d : Nat) : Nat := match ts with
  | [] => d
  | q :: r => if x = i32 q.1 then q.2 else zswt x r d
theorem zsw_t {x : Int32} {k : Nat → Option zRes} {d : Nat} : ∀ ts : List (Int × Nat), zsw x ts k d = k (zswt x ts d)
  | [] => rfl
  | q :: r => by
    unfold zsw zswt
    by_cases hx : x = i32 q.1
    · rw [if_pos hx]; simp [hx, zif]
    · rw [if_neg hx]; simp only [hx, decide_false]; exact zsw_t r
end ZR5
