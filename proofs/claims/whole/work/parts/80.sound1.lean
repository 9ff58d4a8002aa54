section ZR1
variable {p : Program} {l : Launch} {e : Env} {R : Room} {s : State} {m : MethodId} {args : Array Value} {below : List Frame} {meth : Method} {c : Code} {H : Heap} {locs : List Loc} {cells slots : Nat} {Q : State → Prop}
variable {cc : ByteArray} {pc : Nat} {base : Nat} {cst : Nat → Nat} {ls ls' : zLoc} {st st' : zStk} {nL : Nat}
/-- from here on, whatever array holds the locals -/
def zWW (p : Program) (l : Launch) (e : Env) (R : Room) (s : State) (m : MethodId) (args : Array Value) (below : List Frame) (meth : Method) (c : Code) (H : Heap) (locs : List Loc) (cells slots : Nat) (Q : State → Prop) (base : Nat) (cst : Nat → Nat) (nL : Nat) (pc : Nat) (ls : zLoc) (st : zStk) : Prop :=
  ∀ L : Array Slot, zLR base cst ls L nL → W p l e R s m args below meth c H locs cells slots Q (F0 m pc L (st.map (zcv base cst)))
theorem zr_iconst (hx : p.tables.exec = Jvm.exec) (hb : c.code = cc) {n : Int} (hd : decode cc pc = .ok (.iconst n, 1)) (hf : fCon n ls st = some (ls', st')) (k : zWW p l e R s m args below meth c H locs cells slots Q base cst nL (pc + 1) ls' st') : zWW p l e R s m args below meth c H locs cells slots Q base cst nL pc ls st := by
  intro L hL
  obtain ⟨rfl, rfl⟩ := Prod.mk.inj (Option.some.inj hf)
  exact lv_iconst (v := i32 n) hx hb hd rfl (k L hL)
theorem zr_bipush (hx : p.tables.exec = Jvm.exec) (hb : c.code = cc) {n : Int} (hv : (Int8.ofInt n).toInt32 = i32 n) (hd : decode cc pc = .ok (.bipush n, 2)) (hf : fCon n ls st = some (ls', st')) (k : zWW p l e R s m args below meth c H locs cells slots Q base cst nL (pc + 2) ls' st') : zWW p l e R s m args below meth c H locs cells slots Q base cst nL pc ls st := by
  intro L hL
  obtain ⟨rfl, rfl⟩ := Prod.mk.inj (Option.some.inj hf)
  exact lv_bipush (v := i32 n) hx hb hd hv (k L hL)
theorem zr_sipush (hx : p.tables.exec = Jvm.exec) (hb : c.code = cc) {n : Int} (hv : (Int16.ofInt n).toInt32 = i32 n) (hd : decode cc pc = .ok (.sipush n, 3)) (hf : fCon n ls st = some (ls', st')) (k : zWW p l e R s m args below meth c H locs cells slots Q base cst nL (pc + 3) ls' st') : zWW p l e R s m args below meth c H locs cells slots Q base cst nL pc ls st := by
  intro L hL
  obtain ⟨rfl, rfl⟩ := Prod.mk.inj (Option.some.inj hf)
  exact lv_sipush (v := i32 n) hx hb hd hv (k L hL)
theorem zr_lconst (hx : p.tables.exec = Jvm.exec) (hb : c.code = cc) {n : Fin 2} (hd : decode cc pc = .ok (.lconst n, 1)) (hf : fLon (n.val : Int) ls st = some (ls', st')) (k : zWW p l e R s m args below meth c H locs cells slots Q base cst nL (pc + 1) ls' st') : zWW p l e R s m args below meth c H locs cells slots Q base cst nL pc ls st := by
  intro L hL
  obtain ⟨rfl, rfl⟩ := Prod.mk.inj (Option.some.inj hf)
  exact lv_lconst (v := i64 (n.val : Int)) hx hb hd (by unfold i64; exact (Int64.ofInt_eq_ofNat).symm) (k L hL)
theorem zr_null (hx : p.tables.exec = Jvm.exec) (hb : c.code = cc) (hd : decode cc pc = .ok (.aconst_null, 1)) (hf : fRef none ls st = some (ls', st')) (k : zWW p l e R s m args below meth c H locs cells slots Q base cst nL (pc + 1) ls' st') : zWW p l e R s m args below meth c H locs cells slots Q base cst nL pc ls st := by
  intro L hL
  obtain ⟨rfl, rfl⟩ := Prod.mk.inj (Option.some.inj hf)
  exact lv_null hx hb hd (k L hL)
theorem zr_ldc (hx : p.tables.exec = Jvm.exec) (hb : c.code = cc) {own : String} {i : Nat} {v : Int} (hown : s.vm.findClass own = some m.cls) (hk : (Jvm.Cond.constant own i (i32 v)).before args s = true) (hd : decode cc pc = .ok (.ldc i, 2)) (hf : fCon v ls st = some (ls', st')) (k : zWW p l e R s m args below meth c H locs cells slots Q base cst nL (pc + 2) ls' st') : zWW p l e R s m args below meth c H locs cells slots Q base cst nL pc ls st := by
  intro L hL
  obtain ⟨rfl, rfl⟩ := Prod.mk.inj (Option.some.inj hf)
  exact lv_ldc (v := i32 v) hx hb hown hk hd (k L hL)
theorem zr_ldcw (hx : p.tables.exec = Jvm.exec) (hb : c.code = cc) {own : String} {i : Nat} {v : Int} (hown : s.vm.findClass own = some m.cls) (hk : (Jvm.Cond.constant own i (i32 v)).before args s = true) (hd : decode cc pc = .ok (.ldc_w i, 3)) (hf : fCon v ls st = some (ls', st')) (k : zWW p l e R s m args below meth c H locs cells slots Q base cst nL (pc + 3) ls' st') : zWW p l e R s m args below meth c H locs cells slots Q base cst nL pc ls st := by
  intro L hL
  obtain ⟨rfl, rfl⟩ := Prod.mk.inj (Option.some.inj hf)
  exact lv_ldcw (v := i32 v) hx hb hown hk hd (k L hL)
theorem zr_ldc2 (hx : p.tables.exec = Jvm.exec) (hb : c.code = cc) {own : String} {i : Nat} {v : Int} (hown : s.vm.findClass own = some m.cls) (hk : (Jvm.Cond.constantLong own i (i64 v)).before args s = true) (hd : decode cc pc = .ok (.ldc2_w i, 3)) (hf : fLon v ls st = some (ls', st')) (k : zWW p l e R s m args below meth c H locs cells slots Q base cst nL (pc + 3) ls' st') : zWW p l e R s m args below meth c H locs cells slots Q base cst nL pc ls st := by
  intro L hL
  obtain ⟨rfl, rfl⟩ := Prod.mk.inj (Option.some.inj hf)
  exact lv_ldc2 (v := i64 v) hx hb hown hk hd (k L hL)
theorem zr_ldcS (hx : p.tables.exec = Jvm.exec) (hb : c.code = cc) {own tx : String} {i a : Nat} (hown : s.vm.findClass own = some m.cls) (hk : vk_R own i tx (zrho base cst a) s) (hd : decode cc pc = .ok (.ldc i, 2)) (hf : fRef (some a) ls st = some (ls', st')) (k : zWW p l e R s m args below meth c H locs cells slots Q base cst nL (pc + 2) ls' st') : zWW p l e R s m args below meth c H locs cells slots Q base cst nL pc ls st := by
  intro L hL
  obtain ⟨rfl, rfl⟩ := Prod.mk.inj (Option.some.inj hf)
  exact va_ldcS (q := zrho base cst a) hx hb hown hk hd (k L hL)
theorem zr_iload (hx : p.tables.exec = Jvm.exec) (hb : c.code = cc) {i : Nat} (hd : decode cc pc = .ok (.iload i, 2)) (hf : fIld i ls st = some (ls', st')) (k : zWW p l e R s m args below meth c H locs cells slots Q base cst nL (pc + 2) ls' st') : zWW p l e R s m args below meth c H locs cells slots Q base cst nL pc ls st := by
  intro L hL
  unfold fIld at hf
  split at hf
  · rename_i x he
    obtain ⟨rfl, rfl⟩ := Prod.mk.inj (Option.some.inj hf)
    exact lv_iload hx hb hd (hL.2.2.2 i (.inl x) (zvd_of he (fun ⟨y, hy⟩ => by cases hy))) (k L hL)
  · cases hf
theorem zr_iload_n (hx : p.tables.exec = Jvm.exec) (hb : c.code = cc) {i : Fin 4} (hd : decode cc pc = .ok (.iload_n i, 1)) (hf : fIld i.val ls st = some (ls', st')) (k : zWW p l e R s m args below meth c H locs cells slots Q base cst nL (pc + 1) ls' st') : zWW p l e R s m args below meth c H locs cells slots Q base cst nL pc ls st := by
  intro L hL
  unfold fIld at hf
  split at hf
  · rename_i x he
    obtain ⟨rfl, rfl⟩ := Prod.mk.inj (Option.some.inj hf)
    exact lv_iload_n hx hb hd rfl (hL.2.2.2 i.val (.inl x) (zvd_of he (fun ⟨y, hy⟩ => by cases hy))) (k L hL)
  · cases hf
theorem zr_lload (hx : p.tables.exec = Jvm.exec) (hb : c.code = cc) {i : Nat} (hd : decode cc pc = .ok (.lload i, 2)) (hf : fLld i ls st = some (ls', st')) (k : zWW p l e R s m args below meth c H locs cells slots Q base cst nL (pc + 2) ls' st') : zWW p l e R s m args below meth c H locs cells slots Q base cst nL pc ls st := by
  intro L hL
  unfold fLld at hf
  split at hf
  · rename_i x he he2
    obtain ⟨rfl, rfl⟩ := Prod.mk.inj (Option.some.inj hf)
    exact lv_lload hx hb hd (hL.2.2.2 i (.inr (.inl x)) (zvd_of he (fun _ => he2))) (k L hL)
  · cases hf
theorem zr_lload_n (hx : p.tables.exec = Jvm.exec) (hb : c.code = cc) {i : Fin 4} (hd : decode cc pc = .ok (.lload_n i, 1)) (hf : fLld i.val ls st = some (ls', st')) (k : zWW p l e R s m args below meth c H locs cells slots Q base cst nL (pc + 1) ls' st') : zWW p l e R s m args below meth c H locs cells slots Q base cst nL pc ls st := by
  intro L hL
  unfold fLld at hf
  split at hf
  · rename_i x he he2
    obtain ⟨rfl, rfl⟩ := Prod.mk.inj (Option.some.inj hf)
    exact lv_lload_n hx hb hd rfl (hL.2.2.2 i.val (.inr (.inl x)) (zvd_of he (fun _ => he2))) (k L hL)
  · cases hf
theorem zr_aload (hx : p.tables.exec = Jvm.exec) (hb : c.code = cc) {i : Nat} (hd : decode cc pc = .ok (.aload i, 2)) (hf : fAld i ls st = some (ls', st')) (k : zWW p l e R s m args below meth c H locs cells slots Q base cst nL (pc + 2) ls' st') : zWW p l e R s m args below meth c H locs cells slots Q base cst nL pc ls st := by
  intro L hL
  unfold fAld at hf
  split at hf
  · rename_i x he
    obtain ⟨rfl, rfl⟩ := Prod.mk.inj (Option.some.inj hf)
    have hv := hL.2.2.2 i (.inr (.inr x)) (zvd_of he (fun ⟨y, hy⟩ => by cases hy))
    cases x with
    | none => exact lv_aloadN hx hb hd hv (k L hL)
    | some a => exact lv_aload hx hb hd hv (k L hL)
  · cases hf
theorem zr_aload_n (hx : p.tables.exec = Jvm.exec) (hb : c.code = cc) {i : Fin 4} (hd : decode cc pc = .ok (.aload_n i, 1)) (hf : fAld i.val ls st = some (ls', st')) (k : zWW p l e R s m args below meth c H locs cells slots Q base cst nL (pc + 1) ls' st') : zWW p l e R s m args below meth c H locs cells slots Q base cst nL pc ls st := by
  intro L hL
  unfold fAld at hf
  split at hf
  · rename_i x he
    obtain ⟨rfl, rfl⟩ := Prod.mk.inj (Option.some.inj hf)
    have hv := hL.2.2.2 i.val (.inr (.inr x)) (zvd_of he (fun ⟨y, hy⟩ => by cases hy))
    cases x with
    | none => exact lv_aload_nN hx hb hd rfl hv (k L hL)
    | some a => exact lv_aload_n hx hb hd rfl hv (k L hL)
  · cases hf
theorem zr_istore (hx : p.tables.exec = Jvm.exec) (hb : c.code = cc) {i : Nat} (hd : decode cc pc = .ok (.istore i, 2)) (hf : fIst i ls st = some (ls', st')) (k : zWW p l e R s m args below meth c H locs cells slots Q base cst nL (pc + 2) ls' st') : zWW p l e R s m args below meth c H locs cells slots Q base cst nL pc ls st := by
  intro L hL
  unfold fIst at hf
  split at hf
  · rename_i x r
    split at hf
    · rename_i hlt
      have hi : i < nL := by rw [← hL.1]; exact Nat.le_of_ble_eq_true hlt
      obtain ⟨rfl, rfl⟩ := Prod.mk.inj (Option.some.inj hf)
      exact lv_istore hx hb hd hL.has hi rfl (fun L' h' => k L' (hL.set1 (v := .inl x) hi (fun y hy => by cases hy) h'))
    · cases hf
  · cases hf
theorem zr_istore_n (hx : p.tables.exec = Jvm.exec) (hb : c.code = cc) {i : Fin 4} (hd : decode cc pc = .ok (.istore_n i, 1)) (hf : fIst i.val ls st = some (ls', st')) (k : zWW p l e R s m args below meth c H locs cells slots Q base cst nL (pc + 1) ls' st') : zWW p l e R s m args below meth c H locs cells slots Q base cst nL pc ls st := by
  intro L hL
  unfold fIst at hf
  split at hf
  · rename_i x r
    split at hf
    · rename_i hlt
      have hi : i.val < nL := by rw [← hL.1]; exact Nat.le_of_ble_eq_true hlt
      obtain ⟨rfl, rfl⟩ := Prod.mk.inj (Option.some.inj hf)
      exact lv_istore_n hx hb hd rfl hL.has hi rfl (fun L' h' => k L' (hL.set1 (v := .inl x) hi (fun y hy => by cases hy) h'))
    · cases hf
  · cases hf
theorem zr_lstore (hx : p.tables.exec = Jvm.exec) (hb : c.code = cc) {i : Nat} (hd : decode cc pc = .ok (.lstore i, 2)) (hf : fLst i ls st = some (ls', st')) (k : zWW p l e R s m args below meth c H locs cells slots Q base cst nL (pc + 2) ls' st') : zWW p l e R s m args below meth c H locs cells slots Q base cst nL pc ls st := by
  intro L hL
  unfold fLst at hf
  split at hf
  · rename_i x r
    split at hf
    · rename_i hlt
      have hi : i + 1 < nL := by rw [← hL.1]; exact Nat.le_of_ble_eq_true hlt
      obtain ⟨rfl, rfl⟩ := Prod.mk.inj (Option.some.inj hf)
      exact lv_lstore hx hb hd hL.has hi rfl (fun L' h' => k L' (hL.set2 hi h'))
    · cases hf
  · cases hf
theorem zr_lstore_n (hx : p.tables.exec = Jvm.exec) (hb : c.code = cc) {i : Fin 4} (hd : decode cc pc = .ok (.lstore_n i, 1)) (hf : fLst i.val ls st = some (ls', st')) (k : zWW p l e R s m args below meth c H locs cells slots Q base cst nL (pc + 1) ls' st') : zWW p l e R s m args below meth c H locs cells slots Q base cst nL pc ls st := by
  intro L hL
  unfold fLst at hf
  split at hf
  · rename_i x r
    split at hf
    · rename_i hlt
      have hi : i.val + 1 < nL := by rw [← hL.1]; exact Nat.le_of_ble_eq_true hlt
      obtain ⟨rfl, rfl⟩ := Prod.mk.inj (Option.some.inj hf)
      exact lv_lstore_n hx hb hd rfl hL.has hi rfl (fun L' h' => k L' (hL.set2 hi h'))
    · cases hf
  · cases hf
theorem zr_astore (hx : p.tables.exec = Jvm.exec) (hb : c.code = cc) {i : Nat} (hd : decode cc pc = .ok (.astore i, 2)) (hf : fAst i ls st = some (ls', st')) (k : zWW p l e R s m args below meth c H locs cells slots Q base cst nL (pc + 2) ls' st') : zWW p l e R s m args below meth c H locs cells slots Q base cst nL pc ls st := by
  intro L hL
  unfold fAst at hf
  split at hf
  · rename_i x r
    split at hf
    · rename_i hlt
      have hi : i < nL := by rw [← hL.1]; exact Nat.le_of_ble_eq_true hlt
      obtain ⟨rfl, rfl⟩ := Prod.mk.inj (Option.some.inj hf)
      cases x with
      | none => exact lv_astoreN hx hb hd hL.has hi rfl (fun L' h' => k L' (hL.set1 (v := .inr (.inr none)) hi (fun y hy => by cases hy) h'))
      | some a => exact lv_astore hx hb hd hL.has hi rfl (fun L' h' => k L' (hL.set1 (v := .inr (.inr (some a))) hi (fun y hy => by cases hy) h'))
    · cases hf
  · cases hf
theorem zr_astore_n (hx : p.tables.exec = Jvm.exec) (hb : c.code = cc) {i : Fin 4} (hd : decode cc pc = .ok (.astore_n i, 1)) (hf : fAst i.val ls st = some (ls', st')) (k : zWW p l e R s m args below meth c H locs cells slots Q base cst nL (pc + 1) ls' st') : zWW p l e R s m args below meth c H locs cells slots Q base cst nL pc ls st := by
  intro L hL
  unfold fAst at hf
  split at hf
  · rename_i x r
    split at hf
    · rename_i hlt
      have hi : i.val < nL := by rw [← hL.1]; exact Nat.le_of_ble_eq_true hlt
      obtain ⟨rfl, rfl⟩ := Prod.mk.inj (Option.some.inj hf)
      cases x with
      | none => exact lv_astore_nN hx hb hd rfl hL.has hi rfl (fun L' h' => k L' (hL.set1 (v := .inr (.inr none)) hi (fun y hy => by cases hy) h'))
      | some a => exact lv_astore_n hx hb hd rfl hL.has hi rfl (fun L' h' => k L' (hL.set1 (v := .inr (.inr (some a))) hi (fun y hy => by cases hy) h'))
    · cases hf
  · cases hf
theorem zr_iinc (hx : p.tables.exec = Jvm.exec) (hb : c.code = cc) {i : Nat} {n : Int} (hd : decode cc pc = .ok (.iinc i n, 3)) (hf : fInc i n ls st = some (ls', st')) (k : zWW p l e R s m args below meth c H locs cells slots Q base cst nL (pc + 3) ls' st') : zWW p l e R s m args below meth c H locs cells slots Q base cst nL pc ls st := by
  intro L hL
  unfold fInc at hf
  split at hf
  · rename_i x he
    split at hf
    · rename_i hlt
      have hi : i < nL := by rw [← hL.1]; exact Nat.le_of_ble_eq_true hlt
      obtain ⟨rfl, rfl⟩ := Prod.mk.inj (Option.some.inj hf)
      obtain ⟨j, hj⟩ := List.getElem?_of_mem (zlv_mem (base := base) (cst := cst) (q := (i, Value.int x)).mpr ⟨.inl x, zvd_of he (fun ⟨y, hy⟩ => by cases hy), rfl⟩)
      exact lv_iinc (v := x + i32 n) hx hb hd hL.has hj rfl hi rfl (fun L' h' => k L' (hL.set1 (v := .inl (x + i32 n)) hi (fun y hy => by cases hy) h'))
    · cases hf
  · cases hf
theorem zr_iadd (hx : p.tables.exec = Jvm.exec) (hb : c.code = cc) (hd : decode cc pc = .ok (.iadd, 1)) (hf : fII (fun x y => x + y) ls st = some (ls', st')) (k : zWW p l e R s m args below meth c H locs cells slots Q base cst nL (pc + 1) ls' st') : zWW p l e R s m args below meth c H locs cells slots Q base cst nL pc ls st := by
  intro L hL
  unfold fII at hf
  split at hf
  · obtain ⟨rfl, rfl⟩ := Prod.mk.inj (Option.some.inj hf)
    exact lv_iadd hx hb hd (k L hL)
  · cases hf
theorem zr_isub (hx : p.tables.exec = Jvm.exec) (hb : c.code = cc) (hd : decode cc pc = .ok (.isub, 1)) (hf : fII (fun x y => x - y) ls st = some (ls', st')) (k : zWW p l e R s m args below meth c H locs cells slots Q base cst nL (pc + 1) ls' st') : zWW p l e R s m args below meth c H locs cells slots Q base cst nL pc ls st := by
  intro L hL
  unfold fII at hf
  split at hf
  · obtain ⟨rfl, rfl⟩ := Prod.mk.inj (Option.some.inj hf)
    exact lv_isub hx hb hd (k L hL)
  · cases hf
theorem zr_imul (hx : p.tables.exec = Jvm.exec) (hb : c.code = cc) (hd : decode cc pc = .ok (.imul, 1)) (hf : fII (fun x y => x * y) ls st = some (ls', st')) (k : zWW p l e R s m args below meth c H locs cells slots Q base cst nL (pc + 1) ls' st') : zWW p l e R s m args below meth c H locs cells slots Q base cst nL pc ls st := by
  intro L hL
  unfold fII at hf
  split at hf
  · obtain ⟨rfl, rfl⟩ := Prod.mk.inj (Option.some.inj hf)
    exact lv_imul hx hb hd (k L hL)
  · cases hf
theorem zr_iand (hx : p.tables.exec = Jvm.exec) (hb : c.code = cc) (hd : decode cc pc = .ok (.iand, 1)) (hf : fII (fun x y => x &&& y) ls st = some (ls', st')) (k : zWW p l e R s m args below meth c H locs cells slots Q base cst nL (pc + 1) ls' st') : zWW p l e R s m args below meth c H locs cells slots Q base cst nL pc ls st := by
  intro L hL
  unfold fII at hf
  split at hf
  · obtain ⟨rfl, rfl⟩ := Prod.mk.inj (Option.some.inj hf)
    exact lv_iand hx hb hd (k L hL)
  · cases hf
theorem zr_ior (hx : p.tables.exec = Jvm.exec) (hb : c.code = cc) (hd : decode cc pc = .ok (.ior, 1)) (hf : fII (fun x y => x ||| y) ls st = some (ls', st')) (k : zWW p l e R s m args below meth c H locs cells slots Q base cst nL (pc + 1) ls' st') : zWW p l e R s m args below meth c H locs cells slots Q base cst nL pc ls st := by
  intro L hL
  unfold fII at hf
  split at hf
  · obtain ⟨rfl, rfl⟩ := Prod.mk.inj (Option.some.inj hf)
    exact lv_ior hx hb hd (k L hL)
  · cases hf
theorem zr_ixor (hx : p.tables.exec = Jvm.exec) (hb : c.code = cc) (hd : decode cc pc = .ok (.ixor, 1)) (hf : fII (fun x y => x ^^^ y) ls st = some (ls', st')) (k : zWW p l e R s m args below meth c H locs cells slots Q base cst nL (pc + 1) ls' st') : zWW p l e R s m args below meth c H locs cells slots Q base cst nL pc ls st := by
  intro L hL
  unfold fII at hf
  split at hf
  · obtain ⟨rfl, rfl⟩ := Prod.mk.inj (Option.some.inj hf)
    exact lv_ixor hx hb hd (k L hL)
  · cases hf
theorem zr_ishl (hx : p.tables.exec = Jvm.exec) (hb : c.code = cc) (hd : decode cc pc = .ok (.ishl, 1)) (hf : fII zshl ls st = some (ls', st')) (k : zWW p l e R s m args below meth c H locs cells slots Q base cst nL (pc + 1) ls' st') : zWW p l e R s m args below meth c H locs cells slots Q base cst nL pc ls st := by
  intro L hL
  unfold fII at hf
  split at hf
  · obtain ⟨rfl, rfl⟩ := Prod.mk.inj (Option.some.inj hf)
    exact lv_ishl hx hb hd (k L hL)
  · cases hf
theorem zr_ishr (hx : p.tables.exec = Jvm.exec) (hb : c.code = cc) (hd : decode cc pc = .ok (.ishr, 1)) (hf : fII zshr ls st = some (ls', st')) (k : zWW p l e R s m args below meth c H locs cells slots Q base cst nL (pc + 1) ls' st') : zWW p l e R s m args below meth c H locs cells slots Q base cst nL pc ls st := by
  intro L hL
  unfold fII at hf
  split at hf
  · obtain ⟨rfl, rfl⟩ := Prod.mk.inj (Option.some.inj hf)
    exact lv_ishr hx hb hd (k L hL)
  · cases hf
theorem zr_iushr (hx : p.tables.exec = Jvm.exec) (hb : c.code = cc) (hd : decode cc pc = .ok (.iushr, 1)) (hf : fII zushr ls st = some (ls', st')) (k : zWW p l e R s m args below meth c H locs cells slots Q base cst nL (pc + 1) ls' st') : zWW p l e R s m args below meth c H locs cells slots Q base cst nL pc ls st := by
  intro L hL
  unfold fII at hf
  split at hf
  · obtain ⟨rfl, rfl⟩ := Prod.mk.inj (Option.some.inj hf)
    exact lv_iushr hx hb hd rfl (k L hL)
  · cases hf
theorem zr_ineg (hx : p.tables.exec = Jvm.exec) (hb : c.code = cc) (hd : decode cc pc = .ok (.ineg, 1)) (hf : fI1 (fun x => -x) ls st = some (ls', st')) (k : zWW p l e R s m args below meth c H locs cells slots Q base cst nL (pc + 1) ls' st') : zWW p l e R s m args below meth c H locs cells slots Q base cst nL pc ls st := by
  intro L hL
  unfold fI1 at hf
  split at hf
  · obtain ⟨rfl, rfl⟩ := Prod.mk.inj (Option.some.inj hf)
    exact lv_ineg hx hb hd (k L hL)
  · cases hf
theorem zr_i2b (hx : p.tables.exec = Jvm.exec) (hb : c.code = cc) (hd : decode cc pc = .ok (.i2b, 1)) (hf : fI1 zi2b ls st = some (ls', st')) (k : zWW p l e R s m args below meth c H locs cells slots Q base cst nL (pc + 1) ls' st') : zWW p l e R s m args below meth c H locs cells slots Q base cst nL pc ls st := by
  intro L hL
  unfold fI1 at hf
  split at hf
  · obtain ⟨rfl, rfl⟩ := Prod.mk.inj (Option.some.inj hf)
    exact lv_i2b hx hb hd rfl (k L hL)
  · cases hf
theorem zr_i2l (hx : p.tables.exec = Jvm.exec) (hb : c.code = cc) (hd : decode cc pc = .ok (.i2l, 1)) (hf : fIL ls st = some (ls', st')) (k : zWW p l e R s m args below meth c H locs cells slots Q base cst nL (pc + 1) ls' st') : zWW p l e R s m args below meth c H locs cells slots Q base cst nL pc ls st := by
  intro L hL
  unfold fIL at hf
  split at hf
  · obtain ⟨rfl, rfl⟩ := Prod.mk.inj (Option.some.inj hf)
    exact lv_i2l hx hb hd rfl (k L hL)
  · cases hf
theorem zr_ladd (hx : p.tables.exec = Jvm.exec) (hb : c.code = cc) (hd : decode cc pc = .ok (.ladd, 1)) (hf : fLL (fun x y => x + y) ls st = some (ls', st')) (k : zWW p l e R s m args below meth c H locs cells slots Q base cst nL (pc + 1) ls' st') : zWW p l e R s m args below meth c H locs cells slots Q base cst nL pc ls st := by
  intro L hL
  unfold fLL at hf
  split at hf
  · obtain ⟨rfl, rfl⟩ := Prod.mk.inj (Option.some.inj hf)
    exact lv_ladd hx hb hd (k L hL)
  · cases hf
theorem zr_lsub (hx : p.tables.exec = Jvm.exec) (hb : c.code = cc) (hd : decode cc pc = .ok (.lsub, 1)) (hf : fLL (fun x y => x - y) ls st = some (ls', st')) (k : zWW p l e R s m args below meth c H locs cells slots Q base cst nL (pc + 1) ls' st') : zWW p l e R s m args below meth c H locs cells slots Q base cst nL pc ls st := by
  intro L hL
  unfold fLL at hf
  split at hf
  · obtain ⟨rfl, rfl⟩ := Prod.mk.inj (Option.some.inj hf)
    exact lv_lsub hx hb hd (k L hL)
  · cases hf
theorem zr_lmul (hx : p.tables.exec = Jvm.exec) (hb : c.code = cc) (hd : decode cc pc = .ok (.lmul, 1)) (hf : fLL (fun x y => x * y) ls st = some (ls', st')) (k : zWW p l e R s m args below meth c H locs cells slots Q base cst nL (pc + 1) ls' st') : zWW p l e R s m args below meth c H locs cells slots Q base cst nL pc ls st := by
  intro L hL
  unfold fLL at hf
  split at hf
  · obtain ⟨rfl, rfl⟩ := Prod.mk.inj (Option.some.inj hf)
    exact lv_lmul hx hb hd (k L hL)
  · cases hf
theorem zr_lcmp (hx : p.tables.exec = Jvm.exec) (hb : c.code = cc) (hd : decode cc pc = .ok (.lcmp, 1)) (hf : fLc ls st = some (ls', st')) (k : zWW p l e R s m args below meth c H locs cells slots Q base cst nL (pc + 1) ls' st') : zWW p l e R s m args below meth c H locs cells slots Q base cst nL pc ls st := by
  intro L hL
  unfold fLc at hf
  split at hf
  · obtain ⟨rfl, rfl⟩ := Prod.mk.inj (Option.some.inj hf)
    exact W.lcmp hx hb hd (k L hL)
  · cases hf
theorem zr_dup (hx : p.tables.exec = Jvm.exec) (hb : c.code = cc) (hd : decode cc pc = .ok (.dup, 1)) (hf : fDup ls st = some (ls', st')) (k : zWW p l e R s m args below meth c H locs cells slots Q base cst nL (pc + 1) ls' st') : zWW p l e R s m args below meth c H locs cells slots Q base cst nL pc ls st := by
  intro L hL
  unfold fDup at hf
  split at hf
  · obtain ⟨rfl, rfl⟩ := Prod.mk.inj (Option.some.inj hf)
    exact lv_dup hx hb hd rfl (k L hL)
  · rename_i x r
    obtain ⟨rfl, rfl⟩ := Prod.mk.inj (Option.some.inj hf)
    cases x with
    | none => exact lv_dup hx hb hd rfl (k L hL)
    | some a => exact lv_dup hx hb hd rfl (k L hL)
  · cases hf
theorem zr_pop (hx : p.tables.exec = Jvm.exec) (hb : c.code = cc) (hd : decode cc pc = .ok (.pop, 1)) (hf : fPop ls st = some (ls', st')) (k : zWW p l e R s m args below meth c H locs cells slots Q base cst nL (pc + 1) ls' st') : zWW p l e R s m args below meth c H locs cells slots Q base cst nL pc ls st := by
  intro L hL
  unfold fPop at hf
  split at hf
  · obtain ⟨rfl, rfl⟩ := Prod.mk.inj (Option.some.inj hf)
    exact lv_pop hx hb hd rfl (k L hL)
  · rename_i x r
    obtain ⟨rfl, rfl⟩ := Prod.mk.inj (Option.some.inj hf)
    cases x with
    | none => exact lv_pop hx hb hd rfl (k L hL)
    | some a => exact lv_pop hx hb hd rfl (k L hL)
  · cases hf
theorem zr_dup2 (hx : p.tables.exec = Jvm.exec) (hb : c.code = cc) (hd : decode cc pc = .ok (.dup2, 1)) (hf : fDup2 ls st = some (ls', st')) (k : zWW p l e R s m args below meth c H locs cells slots Q base cst nL (pc + 1) ls' st') : zWW p l e R s m args below meth c H locs cells slots Q base cst nL pc ls st := by
  intro L hL
  unfold fDup2 at hf
  split at hf
  · rename_i x y r
    obtain ⟨rfl, rfl⟩ := Prod.mk.inj (Option.some.inj hf)
    cases y with
    | none => exact lv_dup2_11 hx hb hd rfl rfl (k L hL)
    | some a => exact lv_dup2_11 hx hb hd rfl rfl (k L hL)
  · cases hf
end ZR1
