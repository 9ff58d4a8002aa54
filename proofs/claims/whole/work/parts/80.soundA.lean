/-! THE MACHINE FOLLOWS THE ABSTRACT ONE -/
abbrev zMq : Type := Nat × Nat × Bool × List zIns
def zrv (base : Nat) (cst : Nat → Nat) (ret : Option FieldType) (r : zVal) : Option Value := match ret with
  | none => none
  | some _ => some (zcv base cst r)
/-- what the Statement gives of constants, and what of its words does not stay by itself -/
def zKF (base : Nat) (cst adV : Nat → Nat) (KA : Nat → Option (Nat × (Nat → Int32))) (U : State) : Prop :=
  zKAok base cst KA U ∧ (∀ q ∈ zNests, va_Nw (.methodLinkNest q.1 q.2.1 q.2.2.1 q.2.2.2) U) ∧ (∀ C ∈ zAOs, va_AO C U) ∧ (∀ i q, zStrs[i]? = some q → vk_R "ReedOracles$Reader" q.1 q.2 (cst (zK1 + i)) U) ∧
  (∀ i nm, zStats[i]? = some nm → va_Z "ReedOracles$Reader" nm "[I" (.ref (cst (1000002 + i))) (zA base) U U.heap) ∧ vk_S 15 (zTx.map List.length) (zTx.map (fun t => t.map i32)) (fun i => cst (zK1 + i)) adV (zA base) U U.heap ∧
  va_Z "java/lang/String" "COMPACT_STRINGS" "Z" (.int 1) (zA base) U U.heap ∧ va_Zq "jdk/internal/util/Preconditions" "SIOOBE_FORMATTER" "Ljava/util/function/BiFunction;" (zA base) U U.heap
theorem zKF.moved {base : Nat} {cst adV : Nat → Nat} {KA : Nat → Option (Nat × (Nat → Int32))} {s U : State} (hW : s.WarmedH U.vm) (hq : ∀ a : Nat, a < s.heap.size → ¬ zA base a → U.heap[a]? = s.heap[a]?) (h : zKF base cst adV KA s) : zKF base cst adV KA U := by
  obtain ⟨h1, h2, h3, h4, h5, h6, h7, h8⟩ := h
  exact ⟨fun a n f hf => va_T.moved hW.alike ((h1 a n f hf).kept hq), fun q hq' => va_Nw.warmM hW (h2 q hq'), fun C hC => va_AO.moved hW.alike (h3 C hC), fun i q hi => (h4 i q hi).warm hW, fun i nm hi => va_Z.moved hW.alike ((h5 i nm hi).kept hq), vk_S.moved hW.alike (h6.kept hq), va_Z.moved hW.alike (h7.kept hq), va_Zq.moved hW.alike (h8.kept hq)⟩
def zWd (base : Nat) (cst adV : Nat → Nat) (D : va_G) (tys : List (ClassId × FieldType)) (KA : Nat → Option (Nat × (Nat → Int32))) (h : zHeap) (U : State) : Prop :=
  (∃ ws : va_W, va_P D vwCl ws U.heap ∧ va_D (zA base) ws ∧ zAb base cst tys KA h ws) ∧ U.heap.size = base + hN h ∧ va_K D vwCl tys U ∧ zKF base cst adV KA U
def zQ (base : Nat) (cst adV : Nat → Nat) (D : va_G) (tys : List (ClassId × FieldType)) (KA : Nat → Option (Nat × (Nat → Int32))) (ret : Option FieldType) (r : zVal) (hf : zHeap) : Array Value → State → Outcome → State → Prop := fun _ st oc t => oc = .returned (zrv base cst ret r) ∧ zWd base cst adV D tys KA hf t ∧ va_F (zA base) st t
/-- how a call's target stands in the tables -/
def zCok (own : String) (idx : Nat) (m : Nat) (mt : zMt) (n r c : Nat) : Prop :=
  Cond.code mt.1 mt.2.1 (zNL m) mt.2.2.1 ∈ zT ∧ Cond.initialized mt.1.cls ∈ zT ∧ (mt.1.cls ≠ "java/lang/invoke/MethodHandle" ∧ mt.1.cls ≠ "java/lang/invoke/VarHandle") ∧
  (r = 0 → mt.2.2.1 = none) ∧ (r ≠ 0 → mt.2.2.1.isSome = true) ∧
  match c with
  | 0 => Cond.static mt.1 ∈ zT ∧ (parseMethodDescriptor mt.1.desc).map (fun d => d.parameters.length) = some n ∧ (Cond.methodLink own idx mt.1 ∈ zT ∨ ∃ host, (own, idx, mt.1, host) ∈ zNests)
  | C + 1 => if mt.1.name = "<init>" then Cond.methodLink own idx mt.1 ∈ zT ∧ Cond.instanceMethod mt.1 ∈ zT ∧ (parseMethodDescriptor mt.1.desc).map (fun d => d.parameters.length) = some (n - 1) ∧ 1 ≤ n ∧ mt.2.2.1 = none
      else ∃ T N, vwCl[C]? = some (mt.1.cls, T, N) ∧ Cond.methodLink own idx mt.1 ∈ zT ∧ Cond.instanceMethod mt.1 ∈ zT ∧ Cond.selects mt.1.cls mt.1 mt.1 ∈ zT ∧ (parseMethodDescriptor mt.1.desc).map (fun d => d.parameters.length) = some (n - 1) ∧ 1 ≤ n
def zEok (own : String) (idx : Nat) (e : zPE) : Prop := match e with
  | (0, k, _) => zFok own idx k
  | (1, k, _) => zFok own idx k
  | (2, k, _) => zFok own idx k
  | (3, m, n, r, c, v) => ∃ mt, zMetas[m]? = some mt ∧ v.toNat = zNL m ∧ zCok own idx m mt n r c
  | (4, C, _) => zNok own idx C
  | (5, _, _, _, _, v) => Cond.constant own idx (i32 v) ∈ zT
  | (6, _, _, _, _, v) => Cond.constantLong own idx (i64 v) ∈ zT
  | (7, a, _) => own = "ReedOracles$Reader" ∧ ∃ i q, a = zK1 + i ∧ zStrs[i]? = some q ∧ q.1 = idx
  | (8, a, _) => ∃ i nm, a = 1000002 + i ∧ zStats[i]? = some nm ∧ Cond.fieldLink own idx "ReedOracles$Reader" nm "[I" ∈ zT
  | (9, _) => Cond.methodLink own idx objectInit ∈ zT ∧ Cond.instanceMethod objectInit ∈ zT ∧ Cond.code objectInit ⟨#[0xb1]⟩ 1 none ∈ zT
  | (10, _) => Cond.methodLink own idx arraycopyName ∈ zT ∧ Cond.native arraycopyName ∈ zT ∧ Cond.static arraycopyName ∈ zT ∧ Cond.initialized "java/lang/System" ∈ zT
  | (11, _) => Cond.methodLink own idx Lib.Math.max.name ∈ zT ∧ Cond.static Lib.Math.max.name ∈ zT ∧ Cond.initialized "java/lang/Math" ∈ zT ∧ Cond.code Lib.Math.max.name Lib.Math.max.code 2 (some .int) ∈ zT
  | (12, _) => Cond.methodLink own idx Lib.Math.min.name ∈ zT ∧ Cond.static Lib.Math.min.name ∈ zT ∧ Cond.initialized "java/lang/Math" ∈ zT ∧ Cond.code Lib.Math.min.name Lib.Math.min.code 2 (some .int) ∈ zT
  | (13, _) => Cond.methodLink own idx ⟨"java/lang/String", "length", "()I"⟩ ∈ zT
  | (14, _) => Cond.methodLink own idx ⟨"java/lang/String", "charAt", "(I)C"⟩ ∈ zT
  | _ => True
/-- what an instruction's own numbers must be -/
def zck1 (ins : Instr) : Prop := match ins with
  | .bipush n => (Int8.ofInt n).toInt32 = i32 n
  | .sipush n => (Int16.ofInt n).toInt32 = i32 n
  | .tableswitch _ lo hi offs => (offs.size : Int) = hi - lo + 1 ∧ -2147483648 ≤ lo ∧ hi < 2147483648
  | .lookupswitch _ ps => (ps.toList.zip (ps.toList.drop 1)).all (fun (a, next) => a.1 < next.1) = true ∧ ∀ q ∈ ps.toList, -2147483648 ≤ q.1 ∧ q.1 < 2147483648
  | _ => True
def zlen1 (ins : Instr) : Option Nat := match ins with
  | .bipush _ | .ldc _ | .iload _ | .aload _ | .lload _ | .istore _ | .astore _ | .lstore _ | .newarray _ => some 2
  | .sipush _ | .ldc_w _ | .ldc2_w _ | .iinc _ _ | .getfield _ | .putfield _ | .getstatic _ | .new _ | .anewarray _ | .if_icmp _ _ | .ifCond _ _ | .ifnull _ | .ifnonnull _ | .goto _ | .invokestatic _ | .invokevirtual _ | .invokespecial _ => some 3
  | .tableswitch .. | .lookupswitch .. => none
  | _ => some 1
def zoff (ins : Instr) : Option Int := match ins with
  | .if_icmp _ off => some off
  | .ifCond _ off => some off
  | .ifnull off => some off
  | .ifnonnull off => some off
  | _ => none
/-- what it asks of its method -/
def zck2 (pl : List (Nat × zPE)) (own : String) (mt : zMt) (rz : Bool) (ins : Instr) : Prop := match ins with
  | .putfield idx => ∀ kd k x, zlk pl idx = some (kd, k, x) → zPok own idx k kd mt.1.name
  | .invokestatic idx => ∀ e, zlk pl idx = some e → (∀ m n r c v, e = (3, m, n, r, c, v) → c = 0 ∧ ∀ t, zMetas[m]? = some t → t.2.2.2.1 + 1 ≤ mt.2.2.2.1 ∧ 8 + (zNL m + 11) + t.2.2.2.2 ≤ mt.2.2.2.2) ∧ e.1 ≠ 9 ∧ e.1 ≠ 13 ∧ e.1 ≠ 14
  | .invokevirtual idx => ∀ e, zlk pl idx = some e → (∀ m n r c v, e = (3, m, n, r, c, v) → c ≠ 0 ∧ ∀ t, zMetas[m]? = some t → t.1.name ≠ "<init>" ∧ t.2.2.2.1 + 1 ≤ mt.2.2.2.1 ∧ 8 + (zNL m + 11) + t.2.2.2.2 ≤ mt.2.2.2.2) ∧ (e.1 = 3 ∨ ((e.1 = 13 ∨ e.1 = 14) ∧ 6 ≤ mt.2.2.2.1 ∧ 200 ≤ mt.2.2.2.2))
  | .invokespecial idx => ∀ e, zlk pl idx = some e → (∀ m n r c v, e = (3, m, n, r, c, v) → c ≠ 0 ∧ r = 0 ∧ ∀ t, zMetas[m]? = some t → t.1.name = "<init>" ∧ t.2.2.2.1 + 1 ≤ mt.2.2.2.1 ∧ 8 + (zNL m + 11) + t.2.2.2.2 ≤ mt.2.2.2.2) ∧ (e.1 = 3 ∨ e.1 = 9)
  | .anewarray idx => ∀ C x, zlk pl idx = some (4, C, x) → C ∈ [2, 3, 9, 10] ∧ ∀ r, vwCl[C]? = some r → r.1 ∈ zAOs
  | .ireturn => if rz = true then mt.2.2.1 = some .boolean else mt.2.2.1 = some .int
  | .lreturn => mt.2.2.1 = some .long
  | .areturn => ∃ rt, mt.2.2.1 = some rt ∧ ((∃ n, rt = .object n) ∨ ∃ t, rt = .array t)
  | .return_ => mt.2.2.1 = none
  | _ => True
def zGd (M : Nat) (q : zMq) (mt : zMt) : Prop :=
  (∀ i pc ins len, q.2.2.2[i]? = some (pc, ins, len) → decode mt.2.1 pc = .ok (ins, len) ∧ zck1 ins ∧ (∀ n, zlen1 ins = some n → len = n) ∧ (∀ pc' ins' len', q.2.2.2[i + 1]? = some (pc', ins', len') → pc' = pc + len) ∧ (∀ off, zoff ins = some off → 0 ≤ (pc : Int) + off) ∧ zck2 ((zPls[q.1]?).getD []) mt.1.cls mt q.2.2.1 ins) ∧
  (∀ pc ins len, q.2.2.2[0]? = some (pc, ins, len) → pc = 0) ∧ (∀ idx e, zlk ((zPls[q.1]?).getD []) idx = some e → zEok mt.1.cls idx e) ∧ (1 ≤ mt.2.2.2.1 ∧ 45 ≤ mt.2.2.2.2) ∧ Cond.arrayClass .int ∈ zT ∧ Cond.arrayClass .byte ∈ zT ∧ Cond.arrayClass .boolean ∈ zT
def zCx (base : Nat) (cst adV : Nat → Nat) (D : va_G) (tys : List (ClassId × FieldType)) (KA : Nat → Option (Nat × (Nat → Int32))) (p : Program) (R : Room) (s : State) (m : MethodId) (args : Array Value) (meth : Method) (c : Code) (q : zMq) (mt : zMt) : Prop :=
  p.tables.exec = Jvm.exec ∧ c.code = mt.2.1 ∧ c.maxLocals = q.2.1 ∧ s.vm.findClass mt.1.cls = some m.cls ∧ (∀ w ∈ zT, w.before args s = true) ∧ meth.locks = false ∧ meth.sig.returnType = mt.2.2.1 ∧ (mt.1.name = "law" ∨ meth.name = mt.1.name) ∧ va_K D vwCl tys s ∧ zKF base cst adV KA s ∧ base ≤ s.heap.size ∧ R.frames = mt.2.2.2.1 ∧ R.locals = mt.2.2.2.2
theorem zPok_name {own : String} {idx k kd : Nat} {n mn : String} (h : n = "law" ∨ mn = n) (hp : zPok own idx k kd n) : zPok own idx k kd mn := by
  obtain ⟨C, T, N, ty0, ty, q1, q2, q3, q4, q5, q6, q7, q8, q9, q10, q11⟩ := hp
  refine ⟨C, T, N, ty0, ty, q1, q2, q3, q4, q5, q6, q7, q8, q9, q10, fun hf => ?_⟩
  obtain ⟨g1, g2⟩ := q11 hf
  rcases h with h | h
  · rw [h] at g1; exact absurd g1 (by decide)
  · exact ⟨h.trans g1, g2⟩
/-! what a run's step has done -/
theorem sP_some {f : zPur} {nx : zNxt} {go : Nat → zNxt} {cl : zCal} {ls : zLoc} {st : zStk} {h : zHeap} {r : zRes} (hr : sP f nx go cl ls st h = some r) : ∃ ls' st', f ls st = some (ls', st') ∧ nx ls' st' h = some r := by
  unfold sP at hr
  split at hr
  · rename_i q hq
    exact ⟨q.1, q.2, hq, hr⟩
  · cases hr
theorem sRI_some {g : zRdI} {nx : zNxt} {go : Nat → zNxt} {cl : zCal} {ls : zLoc} {st : zStk} {h : zHeap} {r : zRes} (hr : sRI g nx go cl ls st h = some r) : ∃ x st', g st h = some (some x, st') ∧ nx ls (.inl x :: st') h = some r := by
  unfold sRI at hr
  split at hr
  · rename_i q hq
    obtain ⟨o, st'⟩ := q
    cases o with
    | none => cases hr
    | some x => exact ⟨x, st', hq, hr⟩
  · cases hr
theorem sRR_some {g : zStk → zHeap → Option (Option (Option Nat) × zStk)} {nx : zNxt} {go : Nat → zNxt} {cl : zCal} {ls : zLoc} {st : zStk} {h : zHeap} {r : zRes} (hr : sRR g nx go cl ls st h = some r) : ∃ x st', g st h = some (some x, st') ∧ nx ls (.inr (.inr x) :: st') h = some r := by
  unfold sRR at hr
  split at hr
  · rename_i q hq
    obtain ⟨o, st'⟩ := q
    cases o with
    | none => cases hr
    | some x => exact ⟨x, st', hq, hr⟩
  · cases hr
theorem sWr_some {g : zWrt} {nx : zNxt} {go : Nat → zNxt} {cl : zCal} {ls : zLoc} {st : zStk} {h : zHeap} {r : zRes} (hr : sWr g nx go cl ls st h = some r) : ∃ h' st', g st h = some (some h', st') ∧ nx ls st' h' = some r := by
  unfold sWr at hr
  split at hr
  · rename_i q hq
    obtain ⟨o, st'⟩ := q
    cases o with
    | none => cases hr
    | some x => exact ⟨x, st', hq, hr⟩
  · cases hr
theorem sBr_some {c : zStk → Option (Bool × zStk)} {t : Nat} {nx : zNxt} {go : Nat → zNxt} {cl : zCal} {ls : zLoc} {st : zStk} {h : zHeap} {r : zRes} (hr : sBr c t nx go cl ls st h = some r) : ∃ b st', c st = some (b, st') ∧ (b = true → go t ls st' h = some r) ∧ (b = false → nx ls st' h = some r) := by
  unfold sBr at hr
  split at hr
  · rename_i q hq
    obtain ⟨b, st'⟩ := q
    exact ⟨b, st', hq, fun hb => by subst hb; exact hr, fun hb => by subst hb; exact hr⟩
  · cases hr
theorem ztk_spec : ∀ (n : Nat) (st acc as rest : zStk), ztk n st acc = some (as, rest) → ∃ ps, as = ps.reverse ++ acc ∧ st = ps ++ rest ∧ ps.length = n
  | 0, st, acc, as, rest, h => by
    unfold ztk at h
    obtain ⟨rfl, rfl⟩ := Prod.mk.inj (Option.some.inj h)
    exact ⟨[], rfl, rfl, rfl⟩
  | n + 1, [], acc, as, rest, h => by unfold ztk at h; cases h
  | n + 1, v :: st, acc, as, rest, h => by
    unfold ztk at h
    obtain ⟨ps, e1, e2, e3⟩ := ztk_spec n st (v :: acc) as rest h
    exact ⟨v :: ps, by rw [e1]; simp, by rw [e2]; rfl, by simp [e3]⟩
theorem zcs_sum {base : Nat} {cst : Nat → Nat} : ∀ st : zStk, ((st.map (zcv base cst)).map fun v => v.category).sum = zcs st
  | [] => rfl
  | v :: st => by
    simp only [List.map_cons, List.sum_cons, zcs, zcs_sum st]
    congr 1
    rcases v with x | y | r
    · rfl
    · rfl
    · cases r <;> rfl
/-- a call's outcome for its caller -/
theorem zcallW {p : Program} {l : Launch} {e : Env} {R : Room} {s : State} {m : MethodId} {args : Array Value} {below : List Frame} {meth : Method} {c : Code} {H : Heap} {locs : List Loc} {cells slots : Nat} {Q : State → Prop} {base : Nat} {cst adV : Nat → Nat} {D : va_G} {tys : List (ClassId × FieldType)} {KA : Nat → Option (Nat × (Nat → Int32))} {ret : Option FieldType} {r : zVal} {h1 : zHeap} {mc ms pc : Nat} {L : Array Slot} {st0 rest : List Value} {a : Array Value}
    (hr : va_Run p l e R s m args below meth c H locs cells slots mc ms (F0 m pc L st0) rest (zQ base cst adV D tys KA ret r h1 a) (zA base)) (hS : va_S (zA base) s.heap H locs)
    (kk : ∀ (H1 : Heap) (locs1 : List Loc), zSt base cst D tys KA s h1 H1 locs1 → W p l e R s m args below meth c H1 locs1 (cells + mc) (slots + ms) Q (F0 m (pc + 3) L ((zrv base cst ret r).toList ++ rest))) : W p l e R s m args below meth c H locs cells slots Q (F0 m pc L st0) := by
  intro T hT X
  obtain ⟨v, st₀, t, T', L', h0, X', hL, e1, e2, ⟨hv, ⟨⟨ws, w1, w2, w3⟩, w4, w5, w6⟩, hz, hk⟩, st⟩ := hr T hT X
  obtain rfl := Outcome.returned.inj hv
  rw [h0] at hz hk
  obtain ⟨t2, a1, b1⟩ := kk T'.heap (locs ++ L') ⟨ws, by rw [e1]; exact w1, w2, w3, by rw [e1]; exact w4, ⟨Nat.le_trans hS.1 (by rw [e1]; exact hz), fun q g1 g2 => by rw [e1, hk q (Nat.lt_of_lt_of_le g1 hS.1) g2]; exact hS.2.1 q g1 g2, fun q hq => by
      rcases List.mem_append.mp hq with h | h
      · exact hS.2.2 q h
      · exact hL q h⟩⟩ T' rfl X'
  exact ⟨t2, st t2 a1, b1⟩

