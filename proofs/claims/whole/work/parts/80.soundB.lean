/-! THE BODY OF A METHOD, step by step -/
section ZB
variable (l : Launch) (base : Nat) (cst adV : Nat → Nat) (D : va_G) (tys : List (ClassId × FieldType)) (KA : Nat → Option (Nat × (Nat → Int32)))
def zBd (n : Nat) : Prop := ∀ (M : Nat) (q : zMq) (mt : zMt), zMths[M]? = some q → zMetas[M]? = some mt → ∀ (i pc : Nat) (ins : Instr) (len : Nat), q.2.2.2[i]? = some (pc, ins, len) →
  ∀ (p : Program) (e : Env) (R : Room) (s : State) (m : MethodId) (args : Array Value) (below : List Frame) (meth : Method) (c : Code), zCx base cst adV D tys KA p R s m args meth c q mt →
  ∀ (ls : zLoc) (st : zStk) (h : zHeap) (r : zVal) (hf h0 : zHeap) (H : Heap) (locs : List Loc) (cells slots : Nat) (Qc : Array Value → State → Outcome → State → Prop), zrF zP zNL n M i ls st h = some (r, hf) → hN hf ≤ zK0 → zle h0 h → cells = hN h - hN h0 → slots = hS h - hS h0 → hN hf - hN h0 ≤ R.cells → hS hf - hS h0 ≤ R.slots → zSt base cst D tys KA s h H locs →
  (∀ (H1 : Heap) (locs1 : List Loc), zSt base cst D tys KA s hf H1 locs1 → ∀ t : State, t.heap = H1 → s.WarmedH t.vm → Qc args s (.returned (zrv base cst mt.2.2.1 r)) t) → zWW p l e R s m args below meth c H locs cells slots (MQ below Qc args s (hN hf - hN h0) (hS hf - hS h0) (zA base)) base cst q.2.1 pc ls st
def zMe (n : Nat) : Prop := ∀ (M : Nat) (q : zMq) (mt : zMt) (as : List zVal) (h : zHeap) (r : zVal) (hf : zHeap), zMths[M]? = some q → zMetas[M]? = some mt → zrF zP zNL n M 0 (zen (zNL M) as) [] h = some (r, hf) → hN hf ≤ zK0 → zcs as ≤ q.2.1 →
  Met l mt.1 (Cond.code mt.1 mt.2.1 q.2.1 mt.2.2.1 :: zT) { frames := mt.2.2.2.1, cells := hN hf - hN h, slots := hS hf - hS h, locals := mt.2.2.2.2 } (va_Pc (as.map (zcv base cst)) (zWd base cst adV D tys KA h)) (zQ base cst adV D tys KA mt.2.2.1 r hf) (hN hf - hN h) (hS hf - hS h) (zA base)
end ZB
theorem zrF_at {n M i : Nat} {ls : zLoc} {st : zStk} {h : zHeap} {r : zRes} {q : zMq} (hM : zMths[M]? = some q) (hr : zrF zP zNL n M i ls st h = some r) : ∃ (pc : Nat) (ins : Instr) (len : Nat), q.2.2.2[i]? = some (pc, ins, len) := by
  cases n with
  | zero => cases hr
  | succ n =>
    rw [zrF] at hr
    unfold zP at hr
    rw [hM] at hr
    dsimp only at hr
    cases hi : q.2.2.2[i]? with
    | none => rw [hi] at hr; cases hr
    | some x => exact ⟨x.1, x.2.1, x.2.2, rfl⟩
theorem ztg_at {is : List zIns} {pc pc' len' : Nat} {off : Int} {ins' : Instr} (h : is[ztg is pc off]? = some (pc', ins', len')) : (pc : Int) + off = (pc' : Int) := by
  unfold ztg at h
  have hlt := (List.getElem?_eq_some_iff.mp h).1
  have h1 := List.findIdx_getElem (xs := is) (p := fun q => decide ((q.1 : Int) = (pc : Int) + off)) (w := hlt)
  have h2 := (List.getElem?_eq_some_iff.mp h).2
  rw [h2] at h1
  exact (of_decide_eq_true h1).symm
theorem zsl_len : ∀ as : List zVal, (zsl as).length = zcs as
  | [] => rfl
  | .inl x :: r => by simp only [zsl, List.length_cons, zcs, zct, zsl_len r]; omega
  | .inr (.inl x) :: r => by simp only [zsl, List.length_cons, zcs, zct, zsl_len r]; omega
  | .inr (.inr x) :: r => by simp only [zsl, List.length_cons, zcs, zct, zsl_len r]; omega
theorem zsl_args {base : Nat} {cst : Nat → Nat} : ∀ (as : List zVal) (i k : Nat) (v : zVal), (zsl as)[k]? = some (some v) → (i + k, zcv base cst v) ∈ lv_args i (as.map (zcv base cst))
  | [], i, k, v, h => by simp [zsl] at h
  | .inl x :: r, i, 0, v, h => by
    simp only [zsl, List.getElem?_cons_zero] at h
    obtain rfl := Option.some.inj (Option.some.inj h)
    exact List.mem_cons_self
  | .inl x :: r, i, k + 1, v, h => by
    simp only [zsl, List.getElem?_cons_succ] at h
    have := zsl_args (base := base) (cst := cst) r (i + 1) k v h
    rw [show i + (k + 1) = i + 1 + k by omega]
    exact List.mem_cons_of_mem _ this
  | .inr (.inr x) :: r, i, 0, v, h => by
    simp only [zsl, List.getElem?_cons_zero] at h
    obtain rfl := Option.some.inj (Option.some.inj h)
    exact List.mem_cons_self
  | .inr (.inr x) :: r, i, k + 1, v, h => by
    simp only [zsl, List.getElem?_cons_succ] at h
    have := zsl_args (base := base) (cst := cst) r (i + 1) k v h
    rw [show i + (k + 1) = i + 1 + k by omega]
    have hc : (zcv base cst (.inr (.inr x))).category = 1 := zcv_cat1 (fun y hy => by cases hy)
    show _ ∈ (i, zcv base cst (.inr (.inr x))) :: lv_args (if (zcv base cst (.inr (.inr x))).category = 2 then i + 2 else i + 1) (r.map (zcv base cst))
    rw [if_neg (by omega)]
    exact List.mem_cons_of_mem _ this
  | .inr (.inl x) :: r, i, 0, v, h => by
    simp only [zsl, List.getElem?_cons_zero] at h
    obtain rfl := Option.some.inj (Option.some.inj h)
    exact List.mem_cons_self
  | .inr (.inl x) :: r, i, 1, v, h => by
    simp only [zsl, List.getElem?_cons_succ, List.getElem?_cons_zero] at h
    cases h
  | .inr (.inl x) :: r, i, k + 2, v, h => by
    simp only [zsl, List.getElem?_cons_succ] at h
    have := zsl_args (base := base) (cst := cst) r (i + 2) k v h
    rw [show i + (k + 2) = i + 2 + k by omega]
    exact List.mem_cons_of_mem _ this
theorem zsl_words {base : Nat} {cst : Nat → Nat} : ∀ as : List zVal, (lg_sl (as.map (zcv base cst))).length = zcs as
  | [] => rfl
  | v :: r => by
    have ih := zsl_words (base := base) (cst := cst) r
    unfold lg_sl at ih ⊢
    simp only [List.map_cons, List.flatMap_cons, List.length_append, ih, zcs]
    congr 1
    rcases v with x | y | z
    · rfl
    · rfl
    · cases z <;> rfl
theorem zLR_entry {base : Nat} {cst : Nat → Nat} {as : List zVal} {nL : Nat} (h : zcs as ≤ nL) : zLR base cst (zen nL as) (lg_sl (as.map (zcv base cst)) ++ List.replicate (nL - (lg_sl (as.map (zcv base cst))).length) Slot.unset).toArray nL := by
  have hl := lv_entry (as.map (zcv base cst)) (n := nL) (by rw [zsl_words]; exact h)
  refine ⟨by unfold zen; rw [List.length_append, List.length_replicate, zsl_len]; omega, hl.1, hl.2.1, fun k v hv => ?_⟩
  obtain ⟨g1, -⟩ := zvd_val hv
  unfold zen at g1
  rcases Nat.lt_or_ge k (zsl as).length with hk | hk
  · rw [List.getElem?_append_left hk] at g1
    have := zsl_args (base := base) (cst := cst) as 0 k v g1
    rw [Nat.zero_add] at this
    exact hl.2.2 _ this
  · rw [List.getElem?_append_right hk, List.getElem?_replicate] at g1
    split at g1
    · cases g1
    · cases g1
theorem zNL_eq {M : Nat} {q : zMq} (hM : zMths[M]? = some q) : zNL M = q.2.1 := by
  unfold zNL
  rw [hM]
theorem zmet_of {l : Launch} {base : Nat} {cst adV : Nat → Nat} {D : va_G} {tys : List (ClassId × FieldType)} {KA : Nat → Option (Nat × (Nat → Int32))} (hG : ∀ M q mt, zMths[M]? = some q → zMetas[M]? = some mt → zGd M q mt ∧ plainName mt.1.cls = true) {n : Nat} (hB : zBd l base cst adV D tys KA n) : zMe l base cst adV D tys KA n := by
  intro M q mt as h r hf hM hm hr hk has
  obtain ⟨hg, hpl⟩ := hG M q mt hM hm
  refine Met.ofW (cc := mt.2.1) (maxL := q.2.1) (ret := mt.2.2.1) hpl rfl ?_
  intro p e s m args below meth c s₁ B hml hv
  obtain ⟨rfl, ⟨ws, w1, w2, w3⟩, w4, w5, w6⟩ := hv
  have hts0 := atoms_spec (ws := Cond.code mt.1 mt.2.1 q.2.1 mt.2.2.1 :: zT) B.pre
  have hts : ∀ w ∈ zT, w.before (as.map (zcv base cst)).toArray s = true := fun w hw => hts0 w (List.mem_cons_of_mem _ hw)
  obtain ⟨pc, ins, len, hi⟩ := zrF_at hM hr
  obtain rfl := hg.2.1 pc ins len hi
  rw [zNL_eq hM] at hr
  rw [lg_entry_eq]
  refine hB M q mt hM hm 0 0 ins len hi p e _ s m _ below meth c ⟨B.exec, B.bytes, hml, findClass_of_methodNamed B.named, hts, B.notSynchronized, B.returns, Or.inr (name_of_methodNamed B.named B.method).1, w5, w6, by rw [w4]; omega, rfl, rfl⟩ (zen q.2.1 as) [] h r hf h s.heap [] 0 0 _ hr hk zle.rf (by omega) (by omega) (Nat.le_refl _) (Nat.le_refl _) ⟨ws, w1, w2, w3, w4, va_S.rf⟩ ?_ _ (zLR_entry has)
  intro H1 locs1 hS1 t ht hW
  obtain ⟨ws1, v1, v2, v3, v4, v5⟩ := hS1
  refine ⟨rfl, ⟨⟨ws1, by rw [ht]; exact v1, v2, v3⟩, by rw [ht]; exact v4, va_K.moved hW.alike w5, w6.moved hW (fun a g1 g2 => by rw [ht]; exact v5.2.1 a g1 g2)⟩, by rw [ht]; exact v5.1, fun a g1 g2 => by rw [ht]; exact v5.2.1 a g1 g2⟩

