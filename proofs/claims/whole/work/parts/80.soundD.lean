def zeq (h h' : zHeap) : Prop := hN h' = hN h ∧ hS h' = hS h
theorem zeq_pI {h h' : zHeap} {r : Option Nat} {k : Nat} {x : Int32} (e : zpI h r k x = some h') : zeq h h' := by
  unfold zpI at e
  split at e
  · split at e
    · obtain rfl := Option.some.inj e
      exact ⟨rfl, rfl⟩
    · cases e
  · cases e
theorem zeq_wFI (k : Nat) : ∀ st h q h', wFI k st h = some q → q.1 = some h' → zeq h h' := by
  intro st h q h' e1 e2
  unfold wFI at e1
  split at e1
  · obtain rfl := Option.some.inj e1
    exact zeq_pI e2
  · cases e1
theorem zeq_wFZ (k : Nat) : ∀ st h q h', wFZ k st h = some q → q.1 = some h' → zeq h h' := by
  intro st h q h' e1 e2
  unfold wFZ at e1
  split at e1
  · obtain rfl := Option.some.inj e1
    have e2 : zpZ _ _ _ _ = some h' := e2
    unfold zpZ at e2
    split at e2
    · exact zeq_pI e2
    · cases e2
  · cases e1
theorem zeq_wFR (k : Nat) : ∀ st h q h', wFR k st h = some q → q.1 = some h' → zeq h h' := by
  intro st h q h' e1 e2
  unfold wFR at e1
  split at e1
  · obtain rfl := Option.some.inj e1
    have e2 : zpR _ _ _ _ = some h' := e2
    unfold zpR at e2
    split at e2
    · split at e2
      · obtain rfl := Option.some.inj e2
        exact ⟨rfl, rfl⟩
      · cases e2
    · cases e2
  · cases e1
theorem zeq_wAI : ∀ st h q h', wAI st h = some q → q.1 = some h' → zeq h h' := by
  intro st h q h' e1 e2
  unfold wAI at e1
  split at e1
  · obtain rfl := Option.some.inj e1
    have e2 : zaS _ _ _ _ = some h' := e2
    unfold zaS at e2
    split at e2
    · split at e2
      · split at e2
        · obtain rfl := Option.some.inj e2
          exact ⟨rfl, rfl⟩
        · cases e2
      · cases e2
    · cases e2
  · cases e1
theorem zeq_wAB : ∀ st h q h', wAB st h = some q → q.1 = some h' → zeq h h' := by
  intro st h q h' e1 e2
  unfold wAB at e1
  split at e1
  · obtain rfl := Option.some.inj e1
    have e2 : zaC _ _ _ _ = some h' := e2
    unfold zaC at e2
    split at e2
    · split at e2
      · split at e2
        · obtain rfl := Option.some.inj e2
          exact ⟨rfl, rfl⟩
        · cases e2
      · cases e2
    · cases e2
  · cases e1
theorem zeq_wAR : ∀ st h q h', wAR st h = some q → q.1 = some h' → zeq h h' := by
  intro st h q h' e1 e2
  unfold wAR at e1
  split at e1
  · obtain rfl := Option.some.inj e1
    have e2 : zaT _ _ _ _ = some h' := e2
    unfold zaT at e2
    split at e2
    · split at e2
      · split at e2
        · split at e2
          · obtain rfl := Option.some.inj e2
            exact ⟨rfl, rfl⟩
          · cases e2
        · cases e2
      · cases e2
    · cases e2
  · cases e1
theorem zeq_wCp : ∀ st h q h', wCp st h = some q → q.1 = some h' → zeq h h' := by
  intro st h q h' e1 e2
  unfold wCp at e1
  split at e1
  · obtain rfl := Option.some.inj (zk8_some e1).2
    have e2 : zaY _ _ _ _ _ _ = some h' := e2
    unfold zaY at e2
    split at e2
    · split at e2
      · split at e2
        · obtain rfl := Option.some.inj e2
          exact ⟨rfl, rfl⟩
        · cases e2
      · cases e2
    · cases e2
  · cases e1

theorem sNA_some {g : Nat → zHeap → zHeap} {nx : zNxt} {go : Nat → zNxt} {cl : zCal} {ls : zLoc} {st : zStk} {h : zHeap} {r : zRes} (hr : sNA g nx go cl ls st h = some r) : ∃ x s0 k, st = .inl x :: s0 ∧ zlen x = some k ∧ nx ls (.inr (.inr (some (hN h))) :: s0) (g k h) = some r := by
  unfold sNA at hr
  split at hr
  · rename_i x s0
    cases hl : zlen x with
    | none => rw [hl] at hr; cases hr
    | some k => rw [hl] at hr; exact ⟨x, s0, k, rfl, hl, hr⟩
  · cases hr
theorem sSw_some {ts : List (Int × Nat)} {d : Nat} {nx : zNxt} {go : Nat → zNxt} {cl : zCal} {ls : zLoc} {st : zStk} {h : zHeap} {r : zRes} (hr : sSw ts d nx go cl ls st h = some r) : ∃ x s0, st = .inl x :: s0 ∧ go (zswt x ts d) ls s0 h = some r := by
  unfold sSw at hr
  split at hr
  · rename_i x s0
    rw [zsw_t] at hr
    exact ⟨x, s0, rfl, hr⟩
  · cases hr
theorem sDL_some {f : Int64 → Int64 → Int64} {nx : zNxt} {go : Nat → zNxt} {cl : zCal} {ls : zLoc} {st : zStk} {h : zHeap} {r : zRes} (hr : sDL f nx go cl ls st h = some r) : ∃ y x s0, st = .inr (.inl y) :: .inr (.inl x) :: s0 ∧ ¬ y = 0 ∧ nx ls (.inr (.inl (f x y)) :: s0) h = some r := by
  unfold sDL at hr
  split at hr
  · rename_i y x s0
    by_cases hy : y = 0
    · rw [if_pos hy] at hr; cases hr
    · rw [if_neg hy] at hr; exact ⟨y, x, s0, rfl, hy, hr⟩
  · cases hr
theorem sRet_some {f : zStk → Option zVal} {nx : zNxt} {go : Nat → zNxt} {cl : zCal} {ls : zLoc} {st : zStk} {h : zHeap} {r : zRes} (hr : sRet f nx go cl ls st h = some r) : f st = some r.1 ∧ r.2 = h := by
  unfold sRet at hr
  split at hr
  · rename_i v hv
    obtain rfl := Option.some.inj hr
    exact ⟨hv, rfl⟩
  · cases hr
theorem rR_some {st : zStk} {v : zVal} (h : rR st = some v) : ∃ x, st = [.inr (.inr x)] ∧ v = .inr (.inr x) := by
  unfold rR at h
  split at h
  · obtain rfl := Option.some.inj h
    exact ⟨_, rfl, rfl⟩
  · cases h
theorem zok_cls {C : Nat} {as : List zVal} {h : zHeap} {k : Option zRes} {r : zRes} (hr : zok (some C) as h k = some r) : ∃ a as', as = .inr (.inr (some a)) :: as' ∧ hCL h a = some C ∧ k = some r := by
  unfold zok at hr
  dsimp only at hr
  split at hr
  · rename_i a as'
    split at hr
    · rename_i hc
      exact ⟨a, as', rfl, hc, hr⟩
    · cases hr
  · cases hr
/-- the string rows -/
def zSok (l : Launch) (base : Nat) (cst adV : Nat → Nat) (D : va_G) (tys : List (ClassId × FieldType)) (KA : Nat → Option (Nat × (Nat → Int32))) : Prop := ∀ (p : Program) (e : Env) (R : Room) (s : State) (m : MethodId) (args : Array Value) (below : List Frame) (meth : Method) (c : Code) (H : Heap) (locs : List Loc) (cells slots : Nat) (Q : State → Prop) (cc : ByteArray) (pc nL : Nat) (ls : zLoc) (st st' : zStk) (h : zHeap) (own : String) (idx : Nat) (x : Int32),
  p.tables.exec = Jvm.exec → c.code = cc → c.maxLocals = nL → (∀ w ∈ zT, w.before args s = true) → s.vm.findClass own = some m.cls → va_K D vwCl tys s → zKF base cst adV KA s → zSt base cst D tys KA s h H locs → 6 ≤ R.frames → 200 ≤ R.locals → cells ≤ R.cells → slots ≤ R.slots → decode cc pc = .ok (.invokevirtual idx, 3) →
  ((Cond.methodLink own idx ⟨"java/lang/String", "length", "()I"⟩ ∈ zT ∧ gSn st h = some (some x, st')) ∨ (Cond.methodLink own idx ⟨"java/lang/String", "charAt", "(I)C"⟩ ∈ zT ∧ gSc st h = some (some x, st'))) →
  zWW p l e R s m args below meth c H locs cells slots Q base cst nL (pc + 3) ls (.inl x :: st') → zWW p l e R s m args below meth c H locs cells slots Q base cst nL pc ls st
set_option maxHeartbeats 4000000 in
set_option maxRecDepth 100000 in
theorem zstep {l : Launch} {base : Nat} {cst adV : Nat → Nat} {D : va_G} {tys : List (ClassId × FieldType)} {KA : Nat → Option (Nat × (Nat → Int32))} (hTys : zTys tys) (hG : ∀ M q mt, zMths[M]? = some q → zMetas[M]? = some mt → zGd M q mt ∧ plainName mt.1.cls = true) (hSok : zSok l base cst adV D tys KA) {n : Nat} (hB : zBd l base cst adV D tys KA n) (hMe : zMe l base cst adV D tys KA n) : zBd l base cst adV D tys KA (n + 1) := by
  intro M q mt hM hm i pc ins len hi p e R s m args below meth c hCx ls st h r hf h0 H locs cells slots Qc hr hk hle hc hsl hRc hRs hSt hQ
  obtain ⟨hg, -⟩ := hG M q mt hM hm
  obtain ⟨hx, hb, hml, hown, hts, hlk, hret, hnm, hK, hKF, hbs, hRf, hRl⟩ := id hCx
  obtain ⟨hd, k1, k2, k3, k5, k4⟩ := hg.1 i pc ins len hi
  have hP : zP M i = zsem zTb (zlk ((zPls[q.1]?).getD [])) (ztg q.2.2.2 pc) q.2.2.1 ins := by unfold zP; rw [hM]; dsimp only; rw [hi]
  rw [zrF, hP] at hr
  have nx : ∀ (ls' : zLoc) (st' : zStk) (h' : zHeap) (H' : Heap) (locs' : List Loc) (cells' slots' : Nat), zrF zP zNL n M (i + 1) ls' st' h' = some (r, hf) → zle h0 h' → cells' = hN h' - hN h0 → slots' = hS h' - hS h0 → zSt base cst D tys KA s h' H' locs' → zWW p l e R s m args below meth c H' locs' cells' slots' (MQ below Qc args s (hN hf - hN h0) (hS hf - hS h0) (zA base)) base cst q.2.1 (pc + len) ls' st' := by
    intro ls' st' h' H' locs' cells' slots' hr' hle' hc' hs' hS'
    obtain ⟨pc', ins', len', hi'⟩ := zrF_at hM hr'
    obtain rfl := k3 pc' ins' len' hi'
    exact hB M q mt hM hm (i + 1) _ ins' len' hi' p e R s m args below meth c hCx ls' st' h' r hf h0 H' locs' cells' slots' Qc hr' hk hle' hc' hs' hRc hRs hS' hQ
  have jp : ∀ (off : Int) (ls' : zLoc) (st' : zStk) (h' : zHeap) (H' : Heap) (locs' : List Loc) (cells' slots' : Nat), zrF zP zNL n M (ztg q.2.2.2 pc off) ls' st' h' = some (r, hf) → zle h0 h' → cells' = hN h' - hN h0 → slots' = hS h' - hS h0 → zSt base cst D tys KA s h' H' locs' → ∃ tgt : Nat, (pc : Int) + off = (tgt : Int) ∧ zWW p l e R s m args below meth c H' locs' cells' slots' (MQ below Qc args s (hN hf - hN h0) (hS hf - hS h0) (zA base)) base cst q.2.1 tgt ls' st' := by
    intro off ls' st' h' H' locs' cells' slots' hr' hle' hc' hs' hS'
    obtain ⟨pc', ins', len', hi'⟩ := zrF_at hM hr'
    exact ⟨pc', ztg_at hi', hB M q mt hM hm _ pc' ins' len' hi' p e R s m args below meth c hCx ls' st' h' r hf h0 H' locs' cells' slots' Qc hr' hk hle' hc' hs' hRc hRs hS' hQ⟩
  have hE := hg.2.2.1
  obtain ⟨kF, kL⟩ := hg.2.2.2.1
  have hbase : ∀ x, s.heap.size ≤ x → zA base x := fun x hx => Nat.le_trans hbs hx
  cases ins with
  | iconst v =>
    have hr : sP (fCon v) (zrF zP zNL n M (i + 1)) (zrF zP zNL n M) (fun m as h => zrF zP zNL n m 0 (zen (zNL m) as) [] h) ls st h = some (r, hf) := hr
    obtain ⟨ls', st', hf1, hr1⟩ := sP_some hr
    obtain rfl := k2 1 rfl
    exact zr_iconst hx hb hd hf1 (nx ls' st' h H locs cells slots hr1 hle hc hsl hSt)
  | bipush v =>
    have hr : sP (fCon v) (zrF zP zNL n M (i + 1)) (zrF zP zNL n M) (fun m as h => zrF zP zNL n m 0 (zen (zNL m) as) [] h) ls st h = some (r, hf) := hr
    obtain ⟨ls', st', hf1, hr1⟩ := sP_some hr
    obtain rfl := k2 2 rfl
    exact zr_bipush hx hb k1 hd hf1 (nx ls' st' h H locs cells slots hr1 hle hc hsl hSt)
  | sipush v =>
    have hr : sP (fCon v) (zrF zP zNL n M (i + 1)) (zrF zP zNL n M) (fun m as h => zrF zP zNL n m 0 (zen (zNL m) as) [] h) ls st h = some (r, hf) := hr
    obtain ⟨ls', st', hf1, hr1⟩ := sP_some hr
    obtain rfl := k2 3 rfl
    exact zr_sipush hx hb k1 hd hf1 (nx ls' st' h H locs cells slots hr1 hle hc hsl hSt)
  | lconst v =>
    have hr : sP (fLon (v.val : Int)) (zrF zP zNL n M (i + 1)) (zrF zP zNL n M) (fun m as h => zrF zP zNL n m 0 (zen (zNL m) as) [] h) ls st h = some (r, hf) := hr
    obtain ⟨ls', st', hf1, hr1⟩ := sP_some hr
    obtain rfl := k2 1 rfl
    exact zr_lconst hx hb hd hf1 (nx ls' st' h H locs cells slots hr1 hle hc hsl hSt)
  | aconst_null =>
    have hr : sP (fRef none) (zrF zP zNL n M (i + 1)) (zrF zP zNL n M) (fun m as h => zrF zP zNL n m 0 (zen (zNL m) as) [] h) ls st h = some (r, hf) := hr
    obtain ⟨ls', st', hf1, hr1⟩ := sP_some hr
    obtain rfl := k2 1 rfl
    exact zr_null hx hb hd hf1 (nx ls' st' h H locs cells slots hr1 hle hc hsl hSt)
  | iload v =>
    have hr : sP (fIld v) (zrF zP zNL n M (i + 1)) (zrF zP zNL n M) (fun m as h => zrF zP zNL n m 0 (zen (zNL m) as) [] h) ls st h = some (r, hf) := hr
    obtain ⟨ls', st', hf1, hr1⟩ := sP_some hr
    obtain rfl := k2 2 rfl
    exact zr_iload hx hb hd hf1 (nx ls' st' h H locs cells slots hr1 hle hc hsl hSt)
  | iload_n v =>
    have hr : sP (fIld v.val) (zrF zP zNL n M (i + 1)) (zrF zP zNL n M) (fun m as h => zrF zP zNL n m 0 (zen (zNL m) as) [] h) ls st h = some (r, hf) := hr
    obtain ⟨ls', st', hf1, hr1⟩ := sP_some hr
    obtain rfl := k2 1 rfl
    exact zr_iload_n hx hb hd hf1 (nx ls' st' h H locs cells slots hr1 hle hc hsl hSt)
  | aload v =>
    have hr : sP (fAld v) (zrF zP zNL n M (i + 1)) (zrF zP zNL n M) (fun m as h => zrF zP zNL n m 0 (zen (zNL m) as) [] h) ls st h = some (r, hf) := hr
    obtain ⟨ls', st', hf1, hr1⟩ := sP_some hr
    obtain rfl := k2 2 rfl
    exact zr_aload hx hb hd hf1 (nx ls' st' h H locs cells slots hr1 hle hc hsl hSt)
  | aload_n v =>
    have hr : sP (fAld v.val) (zrF zP zNL n M (i + 1)) (zrF zP zNL n M) (fun m as h => zrF zP zNL n m 0 (zen (zNL m) as) [] h) ls st h = some (r, hf) := hr
    obtain ⟨ls', st', hf1, hr1⟩ := sP_some hr
    obtain rfl := k2 1 rfl
    exact zr_aload_n hx hb hd hf1 (nx ls' st' h H locs cells slots hr1 hle hc hsl hSt)
  | lload v =>
    have hr : sP (fLld v) (zrF zP zNL n M (i + 1)) (zrF zP zNL n M) (fun m as h => zrF zP zNL n m 0 (zen (zNL m) as) [] h) ls st h = some (r, hf) := hr
    obtain ⟨ls', st', hf1, hr1⟩ := sP_some hr
    obtain rfl := k2 2 rfl
    exact zr_lload hx hb hd hf1 (nx ls' st' h H locs cells slots hr1 hle hc hsl hSt)
  | lload_n v =>
    have hr : sP (fLld v.val) (zrF zP zNL n M (i + 1)) (zrF zP zNL n M) (fun m as h => zrF zP zNL n m 0 (zen (zNL m) as) [] h) ls st h = some (r, hf) := hr
    obtain ⟨ls', st', hf1, hr1⟩ := sP_some hr
    obtain rfl := k2 1 rfl
    exact zr_lload_n hx hb hd hf1 (nx ls' st' h H locs cells slots hr1 hle hc hsl hSt)
  | istore v =>
    have hr : sP (fIst v) (zrF zP zNL n M (i + 1)) (zrF zP zNL n M) (fun m as h => zrF zP zNL n m 0 (zen (zNL m) as) [] h) ls st h = some (r, hf) := hr
    obtain ⟨ls', st', hf1, hr1⟩ := sP_some hr
    obtain rfl := k2 2 rfl
    exact zr_istore hx hb hd hf1 (nx ls' st' h H locs cells slots hr1 hle hc hsl hSt)
  | istore_n v =>
    have hr : sP (fIst v.val) (zrF zP zNL n M (i + 1)) (zrF zP zNL n M) (fun m as h => zrF zP zNL n m 0 (zen (zNL m) as) [] h) ls st h = some (r, hf) := hr
    obtain ⟨ls', st', hf1, hr1⟩ := sP_some hr
    obtain rfl := k2 1 rfl
    exact zr_istore_n hx hb hd hf1 (nx ls' st' h H locs cells slots hr1 hle hc hsl hSt)
  | astore v =>
    have hr : sP (fAst v) (zrF zP zNL n M (i + 1)) (zrF zP zNL n M) (fun m as h => zrF zP zNL n m 0 (zen (zNL m) as) [] h) ls st h = some (r, hf) := hr
    obtain ⟨ls', st', hf1, hr1⟩ := sP_some hr
    obtain rfl := k2 2 rfl
    exact zr_astore hx hb hd hf1 (nx ls' st' h H locs cells slots hr1 hle hc hsl hSt)
  | astore_n v =>
    have hr : sP (fAst v.val) (zrF zP zNL n M (i + 1)) (zrF zP zNL n M) (fun m as h => zrF zP zNL n m 0 (zen (zNL m) as) [] h) ls st h = some (r, hf) := hr
    obtain ⟨ls', st', hf1, hr1⟩ := sP_some hr
    obtain rfl := k2 1 rfl
    exact zr_astore_n hx hb hd hf1 (nx ls' st' h H locs cells slots hr1 hle hc hsl hSt)
  | lstore v =>
    have hr : sP (fLst v) (zrF zP zNL n M (i + 1)) (zrF zP zNL n M) (fun m as h => zrF zP zNL n m 0 (zen (zNL m) as) [] h) ls st h = some (r, hf) := hr
    obtain ⟨ls', st', hf1, hr1⟩ := sP_some hr
    obtain rfl := k2 2 rfl
    exact zr_lstore hx hb hd hf1 (nx ls' st' h H locs cells slots hr1 hle hc hsl hSt)
  | lstore_n v =>
    have hr : sP (fLst v.val) (zrF zP zNL n M (i + 1)) (zrF zP zNL n M) (fun m as h => zrF zP zNL n m 0 (zen (zNL m) as) [] h) ls st h = some (r, hf) := hr
    obtain ⟨ls', st', hf1, hr1⟩ := sP_some hr
    obtain rfl := k2 1 rfl
    exact zr_lstore_n hx hb hd hf1 (nx ls' st' h H locs cells slots hr1 hle hc hsl hSt)
  | iinc v w =>
    have hr : sP (fInc v w) (zrF zP zNL n M (i + 1)) (zrF zP zNL n M) (fun m as h => zrF zP zNL n m 0 (zen (zNL m) as) [] h) ls st h = some (r, hf) := hr
    obtain ⟨ls', st', hf1, hr1⟩ := sP_some hr
    obtain rfl := k2 3 rfl
    exact zr_iinc hx hb hd hf1 (nx ls' st' h H locs cells slots hr1 hle hc hsl hSt)
  | iadd =>
    have hr : sP (fII (fun x y => x + y)) (zrF zP zNL n M (i + 1)) (zrF zP zNL n M) (fun m as h => zrF zP zNL n m 0 (zen (zNL m) as) [] h) ls st h = some (r, hf) := hr
    obtain ⟨ls', st', hf1, hr1⟩ := sP_some hr
    obtain rfl := k2 1 rfl
    exact zr_iadd hx hb hd hf1 (nx ls' st' h H locs cells slots hr1 hle hc hsl hSt)
  | isub =>
    have hr : sP (fII (fun x y => x - y)) (zrF zP zNL n M (i + 1)) (zrF zP zNL n M) (fun m as h => zrF zP zNL n m 0 (zen (zNL m) as) [] h) ls st h = some (r, hf) := hr
    obtain ⟨ls', st', hf1, hr1⟩ := sP_some hr
    obtain rfl := k2 1 rfl
    exact zr_isub hx hb hd hf1 (nx ls' st' h H locs cells slots hr1 hle hc hsl hSt)
  | imul =>
    have hr : sP (fII (fun x y => x * y)) (zrF zP zNL n M (i + 1)) (zrF zP zNL n M) (fun m as h => zrF zP zNL n m 0 (zen (zNL m) as) [] h) ls st h = some (r, hf) := hr
    obtain ⟨ls', st', hf1, hr1⟩ := sP_some hr
    obtain rfl := k2 1 rfl
    exact zr_imul hx hb hd hf1 (nx ls' st' h H locs cells slots hr1 hle hc hsl hSt)
  | iand =>
    have hr : sP (fII (fun x y => x &&& y)) (zrF zP zNL n M (i + 1)) (zrF zP zNL n M) (fun m as h => zrF zP zNL n m 0 (zen (zNL m) as) [] h) ls st h = some (r, hf) := hr
    obtain ⟨ls', st', hf1, hr1⟩ := sP_some hr
    obtain rfl := k2 1 rfl
    exact zr_iand hx hb hd hf1 (nx ls' st' h H locs cells slots hr1 hle hc hsl hSt)
  | ior =>
    have hr : sP (fII (fun x y => x ||| y)) (zrF zP zNL n M (i + 1)) (zrF zP zNL n M) (fun m as h => zrF zP zNL n m 0 (zen (zNL m) as) [] h) ls st h = some (r, hf) := hr
    obtain ⟨ls', st', hf1, hr1⟩ := sP_some hr
    obtain rfl := k2 1 rfl
    exact zr_ior hx hb hd hf1 (nx ls' st' h H locs cells slots hr1 hle hc hsl hSt)
  | ixor =>
    have hr : sP (fII (fun x y => x ^^^ y)) (zrF zP zNL n M (i + 1)) (zrF zP zNL n M) (fun m as h => zrF zP zNL n m 0 (zen (zNL m) as) [] h) ls st h = some (r, hf) := hr
    obtain ⟨ls', st', hf1, hr1⟩ := sP_some hr
    obtain rfl := k2 1 rfl
    exact zr_ixor hx hb hd hf1 (nx ls' st' h H locs cells slots hr1 hle hc hsl hSt)
  | ishl =>
    have hr : sP (fII zshl) (zrF zP zNL n M (i + 1)) (zrF zP zNL n M) (fun m as h => zrF zP zNL n m 0 (zen (zNL m) as) [] h) ls st h = some (r, hf) := hr
    obtain ⟨ls', st', hf1, hr1⟩ := sP_some hr
    obtain rfl := k2 1 rfl
    exact zr_ishl hx hb hd hf1 (nx ls' st' h H locs cells slots hr1 hle hc hsl hSt)
  | ishr =>
    have hr : sP (fII zshr) (zrF zP zNL n M (i + 1)) (zrF zP zNL n M) (fun m as h => zrF zP zNL n m 0 (zen (zNL m) as) [] h) ls st h = some (r, hf) := hr
    obtain ⟨ls', st', hf1, hr1⟩ := sP_some hr
    obtain rfl := k2 1 rfl
    exact zr_ishr hx hb hd hf1 (nx ls' st' h H locs cells slots hr1 hle hc hsl hSt)
  | iushr =>
    have hr : sP (fII zushr) (zrF zP zNL n M (i + 1)) (zrF zP zNL n M) (fun m as h => zrF zP zNL n m 0 (zen (zNL m) as) [] h) ls st h = some (r, hf) := hr
    obtain ⟨ls', st', hf1, hr1⟩ := sP_some hr
    obtain rfl := k2 1 rfl
    exact zr_iushr hx hb hd hf1 (nx ls' st' h H locs cells slots hr1 hle hc hsl hSt)
  | ineg =>
    have hr : sP (fI1 (fun x => -x)) (zrF zP zNL n M (i + 1)) (zrF zP zNL n M) (fun m as h => zrF zP zNL n m 0 (zen (zNL m) as) [] h) ls st h = some (r, hf) := hr
    obtain ⟨ls', st', hf1, hr1⟩ := sP_some hr
    obtain rfl := k2 1 rfl
    exact zr_ineg hx hb hd hf1 (nx ls' st' h H locs cells slots hr1 hle hc hsl hSt)
  | i2b =>
    have hr : sP (fI1 zi2b) (zrF zP zNL n M (i + 1)) (zrF zP zNL n M) (fun m as h => zrF zP zNL n m 0 (zen (zNL m) as) [] h) ls st h = some (r, hf) := hr
    obtain ⟨ls', st', hf1, hr1⟩ := sP_some hr
    obtain rfl := k2 1 rfl
    exact zr_i2b hx hb hd hf1 (nx ls' st' h H locs cells slots hr1 hle hc hsl hSt)
  | i2l =>
    have hr : sP (fIL) (zrF zP zNL n M (i + 1)) (zrF zP zNL n M) (fun m as h => zrF zP zNL n m 0 (zen (zNL m) as) [] h) ls st h = some (r, hf) := hr
    obtain ⟨ls', st', hf1, hr1⟩ := sP_some hr
    obtain rfl := k2 1 rfl
    exact zr_i2l hx hb hd hf1 (nx ls' st' h H locs cells slots hr1 hle hc hsl hSt)
  | ladd =>
    have hr : sP (fLL (fun x y => x + y)) (zrF zP zNL n M (i + 1)) (zrF zP zNL n M) (fun m as h => zrF zP zNL n m 0 (zen (zNL m) as) [] h) ls st h = some (r, hf) := hr
    obtain ⟨ls', st', hf1, hr1⟩ := sP_some hr
    obtain rfl := k2 1 rfl
    exact zr_ladd hx hb hd hf1 (nx ls' st' h H locs cells slots hr1 hle hc hsl hSt)
  | lsub =>
    have hr : sP (fLL (fun x y => x - y)) (zrF zP zNL n M (i + 1)) (zrF zP zNL n M) (fun m as h => zrF zP zNL n m 0 (zen (zNL m) as) [] h) ls st h = some (r, hf) := hr
    obtain ⟨ls', st', hf1, hr1⟩ := sP_some hr
    obtain rfl := k2 1 rfl
    exact zr_lsub hx hb hd hf1 (nx ls' st' h H locs cells slots hr1 hle hc hsl hSt)
  | lmul =>
    have hr : sP (fLL (fun x y => x * y)) (zrF zP zNL n M (i + 1)) (zrF zP zNL n M) (fun m as h => zrF zP zNL n m 0 (zen (zNL m) as) [] h) ls st h = some (r, hf) := hr
    obtain ⟨ls', st', hf1, hr1⟩ := sP_some hr
    obtain rfl := k2 1 rfl
    exact zr_lmul hx hb hd hf1 (nx ls' st' h H locs cells slots hr1 hle hc hsl hSt)
  | lcmp =>
    have hr : sP (fLc) (zrF zP zNL n M (i + 1)) (zrF zP zNL n M) (fun m as h => zrF zP zNL n m 0 (zen (zNL m) as) [] h) ls st h = some (r, hf) := hr
    obtain ⟨ls', st', hf1, hr1⟩ := sP_some hr
    obtain rfl := k2 1 rfl
    exact zr_lcmp hx hb hd hf1 (nx ls' st' h H locs cells slots hr1 hle hc hsl hSt)
  | dup =>
    have hr : sP (fDup) (zrF zP zNL n M (i + 1)) (zrF zP zNL n M) (fun m as h => zrF zP zNL n m 0 (zen (zNL m) as) [] h) ls st h = some (r, hf) := hr
    obtain ⟨ls', st', hf1, hr1⟩ := sP_some hr
    obtain rfl := k2 1 rfl
    exact zr_dup hx hb hd hf1 (nx ls' st' h H locs cells slots hr1 hle hc hsl hSt)
  | dup2 =>
    have hr : sP (fDup2) (zrF zP zNL n M (i + 1)) (zrF zP zNL n M) (fun m as h => zrF zP zNL n m 0 (zen (zNL m) as) [] h) ls st h = some (r, hf) := hr
    obtain ⟨ls', st', hf1, hr1⟩ := sP_some hr
    obtain rfl := k2 1 rfl
    exact zr_dup2 hx hb hd hf1 (nx ls' st' h H locs cells slots hr1 hle hc hsl hSt)
  | pop =>
    have hr : sP (fPop) (zrF zP zNL n M (i + 1)) (zrF zP zNL n M) (fun m as h => zrF zP zNL n m 0 (zen (zNL m) as) [] h) ls st h = some (r, hf) := hr
    obtain ⟨ls', st', hf1, hr1⟩ := sP_some hr
    obtain rfl := k2 1 rfl
    exact zr_pop hx hb hd hf1 (nx ls' st' h H locs cells slots hr1 hle hc hsl hSt)
  | idiv =>
    have hr : sRI (gDiv (fun x y => x / y)) (zrF zP zNL n M (i + 1)) (zrF zP zNL n M) (fun m as h => zrF zP zNL n m 0 (zen (zNL m) as) [] h) ls st h = some (r, hf) := hr
    obtain ⟨x, st', hf1, hr1⟩ := sRI_some hr
    obtain rfl := k2 1 rfl
    exact zr_idiv hx hb hd hf1 (nx ls _ h H locs cells slots hr1 hle hc hsl hSt)
  | irem =>
    have hr : sRI (gDiv zrem) (zrF zP zNL n M (i + 1)) (zrF zP zNL n M) (fun m as h => zrF zP zNL n m 0 (zen (zNL m) as) [] h) ls st h = some (r, hf) := hr
    obtain ⟨x, st', hf1, hr1⟩ := sRI_some hr
    obtain rfl := k2 1 rfl
    exact zr_irem hx hb hd hf1 (nx ls _ h H locs cells slots hr1 hle hc hsl hSt)
  | iaload =>
    have hr : sRI (gAI) (zrF zP zNL n M (i + 1)) (zrF zP zNL n M) (fun m as h => zrF zP zNL n m 0 (zen (zNL m) as) [] h) ls st h = some (r, hf) := hr
    obtain ⟨x, st', hf1, hr1⟩ := sRI_some hr
    obtain rfl := k2 1 rfl
    exact zr_iaload hx hb hK hKF.1 hSt hd hf1 (nx ls _ h H locs cells slots hr1 hle hc hsl hSt)
  | baload =>
    have hr : sRI (gAB) (zrF zP zNL n M (i + 1)) (zrF zP zNL n M) (fun m as h => zrF zP zNL n m 0 (zen (zNL m) as) [] h) ls st h = some (r, hf) := hr
    obtain ⟨x, st', hf1, hr1⟩ := sRI_some hr
    obtain rfl := k2 1 rfl
    exact zr_baload hx hb hK hSt hd hf1 (nx ls _ h H locs cells slots hr1 hle hc hsl hSt)
  | arraylength =>
    have hr : sRI (gAN) (zrF zP zNL n M (i + 1)) (zrF zP zNL n M) (fun m as h => zrF zP zNL n m 0 (zen (zNL m) as) [] h) ls st h = some (r, hf) := hr
    obtain ⟨x, st', hf1, hr1⟩ := sRI_some hr
    obtain rfl := k2 1 rfl
    exact zr_alen hx hb hK hKF.1 hSt hd hf1 (nx ls _ h H locs cells slots hr1 hle hc hsl hSt)
  | aaload =>
    have hr : sRR gAR (zrF zP zNL n M (i + 1)) (zrF zP zNL n M) (fun m as h => zrF zP zNL n m 0 (zen (zNL m) as) [] h) ls st h = some (r, hf) := hr
    obtain ⟨x, st', hf1, hr1⟩ := sRR_some hr
    obtain rfl := k2 1 rfl
    exact zr_aaload hx hb hK hSt hd hf1 (nx ls _ h H locs cells slots hr1 hle hc hsl hSt)
  | ldiv =>
    have hr : sDL (fun x y => x / y) (zrF zP zNL n M (i + 1)) (zrF zP zNL n M) (fun m as h => zrF zP zNL n m 0 (zen (zNL m) as) [] h) ls st h = some (r, hf) := hr
    obtain ⟨y, x, s0, rfl, hy, hr1⟩ := sDL_some hr
    obtain rfl := k2 1 rfl
    exact zr_ldiv hx hb hd hy (nx ls _ h H locs cells slots hr1 hle hc hsl hSt)
  | lrem =>
    have hr : sDL (zremL) (zrF zP zNL n M (i + 1)) (zrF zP zNL n M) (fun m as h => zrF zP zNL n m 0 (zen (zNL m) as) [] h) ls st h = some (r, hf) := hr
    obtain ⟨y, x, s0, rfl, hy, hr1⟩ := sDL_some hr
    obtain rfl := k2 1 rfl
    exact zr_lrem hx hb hd hy (nx ls _ h H locs cells slots hr1 hle hc hsl hSt)
  | iastore =>
    have hr : sWr wAI (zrF zP zNL n M (i + 1)) (zrF zP zNL n M) (fun m as h => zrF zP zNL n m 0 (zen (zNL m) as) [] h) ls st h = some (r, hf) := hr
    obtain ⟨h', st', hf1, hr1⟩ := sWr_some hr
    obtain rfl := k2 1 rfl
    have he := zeq_wAI _ _ _ _ hf1 rfl
    exact zr_iastore hx hb hK hSt hd hf1 (fun H1 locs1 hS1 => nx ls st' h' H1 locs1 cells slots hr1 ⟨by rw [he.1]; exact hle.1, by rw [he.2]; exact hle.2⟩ (by rw [he.1]; exact hc) (by rw [he.2]; exact hsl) hS1)
  | bastore =>
    have hr : sWr wAB (zrF zP zNL n M (i + 1)) (zrF zP zNL n M) (fun m as h => zrF zP zNL n m 0 (zen (zNL m) as) [] h) ls st h = some (r, hf) := hr
    obtain ⟨h', st', hf1, hr1⟩ := sWr_some hr
    obtain rfl := k2 1 rfl
    have he := zeq_wAB _ _ _ _ hf1 rfl
    exact zr_bastore hx hb hK hSt hd hf1 (fun H1 locs1 hS1 => nx ls st' h' H1 locs1 cells slots hr1 ⟨by rw [he.1]; exact hle.1, by rw [he.2]; exact hle.2⟩ (by rw [he.1]; exact hc) (by rw [he.2]; exact hsl) hS1)
  | aastore =>
    have hr : sWr wAR (zrF zP zNL n M (i + 1)) (zrF zP zNL n M) (fun m as h => zrF zP zNL n m 0 (zen (zNL m) as) [] h) ls st h = some (r, hf) := hr
    obtain ⟨h', st', hf1, hr1⟩ := sWr_some hr
    obtain rfl := k2 1 rfl
    have he := zeq_wAR _ _ _ _ hf1 rfl
    exact zr_aastore hx hb hK hSt hd hf1 (fun H1 locs1 hS1 => nx ls st' h' H1 locs1 cells slots hr1 ⟨by rw [he.1]; exact hle.1, by rw [he.2]; exact hle.2⟩ (by rw [he.1]; exact hc) (by rw [he.2]; exact hsl) hS1)
  | ldc idx =>
    cases hs : zsem zTb (zlk ((zPls[q.1]?).getD [])) (ztg q.2.2.2 pc) q.2.2.1 (.ldc idx) with
    | none => rw [hs] at hr; cases hr
    | some s0 =>
      rw [hs] at hr
      have hr : s0 (zrF zP zNL n M (i + 1)) (zrF zP zNL n M) (fun m as h => zrF zP zNL n m 0 (zen (zNL m) as) [] h) ls st h = some (r, hf) := hr
      unfold zsem at hs
      dsimp only at hs
      split at hs
      · rename_i b1 b2 b3 b4 v hp
        obtain rfl := Option.some.inj hs
        obtain ⟨ls', st', hf1, hr1⟩ := sP_some hr
        obtain rfl := k2 2 rfl
        exact zr_ldc hx hb hown (hts _ (hE idx _ hp)) hd hf1 (nx ls' st' h H locs cells slots hr1 hle hc hsl hSt)
      · rename_i a b1 hp
        obtain rfl := Option.some.inj hs
        obtain ⟨ls', st', hf1, hr1⟩ := sP_some hr
        obtain rfl := k2 2 rfl
        obtain ⟨ho, i0, q0, e1, e2, e3⟩ := hE idx _ hp
        have hv := hKF.2.2.2.1 i0 q0 e2
        rw [e3, ← ho, ← e1] at hv
        have hz : zrho base cst a = cst a := by unfold zrho; rw [if_neg (by rw [e1]; unfold zK1 zK0; omega)]
        exact zr_ldcS hx hb hown (by rw [hz]; exact hv) hd hf1 (nx ls' st' h H locs cells slots hr1 hle hc hsl hSt)
      · cases hs
  | ldc_w idx =>
    cases hs : zsem zTb (zlk ((zPls[q.1]?).getD [])) (ztg q.2.2.2 pc) q.2.2.1 (.ldc_w idx) with
    | none => rw [hs] at hr; cases hr
    | some s0 =>
      rw [hs] at hr
      have hr : s0 (zrF zP zNL n M (i + 1)) (zrF zP zNL n M) (fun m as h => zrF zP zNL n m 0 (zen (zNL m) as) [] h) ls st h = some (r, hf) := hr
      unfold zsem at hs
      dsimp only at hs
      split at hs
      · rename_i b1 b2 b3 b4 v hp
        obtain rfl := Option.some.inj hs
        obtain ⟨ls', st', hf1, hr1⟩ := sP_some hr
        obtain rfl := k2 3 rfl
        exact zr_ldcw hx hb hown (hts _ (hE idx _ hp)) hd hf1 (nx ls' st' h H locs cells slots hr1 hle hc hsl hSt)
      · cases hs
  | ldc2_w idx =>
    cases hs : zsem zTb (zlk ((zPls[q.1]?).getD [])) (ztg q.2.2.2 pc) q.2.2.1 (.ldc2_w idx) with
    | none => rw [hs] at hr; cases hr
    | some s0 =>
      rw [hs] at hr
      have hr : s0 (zrF zP zNL n M (i + 1)) (zrF zP zNL n M) (fun m as h => zrF zP zNL n m 0 (zen (zNL m) as) [] h) ls st h = some (r, hf) := hr
      unfold zsem at hs
      dsimp only at hs
      split at hs
      · rename_i b1 b2 b3 b4 v hp
        obtain rfl := Option.some.inj hs
        obtain ⟨ls', st', hf1, hr1⟩ := sP_some hr
        obtain rfl := k2 3 rfl
        exact zr_ldc2 hx hb hown (hts _ (hE idx _ hp)) hd hf1 (nx ls' st' h H locs cells slots hr1 hle hc hsl hSt)
      · cases hs
  | getfield idx =>
    cases hs : zsem zTb (zlk ((zPls[q.1]?).getD [])) (ztg q.2.2.2 pc) q.2.2.1 (.getfield idx) with
    | none => rw [hs] at hr; cases hr
    | some s0 =>
      rw [hs] at hr
      have hr : s0 (zrF zP zNL n M (i + 1)) (zrF zP zNL n M) (fun m as h => zrF zP zNL n m 0 (zen (zNL m) as) [] h) ls st h = some (r, hf) := hr
      unfold zsem at hs
      dsimp only at hs
      split at hs
      · rename_i k b1 hp
        obtain rfl := Option.some.inj hs
        obtain ⟨x, st', hf1, hr1⟩ := sRI_some hr
        obtain rfl := k2 3 rfl
        exact zr_getI hx hb hts hown hK (hE idx _ hp) hSt hd hf1 (nx ls _ h H locs cells slots hr1 hle hc hsl hSt)
      · rename_i k b1 hp
        obtain rfl := Option.some.inj hs
        obtain ⟨x, st', hf1, hr1⟩ := sRI_some hr
        obtain rfl := k2 3 rfl
        exact zr_getI hx hb hts hown hK (hE idx _ hp) hSt hd hf1 (nx ls _ h H locs cells slots hr1 hle hc hsl hSt)
      · rename_i k b1 hp
        obtain rfl := Option.some.inj hs
        obtain ⟨x, st', hf1, hr1⟩ := sRR_some hr
        obtain rfl := k2 3 rfl
        exact zr_getR hx hb hts hown hK (hE idx _ hp) hSt hd hf1 (nx ls _ h H locs cells slots hr1 hle hc hsl hSt)
      · cases hs
  | putfield idx =>
    cases hs : zsem zTb (zlk ((zPls[q.1]?).getD [])) (ztg q.2.2.2 pc) q.2.2.1 (.putfield idx) with
    | none => rw [hs] at hr; cases hr
    | some s0 =>
      rw [hs] at hr
      have hr : s0 (zrF zP zNL n M (i + 1)) (zrF zP zNL n M) (fun m as h => zrF zP zNL n m 0 (zen (zNL m) as) [] h) ls st h = some (r, hf) := hr
      unfold zsem at hs
      dsimp only at hs
      split at hs
      · rename_i k b1 hp
        obtain rfl := Option.some.inj hs
        obtain ⟨h', st', hf1, hr1⟩ := sWr_some hr
        obtain rfl := k2 3 rfl
        have he := zeq_wFI _ _ _ _ _ hf1 rfl
        exact zr_putI hx hb hts hown hK (zPok_name hnm (k4 0 k b1 hp)) hSt hd hf1 (fun H1 locs1 hS1 => nx ls st' h' H1 locs1 cells slots hr1 ⟨by rw [he.1]; exact hle.1, by rw [he.2]; exact hle.2⟩ (by rw [he.1]; exact hc) (by rw [he.2]; exact hsl) hS1)
      · rename_i k b1 hp
        obtain rfl := Option.some.inj hs
        obtain ⟨h', st', hf1, hr1⟩ := sWr_some hr
        obtain rfl := k2 3 rfl
        have he := zeq_wFZ _ _ _ _ _ hf1 rfl
        exact zr_putZ hx hb hts hown hK (zPok_name hnm (k4 2 k b1 hp)) hSt hd hf1 (fun H1 locs1 hS1 => nx ls st' h' H1 locs1 cells slots hr1 ⟨by rw [he.1]; exact hle.1, by rw [he.2]; exact hle.2⟩ (by rw [he.1]; exact hc) (by rw [he.2]; exact hsl) hS1)
      · rename_i k b1 hp
        obtain rfl := Option.some.inj hs
        obtain ⟨h', st', hf1, hr1⟩ := sWr_some hr
        obtain rfl := k2 3 rfl
        have he := zeq_wFR _ _ _ _ _ hf1 rfl
        exact zr_putR hx hb hts hown hK (zPok_name hnm (k4 1 k b1 hp)) hSt hd hf1 (fun H1 locs1 hS1 => nx ls st' h' H1 locs1 cells slots hr1 ⟨by rw [he.1]; exact hle.1, by rw [he.2]; exact hle.2⟩ (by rw [he.1]; exact hc) (by rw [he.2]; exact hsl) hS1)
      · cases hs
  | getstatic idx =>
    cases hs : zsem zTb (zlk ((zPls[q.1]?).getD [])) (ztg q.2.2.2 pc) q.2.2.1 (.getstatic idx) with
    | none => rw [hs] at hr; cases hr
    | some s0 =>
      rw [hs] at hr
      have hr : s0 (zrF zP zNL n M (i + 1)) (zrF zP zNL n M) (fun m as h => zrF zP zNL n m 0 (zen (zNL m) as) [] h) ls st h = some (r, hf) := hr
      unfold zsem at hs
      dsimp only at hs
      split at hs
      · rename_i a b1 hp
        obtain rfl := Option.some.inj hs
        obtain ⟨ls', st', hf1, hr1⟩ := sP_some hr
        obtain rfl := k2 3 rfl
        obtain ⟨i0, nm0, e1, e2, e3⟩ := hE idx _ hp
        obtain ⟨rfl, rfl⟩ := Prod.mk.inj (Option.some.inj hf1)
        have hz : zrho base cst a = cst (1000002 + i0) := by unfold zrho; rw [if_neg (by rw [e1]; unfold zK0; omega), e1]
        intro L hL
        have h9 := nx ls _ h H locs cells slots hr1 hle hc hsl hSt L hL
        obtain ⟨ws, hP, hD, hA, hzz, hV⟩ := hSt
        refine va_gets hx hb (hKF.2.2.2.2.1 i0 nm0 e2) hV hown (hts _ e3) (fun _ h => h) hd ?_
        rw [← hz]
        exact h9
      · cases hs
  | new idx =>
    cases hs : zsem zTb (zlk ((zPls[q.1]?).getD [])) (ztg q.2.2.2 pc) q.2.2.1 (.new idx) with
    | none => rw [hs] at hr; cases hr
    | some s0 =>
      rw [hs] at hr
      have hr : s0 (zrF zP zNL n M (i + 1)) (zrF zP zNL n M) (fun m as h => zrF zP zNL n m 0 (zen (zNL m) as) [] h) ls st h = some (r, hf) := hr
      unfold zsem at hs
      dsimp only at hs
      split at hs
      · rename_i C b1 hp
        obtain rfl := Option.some.inj hs
        have hr1 : zrF zP zNL n M (i + 1) ls (.inr (.inr (some (hN h))) :: st) (znO zTb C h) = some (r, hf) := hr
        obtain rfl := k2 3 rfl
        have g := zrF_gr _ _ _ _ _ _ _ hr1
        have g1 : hN h + 1 ≤ hN hf := g.1
        have g2 : hS h + ((zTb[C]?).getD []).length ≤ hS hf := g.2
        have l1 := hle.1
        have l2 := hle.2
        exact zr_new hx hb hts hown hK (hE idx _ hp) hbase hSt (by omega) (by omega) (by omega) hd (fun H1 hS1 => nx ls _ (znO zTb C h) H1 locs _ _ hr1 ⟨Nat.le_trans hle.1 (Nat.le_succ _), Nat.le_trans hle.2 (Nat.le_add_right _ _)⟩ (by show cells + 1 = hN h + 1 - hN h0; omega) (by show slots + _ = hS h + _ - hS h0; omega) hS1)
      · cases hs
  | anewarray idx =>
    cases hs : zsem zTb (zlk ((zPls[q.1]?).getD [])) (ztg q.2.2.2 pc) q.2.2.1 (.anewarray idx) with
    | none => rw [hs] at hr; cases hr
    | some s0 =>
      rw [hs] at hr
      have hr : s0 (zrF zP zNL n M (i + 1)) (zrF zP zNL n M) (fun m as h => zrF zP zNL n m 0 (zen (zNL m) as) [] h) ls st h = some (r, hf) := hr
      unfold zsem at hs
      dsimp only at hs
      split at hs
      · rename_i C b1 hp
        obtain rfl := Option.some.inj hs
        obtain ⟨x, s1, k, rfl, hl, hr1⟩ := sNA_some hr
        obtain rfl := k2 3 rfl
        have g := zrF_gr _ _ _ _ _ _ _ hr1
        have g1 : hN h + 1 ≤ hN hf := g.1
        have g2 : hS h + k ≤ hS hf := g.2
        have l1 := hle.1
        have l2 := hle.2
        obtain ⟨k6, k7⟩ := k4 C b1 hp
        obtain ⟨Cn, T, N, ty, q1, q2, q3, q4, q5⟩ := hE idx _ hp
        exact zr_newq hx hb hts hown hK (hTys.2.2.2 C k6) q1 q4 (hKF.2.2.1 _ (k7 _ q1)) hbase hSt (by omega) hl (by omega) (by omega) hd (fun H1 hS1 => nx ls _ (znQ C k h) H1 locs _ _ hr1 ⟨Nat.le_trans hle.1 (Nat.le_succ _), Nat.le_trans hle.2 (Nat.le_add_right _ _)⟩ (by show cells + 1 = hN h + 1 - hN h0; omega) (by show slots + _ = hS h + _ - hS h0; omega) hS1)
      · cases hs
  | newarray at_ =>
    cases at_ with
    | int =>
      have hr : sNA (znA 0) (zrF zP zNL n M (i + 1)) (zrF zP zNL n M) (fun m as h => zrF zP zNL n m 0 (zen (zNL m) as) [] h) ls st h = some (r, hf) := hr
      obtain ⟨x, s1, k, rfl, hl, hr1⟩ := sNA_some hr
      obtain rfl := k2 2 rfl
      have g := zrF_gr _ _ _ _ _ _ _ hr1
      have g1 : hN h + 1 ≤ hN hf := g.1
      have g2 : hS h + k ≤ hS hf := g.2
      have l1 := hle.1
      have l2 := hle.2
      exact zr_newa (ty := .int) hx hb hts hK rfl hTys.1 rfl hg.2.2.2.2.1 rfl (by decide) (fun _ _ h => h) hbase hSt (by omega) hl (by omega) (by omega) hd (fun H1 hS1 => nx ls _ (znA 0 k h) H1 locs _ _ hr1 ⟨Nat.le_trans hle.1 (Nat.le_succ _), Nat.le_trans hle.2 (Nat.le_add_right _ _)⟩ (by show cells + 1 = hN h + 1 - hN h0; omega) (by show slots + _ = hS h + _ - hS h0; omega) hS1)
    | byte =>
      have hr : sNA (znA 1) (zrF zP zNL n M (i + 1)) (zrF zP zNL n M) (fun m as h => zrF zP zNL n m 0 (zen (zNL m) as) [] h) ls st h = some (r, hf) := hr
      obtain ⟨x, s1, k, rfl, hl, hr1⟩ := sNA_some hr
      obtain rfl := k2 2 rfl
      have g := zrF_gr _ _ _ _ _ _ _ hr1
      have g1 : hN h + 1 ≤ hN hf := g.1
      have g2 : hS h + k ≤ hS hf := g.2
      have l1 := hle.1
      have l2 := hle.2
      exact zr_newa (ty := .byte) hx hb hts hK rfl hTys.2.1 rfl hg.2.2.2.2.2.1 rfl (by decide) (fun _ _ h => h) hbase hSt (by omega) hl (by omega) (by omega) hd (fun H1 hS1 => nx ls _ (znA 1 k h) H1 locs _ _ hr1 ⟨Nat.le_trans hle.1 (Nat.le_succ _), Nat.le_trans hle.2 (Nat.le_add_right _ _)⟩ (by show cells + 1 = hN h + 1 - hN h0; omega) (by show slots + _ = hS h + _ - hS h0; omega) hS1)
    | boolean =>
      have hr : sNA (znA 2) (zrF zP zNL n M (i + 1)) (zrF zP zNL n M) (fun m as h => zrF zP zNL n m 0 (zen (zNL m) as) [] h) ls st h = some (r, hf) := hr
      obtain ⟨x, s1, k, rfl, hl, hr1⟩ := sNA_some hr
      obtain rfl := k2 2 rfl
      have g := zrF_gr _ _ _ _ _ _ _ hr1
      have g1 : hN h + 1 ≤ hN hf := g.1
      have g2 : hS h + k ≤ hS hf := g.2
      have l1 := hle.1
      have l2 := hle.2
      exact zr_newa (ty := .boolean) hx hb hts hK rfl hTys.2.2.1 rfl hg.2.2.2.2.2.2 rfl (by decide) (fun _ _ h => h) hbase hSt (by omega) hl (by omega) (by omega) hd (fun H1 hS1 => nx ls _ (znA 2 k h) H1 locs _ _ hr1 ⟨Nat.le_trans hle.1 (Nat.le_succ _), Nat.le_trans hle.2 (Nat.le_add_right _ _)⟩ (by show cells + 1 = hN h + 1 - hN h0; omega) (by show slots + _ = hS h + _ - hS h0; omega) hS1)
    | _ => exact absurd hr (fun z => nomatch z)
  | if_icmp cd off =>
    have hr : sBr (c2 (zcI cd)) (ztg q.2.2.2 pc off) (zrF zP zNL n M (i + 1)) (zrF zP zNL n M) (fun m as h => zrF zP zNL n m 0 (zen (zNL m) as) [] h) ls st h = some (r, hf) := hr
    obtain ⟨b, st', hf1, ht1, hf2⟩ := sBr_some hr
    obtain rfl := k2 3 rfl
    cases b with
    | true =>
      obtain ⟨tgt, g1, g2⟩ := jp off ls st' h H locs cells slots (ht1 rfl) hle hc hsl hSt
      exact zr_icmp hx hb hd g1 hf1 (fun _ => g2) (fun z => by cases z)
    | false =>
      have k6 := k5 off rfl
      exact zr_icmp (tgt := ((pc : Int) + off).toNat) hx hb hd (by omega) hf1 (fun z => by cases z) (fun _ => nx ls st' h H locs cells slots (hf2 rfl) hle hc hsl hSt)
  | ifCond cd off =>
    have hr : sBr (c1 (zc0 cd)) (ztg q.2.2.2 pc off) (zrF zP zNL n M (i + 1)) (zrF zP zNL n M) (fun m as h => zrF zP zNL n m 0 (zen (zNL m) as) [] h) ls st h = some (r, hf) := hr
    obtain ⟨b, st', hf1, ht1, hf2⟩ := sBr_some hr
    obtain rfl := k2 3 rfl
    cases b with
    | true =>
      obtain ⟨tgt, g1, g2⟩ := jp off ls st' h H locs cells slots (ht1 rfl) hle hc hsl hSt
      exact zr_ifc hx hb hd g1 hf1 (fun _ => g2) (fun z => by cases z)
    | false =>
      have k6 := k5 off rfl
      exact zr_ifc (tgt := ((pc : Int) + off).toNat) hx hb hd (by omega) hf1 (fun z => by cases z) (fun _ => nx ls st' h H locs cells slots (hf2 rfl) hle hc hsl hSt)
  | ifnull off =>
    have hr : sBr (cN (fun r => r.isNone)) (ztg q.2.2.2 pc off) (zrF zP zNL n M (i + 1)) (zrF zP zNL n M) (fun m as h => zrF zP zNL n m 0 (zen (zNL m) as) [] h) ls st h = some (r, hf) := hr
    obtain ⟨b, st', hf1, ht1, hf2⟩ := sBr_some hr
    obtain rfl := k2 3 rfl
    cases b with
    | true =>
      obtain ⟨tgt, g1, g2⟩ := jp off ls st' h H locs cells slots (ht1 rfl) hle hc hsl hSt
      exact zr_ifnull hx hb hd g1 hf1 (fun _ => g2) (fun z => by cases z)
    | false =>
      have k6 := k5 off rfl
      exact zr_ifnull (tgt := ((pc : Int) + off).toNat) hx hb hd (by omega) hf1 (fun z => by cases z) (fun _ => nx ls st' h H locs cells slots (hf2 rfl) hle hc hsl hSt)
  | ifnonnull off =>
    have hr : sBr (cN (fun r => r.isSome)) (ztg q.2.2.2 pc off) (zrF zP zNL n M (i + 1)) (zrF zP zNL n M) (fun m as h => zrF zP zNL n m 0 (zen (zNL m) as) [] h) ls st h = some (r, hf) := hr
    obtain ⟨b, st', hf1, ht1, hf2⟩ := sBr_some hr
    obtain rfl := k2 3 rfl
    cases b with
    | true =>
      obtain ⟨tgt, g1, g2⟩ := jp off ls st' h H locs cells slots (ht1 rfl) hle hc hsl hSt
      exact zr_ifnonnull hx hb hd g1 hf1 (fun _ => g2) (fun z => by cases z)
    | false =>
      have k6 := k5 off rfl
      exact zr_ifnonnull (tgt := ((pc : Int) + off).toNat) hx hb hd (by omega) hf1 (fun z => by cases z) (fun _ => nx ls st' h H locs cells slots (hf2 rfl) hle hc hsl hSt)
  | goto off =>
    have hr : zrF zP zNL n M (ztg q.2.2.2 pc off) ls st h = some (r, hf) := hr
    obtain ⟨tgt, g1, g2⟩ := jp off ls st h H locs cells slots hr hle hc hsl hSt
    obtain rfl := k2 3 rfl
    exact zr_goto hx hb hd g1 g2
  | tableswitch d lo hi offs =>
    have hr : sSw (offs.toList.zipIdx.map (fun x => (lo + (x.2 : Int), ztg q.2.2.2 pc x.1))) (ztg q.2.2.2 pc d) (zrF zP zNL n M (i + 1)) (zrF zP zNL n M) (fun m as h => zrF zP zNL n m 0 (zen (zNL m) as) [] h) ls st h = some (r, hf) := hr
    obtain ⟨x, s1, rfl, hr1⟩ := sSw_some hr
    exact zr_table hx hb hd k1.1 k1.2.1 k1.2.2 (tg := ztg q.2.2.2 pc) (fun off ho => jp off ls s1 h H locs cells slots (by rw [← ho]; exact hr1) hle hc hsl hSt)
  | lookupswitch d ps =>
    have hr : sSw (ps.toList.map (fun x => (x.1, ztg q.2.2.2 pc x.2))) (ztg q.2.2.2 pc d) (zrF zP zNL n M (i + 1)) (zrF zP zNL n M) (fun m as h => zrF zP zNL n m 0 (zen (zNL m) as) [] h) ls st h = some (r, hf) := hr
    obtain ⟨x, s1, rfl, hr1⟩ := sSw_some hr
    exact zr_look hx hb hd k1.1 k1.2 (tg := ztg q.2.2.2 pc) (fun off ho => jp off ls s1 h H locs cells slots (by rw [← ho]; exact hr1) hle hc hsl hSt)
  | ireturn =>
    cases hz : q.2.2.1 with
    | true =>
      rw [hz] at hr
      have hr : sRz (zrF zP zNL n M (i + 1)) (zrF zP zNL n M) (fun m as h => zrF zP zNL n m 0 (zen (zNL m) as) [] h) ls st h = some (r, hf) := hr
      unfold sRz at hr
      split at hr
      · rename_i x
        unfold zrz at hr
        split at hr
        · rename_i hx01
          obtain ⟨rfl, rfl⟩ := Prod.mk.inj (Option.some.inj hr)
          obtain rfl := k2 1 rfl
          have k4 : (if q.2.2.1 = true then mt.2.2.1 = some .boolean else mt.2.2.1 = some .int) := k4
          rw [if_pos hz] at k4
          intro L hL
          subst hc hsl
          obtain ⟨ws, hP, hD, hA, hzz, hV⟩ := id hSt
          have hq9 := hQ H locs hSt
          rw [k4] at hq9 hret
          exact W.zret hx hb hret (by rcases hx01 with rfl | rfl <;> decide) hq9 hV.2.2 hd hlk
        · cases hr
      · cases hr
    | false =>
      rw [hz] at hr
      have hr : sRet rI (zrF zP zNL n M (i + 1)) (zrF zP zNL n M) (fun m as h => zrF zP zNL n m 0 (zen (zNL m) as) [] h) ls st h = some (r, hf) := hr
      obtain ⟨g1, rfl⟩ := sRet_some hr
      unfold rI at g1
      split at g1
      · rename_i x
        obtain rfl := Option.some.inj g1
        obtain rfl := k2 1 rfl
        have k4 : (if q.2.2.1 = true then mt.2.2.1 = some .boolean else mt.2.2.1 = some .int) := k4
        rw [if_neg (by rw [hz]; decide)] at k4
        intro L hL
        subst hc hsl
        obtain ⟨ws, hP, hD, hA, hzz, hV⟩ := id hSt
        have hq9 := hQ H locs hSt
        rw [k4] at hq9 hret
        exact W.iret hx hb hret hq9 hV.2.2 hd hlk
      · cases g1
  | lreturn =>
    have hr : sRet rL (zrF zP zNL n M (i + 1)) (zrF zP zNL n M) (fun m as h => zrF zP zNL n m 0 (zen (zNL m) as) [] h) ls st h = some (r, hf) := hr
    obtain ⟨g1, rfl⟩ := sRet_some hr
    unfold rL at g1
    split at g1
    · rename_i x
      obtain rfl := Option.some.inj g1
      obtain rfl := k2 1 rfl
      have k4 : mt.2.2.1 = some .long := k4
      intro L hL
      subst hc hsl
      obtain ⟨ws, hP, hD, hA, hzz, hV⟩ := id hSt
      have hq9 := hQ H locs hSt
      rw [k4] at hq9 hret
      exact W.lret hx hb hret hq9 hV.2.2 hd hlk
    · cases g1
  | areturn =>
    have hr : sRet rR (zrF zP zNL n M (i + 1)) (zrF zP zNL n M) (fun m as h => zrF zP zNL n m 0 (zen (zNL m) as) [] h) ls st h = some (r, hf) := hr
    obtain ⟨g1, rfl⟩ := sRet_some hr
    obtain ⟨x, rfl, rfl⟩ := rR_some g1
    · obtain rfl := k2 1 rfl
      obtain ⟨rt, k6, k7⟩ := k4
      intro L hL
      subst hc hsl
      obtain ⟨ws, hP, hD, hA, hzz, hV⟩ := id hSt
      have hq9 := hQ H locs hSt
      rw [k6] at hq9 hret
      exact W.aret hx hb hret k7 (by cases x with | none => exact Or.inl rfl | some a => exact Or.inr ⟨_, rfl⟩) hq9 hV.2.2 hd hlk
  | return_ =>
    have hr : sRet rV (zrF zP zNL n M (i + 1)) (zrF zP zNL n M) (fun m as h => zrF zP zNL n m 0 (zen (zNL m) as) [] h) ls st h = some (r, hf) := hr
    obtain ⟨g1, rfl⟩ := sRet_some hr
    unfold rV at g1
    split at g1
    · obtain rfl := Option.some.inj g1
      obtain rfl := k2 1 rfl
      have k4 : mt.2.2.1 = none := k4
      intro L hL
      subst hc hsl
      obtain ⟨ws, hP, hD, hA, hzz, hV⟩ := id hSt
      have hq9 := hQ H locs hSt
      rw [k4] at hq9 hret
      exact W.vret hx hb hret hq9 hV.2.2 hd hlk
    · cases g1
  | invokestatic idx =>
    cases hp : zlk ((zPls[q.1]?).getD []) idx with
    | none =>
      have hz : zsem zTb (zlk ((zPls[q.1]?).getD [])) (ztg q.2.2.2 pc) q.2.2.1 (.invokestatic idx) = none := by unfold zsem; dsimp only; rw [hp]
      rw [hz] at hr; cases hr
    | some en =>
      have hz : zsem zTb (zlk ((zPls[q.1]?).getD [])) (ztg q.2.2.2 pc) q.2.2.1 (.invokestatic idx) = zsCall en := by unfold zsem; dsimp only; rw [hp]
      rw [hz] at hr
      cases hs : zsCall en with
      | none => rw [hs] at hr; cases hr
      | some s0 =>
        rw [hs] at hr
        have hr : s0 (zrF zP zNL n M (i + 1)) (zrF zP zNL n M) (fun m as h => zrF zP zNL n m 0 (zen (zNL m) as) [] h) ls st h = some (r, hf) := hr
        obtain rfl := k2 3 rfl
        have k6 := k4 en hp
        have hEn := hE idx en hp
        unfold zsCall at hs
        split at hs
        · rename_i m' n' c v
          obtain rfl := Option.some.inj hs
          unfold sCV at hr
          split at hr
          · rename_i qq hq
            obtain ⟨as, q2⟩ := qq
            cases hbb : (Nat.ble (zcs q2) 8 && Nat.ble (zcs as) v.toNat) with
            | false => simp only [hbb] at hr; cases hr
            | true =>
              simp only [hbb] at hr
              have hr2 : zbV _ _ = some (r, hf) := hr
              clear hr
              obtain ⟨hb1, hb2⟩ := Bool.and_eq_true_iff.mp hbb
              have hb1 := Nat.le_of_ble_eq_true hb1
              have hb2 := Nat.le_of_ble_eq_true hb2
              unfold zbV at hr2
              split at hr2
              · rename_i x h1 hcc
                obtain ⟨mt', c1, c2, c3⟩ := hEn
                have hgr2 := zrF_gr _ _ _ _ _ _ _ hr2
                obtain ⟨k7, k8⟩ := k6.1 m' n' 0 c v rfl
                subst k7
                have hrun := zok_some hcc
                have hgr1 := zrF_gr _ _ _ _ _ _ _ hrun
                have g1 := hgr1.1
                have g2 := hgr1.2
                have g3 := hgr2.1
                have g4 := hgr2.2
                have l1 := hle.1
                have l2 := hle.2
                obtain ⟨f1, f2⟩ := k8 mt' c1
                refine zr_callS hMe hx hb hml hts hown hK hKF c3 (x := x) (h1 := h1) ⟨c1, hrun, by dsimp only at g3; omega, by rw [← c2]; exact hb2, ⟨by omega, by omega⟩, by dsimp only at g1 g2 g3 g4; omega, by dsimp only at g1 g2 g3 g4; omega⟩ hSt hq hb1 hd (st2 := q2) ?_ (fun H1 locs1 hS1 => nx ls _ h1 H1 locs1 _ _ hr2 (hle.tr hgr1) (by dsimp only at g1; omega) (by dsimp only at g2; omega) hS1)
                obtain ⟨-, -, -, r1, r2, -⟩ := c3
                rw [r1 rfl]; rfl
              · cases hr2
          · cases hr
        · rename_i m' n' c v
          obtain rfl := Option.some.inj hs
          unfold sCI at hr
          split at hr
          · rename_i qq hq
            obtain ⟨as, q2⟩ := qq
            cases hbb : (Nat.ble (zcs q2) 8 && Nat.ble (zcs as) v.toNat) with
            | false => simp only [hbb] at hr; cases hr
            | true =>
              simp only [hbb] at hr
              have hr2 : zbI _ _ = some (r, hf) := hr
              clear hr
              obtain ⟨hb1, hb2⟩ := Bool.and_eq_true_iff.mp hbb
              have hb1 := Nat.le_of_ble_eq_true hb1
              have hb2 := Nat.le_of_ble_eq_true hb2
              unfold zbI at hr2
              split at hr2
              · rename_i x h1 hcc
                obtain ⟨mt', c1, c2, c3⟩ := hEn
                have hgr2 := zrF_gr _ _ _ _ _ _ _ hr2
                obtain ⟨k7, k8⟩ := k6.1 m' n' 1 c v rfl
                subst k7
                have hrun := zok_some hcc
                have hgr1 := zrF_gr _ _ _ _ _ _ _ hrun
                have g1 := hgr1.1
                have g2 := hgr1.2
                have g3 := hgr2.1
                have g4 := hgr2.2
                have l1 := hle.1
                have l2 := hle.2
                obtain ⟨f1, f2⟩ := k8 mt' c1
                refine zr_callS hMe hx hb hml hts hown hK hKF c3 (x := .inl x) (h1 := h1) ⟨c1, hrun, by dsimp only at g3; omega, by rw [← c2]; exact hb2, ⟨by omega, by omega⟩, by dsimp only at g1 g2 g3 g4; omega, by dsimp only at g1 g2 g3 g4; omega⟩ hSt hq hb1 hd (st2 := .inl x :: q2) ?_ (fun H1 locs1 hS1 => nx ls _ h1 H1 locs1 _ _ hr2 (hle.tr hgr1) (by dsimp only at g1; omega) (by dsimp only at g2; omega) hS1)
                obtain ⟨-, -, -, r1, r2, -⟩ := c3
                cases hrt : mt'.2.2.1 with
                | none => have := r2 (by decide); rw [hrt] at this; cases this
                | some _ => rfl
              · cases hr2
          · cases hr
        · rename_i m' n' c v
          obtain rfl := Option.some.inj hs
          unfold sCL at hr
          split at hr
          · rename_i qq hq
            obtain ⟨as, q2⟩ := qq
            cases hbb : (Nat.ble (zcs q2) 8 && Nat.ble (zcs as) v.toNat) with
            | false => simp only [hbb] at hr; cases hr
            | true =>
              simp only [hbb] at hr
              have hr2 : zbL _ _ = some (r, hf) := hr
              clear hr
              obtain ⟨hb1, hb2⟩ := Bool.and_eq_true_iff.mp hbb
              have hb1 := Nat.le_of_ble_eq_true hb1
              have hb2 := Nat.le_of_ble_eq_true hb2
              unfold zbL at hr2
              split at hr2
              · rename_i x h1 hcc
                obtain ⟨mt', c1, c2, c3⟩ := hEn
                have hgr2 := zrF_gr _ _ _ _ _ _ _ hr2
                obtain ⟨k7, k8⟩ := k6.1 m' n' 2 c v rfl
                subst k7
                have hrun := zok_some hcc
                have hgr1 := zrF_gr _ _ _ _ _ _ _ hrun
                have g1 := hgr1.1
                have g2 := hgr1.2
                have g3 := hgr2.1
                have g4 := hgr2.2
                have l1 := hle.1
                have l2 := hle.2
                obtain ⟨f1, f2⟩ := k8 mt' c1
                refine zr_callS hMe hx hb hml hts hown hK hKF c3 (x := .inr (.inl x)) (h1 := h1) ⟨c1, hrun, by dsimp only at g3; omega, by rw [← c2]; exact hb2, ⟨by omega, by omega⟩, by dsimp only at g1 g2 g3 g4; omega, by dsimp only at g1 g2 g3 g4; omega⟩ hSt hq hb1 hd (st2 := .inr (.inl x) :: q2) ?_ (fun H1 locs1 hS1 => nx ls _ h1 H1 locs1 _ _ hr2 (hle.tr hgr1) (by dsimp only at g1; omega) (by dsimp only at g2; omega) hS1)
                obtain ⟨-, -, -, r1, r2, -⟩ := c3
                cases hrt : mt'.2.2.1 with
                | none => have := r2 (by decide); rw [hrt] at this; cases this
                | some _ => rfl
              · cases hr2
          · cases hr
        · rename_i m' n' c v
          obtain rfl := Option.some.inj hs
          unfold sCR at hr
          split at hr
          · rename_i qq hq
            obtain ⟨as, q2⟩ := qq
            cases hbb : (Nat.ble (zcs q2) 8 && Nat.ble (zcs as) v.toNat) with
            | false => simp only [hbb] at hr; cases hr
            | true =>
              simp only [hbb] at hr
              have hr2 : zbR _ _ = some (r, hf) := hr
              clear hr
              obtain ⟨hb1, hb2⟩ := Bool.and_eq_true_iff.mp hbb
              have hb1 := Nat.le_of_ble_eq_true hb1
              have hb2 := Nat.le_of_ble_eq_true hb2
              unfold zbR at hr2
              split at hr2
              · rename_i x h1 hcc
                obtain ⟨mt', c1, c2, c3⟩ := hEn
                have hgr2 := zrF_gr _ _ _ _ _ _ _ hr2
                obtain ⟨k7, k8⟩ := k6.1 m' n' 3 c v rfl
                subst k7
                have hrun := zok_some hcc
                have hgr1 := zrF_gr _ _ _ _ _ _ _ hrun
                have g1 := hgr1.1
                have g2 := hgr1.2
                have g3 := hgr2.1
                have g4 := hgr2.2
                have l1 := hle.1
                have l2 := hle.2
                obtain ⟨f1, f2⟩ := k8 mt' c1
                refine zr_callS hMe hx hb hml hts hown hK hKF c3 (x := .inr (.inr x)) (h1 := h1) ⟨c1, hrun, by dsimp only at g3; omega, by rw [← c2]; exact hb2, ⟨by omega, by omega⟩, by dsimp only at g1 g2 g3 g4; omega, by dsimp only at g1 g2 g3 g4; omega⟩ hSt hq hb1 hd (st2 := .inr (.inr x) :: q2) ?_ (fun H1 locs1 hS1 => nx ls _ h1 H1 locs1 _ _ hr2 (hle.tr hgr1) (by dsimp only at g1; omega) (by dsimp only at g2; omega) hS1)
                obtain ⟨-, -, -, r1, r2, -⟩ := c3
                cases hrt : mt'.2.2.1 with
                | none => have := r2 (by decide); rw [hrt] at this; cases this
                | some _ => rfl
              · cases hr2
          · cases hr
        · rename_i y9
          obtain rfl := Option.some.inj hs
          obtain ⟨h', st', hf1, hr1⟩ := sWr_some hr
          obtain ⟨d1, d2, d3, d4⟩ := hEn
          have he := zeq_wCp _ _ _ _ hf1 rfl
          exact zr_copy hx hb hml hts hown hK d1 d2 d3 d4 (by omega) (by omega) hSt hd hf1 (by rw [zcs_sum]; omega) (fun H1 locs1 hS1 => nx ls st' h' H1 locs1 cells slots hr1 ⟨by rw [he.1]; exact hle.1, by rw [he.2]; exact hle.2⟩ (by rw [he.1]; exact hc) (by rw [he.2]; exact hsl) hS1)
        · rename_i y9
          obtain rfl := Option.some.inj hs
          obtain ⟨ls', st', hf1, hr1⟩ := sP_some hr
          obtain ⟨d1, d2, d3, d4⟩ := hEn
          unfold fMM at hf1
          split at hf1
          · rename_i y x s1
            obtain ⟨hcs, hf1⟩ := zk8_some hf1
            obtain ⟨rfl, rfl⟩ := Prod.mk.inj (Option.some.inj hf1)
            intro L hL
            have l1 := hle.1
            have l2 := hle.2
            have hgr := zrF_gr _ _ _ _ _ _ _ hr1
            have g1 := hgr.1
            have g2 := hgr.2
            dsimp only at g1 g2
            exact va_mmax hx hb (by rw [hml]; exact hL.2.1.symm) hown (hts _ d1) (hts _ d2) (hts _ d3) (hts _ d4) (by omega) (by rw [zcs_sum]; omega) (by omega) (by omega) hd (nx ls _ h H locs cells slots hr1 hle hc hsl hSt L hL)
          · cases hf1
        · rename_i y9
          obtain rfl := Option.some.inj hs
          obtain ⟨ls', st', hf1, hr1⟩ := sP_some hr
          obtain ⟨d1, d2, d3, d4⟩ := hEn
          unfold fMM at hf1
          split at hf1
          · rename_i y x s1
            obtain ⟨hcs, hf1⟩ := zk8_some hf1
            obtain ⟨rfl, rfl⟩ := Prod.mk.inj (Option.some.inj hf1)
            intro L hL
            have l1 := hle.1
            have l2 := hle.2
            have hgr := zrF_gr _ _ _ _ _ _ _ hr1
            have g1 := hgr.1
            have g2 := hgr.2
            dsimp only at g1 g2
            exact va_mmin hx hb (by rw [hml]; exact hL.2.1.symm) hown (hts _ d1) (hts _ d2) (hts _ d3) (hts _ d4) (by omega) (by rw [zcs_sum]; omega) (by omega) (by omega) hd (nx ls _ h H locs cells slots hr1 hle hc hsl hSt L hL)
          · cases hf1
        · exact absurd rfl k6.2.2.1
        · exact absurd rfl k6.2.2.2
        · exact absurd rfl k6.2.1
        · cases hs
  | invokevirtual idx =>
    cases hp : zlk ((zPls[q.1]?).getD []) idx with
    | none =>
      have hz : zsem zTb (zlk ((zPls[q.1]?).getD [])) (ztg q.2.2.2 pc) q.2.2.1 (.invokevirtual idx) = none := by unfold zsem; dsimp only; rw [hp]
      rw [hz] at hr; cases hr
    | some en =>
      have hz : zsem zTb (zlk ((zPls[q.1]?).getD [])) (ztg q.2.2.2 pc) q.2.2.1 (.invokevirtual idx) = zsCall en := by unfold zsem; dsimp only; rw [hp]
      rw [hz] at hr
      cases hs : zsCall en with
      | none => rw [hs] at hr; cases hr
      | some s0 =>
        rw [hs] at hr
        have hr : s0 (zrF zP zNL n M (i + 1)) (zrF zP zNL n M) (fun m as h => zrF zP zNL n m 0 (zen (zNL m) as) [] h) ls st h = some (r, hf) := hr
        obtain rfl := k2 3 rfl
        have k6 := k4 en hp
        have hEn := hE idx en hp
        unfold zsCall at hs
        split at hs
        · rename_i m' n' c v
          obtain rfl := Option.some.inj hs
          unfold sCV at hr
          split at hr
          · rename_i qq hq
            obtain ⟨as, q2⟩ := qq
            cases hbb : (Nat.ble (zcs q2) 8 && Nat.ble (zcs as) v.toNat) with
            | false => simp only [hbb] at hr; cases hr
            | true =>
              simp only [hbb] at hr
              have hr2 : zbV _ _ = some (r, hf) := hr
              clear hr
              obtain ⟨hb1, hb2⟩ := Bool.and_eq_true_iff.mp hbb
              have hb1 := Nat.le_of_ble_eq_true hb1
              have hb2 := Nat.le_of_ble_eq_true hb2
              unfold zbV at hr2
              split at hr2
              · rename_i x h1 hcc
                obtain ⟨mt', c1, c2, c3⟩ := hEn
                have hgr2 := zrF_gr _ _ _ _ _ _ _ hr2
                cases c with
                | zero => exact absurd rfl (k6.1 m' n' 0 0 v rfl).1
                | succ C =>
                  obtain ⟨a, as', ha, haC, hrun⟩ := zok_cls hcc
                  have hgr1 := zrF_gr _ _ _ _ _ _ _ hrun
                  have g1 := hgr1.1
                  have g2 := hgr1.2
                  have g3 := hgr2.1
                  have g4 := hgr2.2
                  have l1 := hle.1
                  have l2 := hle.2
                  obtain ⟨f0, f1, f2⟩ := (k6.1 m' n' 0 (C + 1) v rfl).2 mt' c1
                  refine zr_callV hMe hx hb hml hts hown hK hKF c3 f0 (x := x) (h1 := h1) ⟨c1, hrun, by dsimp only at g3; omega, by rw [← c2]; exact hb2, ⟨by omega, by omega⟩, by dsimp only at g1 g2 g3 g4; omega, by dsimp only at g1 g2 g3 g4; omega⟩ hSt hq hb1 ha haC hd (st2 := q2) ?_ (fun H1 locs1 hS1 => nx ls _ h1 H1 locs1 _ _ hr2 (hle.tr hgr1) (by dsimp only at g1; omega) (by dsimp only at g2; omega) hS1)
                  obtain ⟨-, -, -, r1, r2, -⟩ := c3
                  rw [r1 rfl]; rfl
              · cases hr2
          · cases hr
        · rename_i m' n' c v
          obtain rfl := Option.some.inj hs
          unfold sCI at hr
          split at hr
          · rename_i qq hq
            obtain ⟨as, q2⟩ := qq
            cases hbb : (Nat.ble (zcs q2) 8 && Nat.ble (zcs as) v.toNat) with
            | false => simp only [hbb] at hr; cases hr
            | true =>
              simp only [hbb] at hr
              have hr2 : zbI _ _ = some (r, hf) := hr
              clear hr
              obtain ⟨hb1, hb2⟩ := Bool.and_eq_true_iff.mp hbb
              have hb1 := Nat.le_of_ble_eq_true hb1
              have hb2 := Nat.le_of_ble_eq_true hb2
              unfold zbI at hr2
              split at hr2
              · rename_i x h1 hcc
                obtain ⟨mt', c1, c2, c3⟩ := hEn
                have hgr2 := zrF_gr _ _ _ _ _ _ _ hr2
                cases c with
                | zero => exact absurd rfl (k6.1 m' n' 1 0 v rfl).1
                | succ C =>
                  obtain ⟨a, as', ha, haC, hrun⟩ := zok_cls hcc
                  have hgr1 := zrF_gr _ _ _ _ _ _ _ hrun
                  have g1 := hgr1.1
                  have g2 := hgr1.2
                  have g3 := hgr2.1
                  have g4 := hgr2.2
                  have l1 := hle.1
                  have l2 := hle.2
                  obtain ⟨f0, f1, f2⟩ := (k6.1 m' n' 1 (C + 1) v rfl).2 mt' c1
                  refine zr_callV hMe hx hb hml hts hown hK hKF c3 f0 (x := .inl x) (h1 := h1) ⟨c1, hrun, by dsimp only at g3; omega, by rw [← c2]; exact hb2, ⟨by omega, by omega⟩, by dsimp only at g1 g2 g3 g4; omega, by dsimp only at g1 g2 g3 g4; omega⟩ hSt hq hb1 ha haC hd (st2 := .inl x :: q2) ?_ (fun H1 locs1 hS1 => nx ls _ h1 H1 locs1 _ _ hr2 (hle.tr hgr1) (by dsimp only at g1; omega) (by dsimp only at g2; omega) hS1)
                  obtain ⟨-, -, -, r1, r2, -⟩ := c3
                  cases hrt : mt'.2.2.1 with
                  | none => have := r2 (by decide); rw [hrt] at this; cases this
                  | some _ => rfl
              · cases hr2
          · cases hr
        · rename_i m' n' c v
          obtain rfl := Option.some.inj hs
          unfold sCL at hr
          split at hr
          · rename_i qq hq
            obtain ⟨as, q2⟩ := qq
            cases hbb : (Nat.ble (zcs q2) 8 && Nat.ble (zcs as) v.toNat) with
            | false => simp only [hbb] at hr; cases hr
            | true =>
              simp only [hbb] at hr
              have hr2 : zbL _ _ = some (r, hf) := hr
              clear hr
              obtain ⟨hb1, hb2⟩ := Bool.and_eq_true_iff.mp hbb
              have hb1 := Nat.le_of_ble_eq_true hb1
              have hb2 := Nat.le_of_ble_eq_true hb2
              unfold zbL at hr2
              split at hr2
              · rename_i x h1 hcc
                obtain ⟨mt', c1, c2, c3⟩ := hEn
                have hgr2 := zrF_gr _ _ _ _ _ _ _ hr2
                cases c with
                | zero => exact absurd rfl (k6.1 m' n' 2 0 v rfl).1
                | succ C =>
                  obtain ⟨a, as', ha, haC, hrun⟩ := zok_cls hcc
                  have hgr1 := zrF_gr _ _ _ _ _ _ _ hrun
                  have g1 := hgr1.1
                  have g2 := hgr1.2
                  have g3 := hgr2.1
                  have g4 := hgr2.2
                  have l1 := hle.1
                  have l2 := hle.2
                  obtain ⟨f0, f1, f2⟩ := (k6.1 m' n' 2 (C + 1) v rfl).2 mt' c1
                  refine zr_callV hMe hx hb hml hts hown hK hKF c3 f0 (x := .inr (.inl x)) (h1 := h1) ⟨c1, hrun, by dsimp only at g3; omega, by rw [← c2]; exact hb2, ⟨by omega, by omega⟩, by dsimp only at g1 g2 g3 g4; omega, by dsimp only at g1 g2 g3 g4; omega⟩ hSt hq hb1 ha haC hd (st2 := .inr (.inl x) :: q2) ?_ (fun H1 locs1 hS1 => nx ls _ h1 H1 locs1 _ _ hr2 (hle.tr hgr1) (by dsimp only at g1; omega) (by dsimp only at g2; omega) hS1)
                  obtain ⟨-, -, -, r1, r2, -⟩ := c3
                  cases hrt : mt'.2.2.1 with
                  | none => have := r2 (by decide); rw [hrt] at this; cases this
                  | some _ => rfl
              · cases hr2
          · cases hr
        · rename_i m' n' c v
          obtain rfl := Option.some.inj hs
          unfold sCR at hr
          split at hr
          · rename_i qq hq
            obtain ⟨as, q2⟩ := qq
            cases hbb : (Nat.ble (zcs q2) 8 && Nat.ble (zcs as) v.toNat) with
            | false => simp only [hbb] at hr; cases hr
            | true =>
              simp only [hbb] at hr
              have hr2 : zbR _ _ = some (r, hf) := hr
              clear hr
              obtain ⟨hb1, hb2⟩ := Bool.and_eq_true_iff.mp hbb
              have hb1 := Nat.le_of_ble_eq_true hb1
              have hb2 := Nat.le_of_ble_eq_true hb2
              unfold zbR at hr2
              split at hr2
              · rename_i x h1 hcc
                obtain ⟨mt', c1, c2, c3⟩ := hEn
                have hgr2 := zrF_gr _ _ _ _ _ _ _ hr2
                cases c with
                | zero => exact absurd rfl (k6.1 m' n' 3 0 v rfl).1
                | succ C =>
                  obtain ⟨a, as', ha, haC, hrun⟩ := zok_cls hcc
                  have hgr1 := zrF_gr _ _ _ _ _ _ _ hrun
                  have g1 := hgr1.1
                  have g2 := hgr1.2
                  have g3 := hgr2.1
                  have g4 := hgr2.2
                  have l1 := hle.1
                  have l2 := hle.2
                  obtain ⟨f0, f1, f2⟩ := (k6.1 m' n' 3 (C + 1) v rfl).2 mt' c1
                  refine zr_callV hMe hx hb hml hts hown hK hKF c3 f0 (x := .inr (.inr x)) (h1 := h1) ⟨c1, hrun, by dsimp only at g3; omega, by rw [← c2]; exact hb2, ⟨by omega, by omega⟩, by dsimp only at g1 g2 g3 g4; omega, by dsimp only at g1 g2 g3 g4; omega⟩ hSt hq hb1 ha haC hd (st2 := .inr (.inr x) :: q2) ?_ (fun H1 locs1 hS1 => nx ls _ h1 H1 locs1 _ _ hr2 (hle.tr hgr1) (by dsimp only at g1; omega) (by dsimp only at g2; omega) hS1)
                  obtain ⟨-, -, -, r1, r2, -⟩ := c3
                  cases hrt : mt'.2.2.1 with
                  | none => have := r2 (by decide); rw [hrt] at this; cases this
                  | some _ => rfl
              · cases hr2
          · cases hr
        · rcases k6.2 with z | ⟨z | z, -⟩ <;> cases z
        · rcases k6.2 with z | ⟨z | z, -⟩ <;> cases z
        · rcases k6.2 with z | ⟨z | z, -⟩ <;> cases z
        · rename_i y9
          obtain rfl := Option.some.inj hs
          obtain ⟨x, st', hf1, hr1⟩ := sRI_some hr
          obtain ⟨f1, f2⟩ : 6 ≤ mt.2.2.2.1 ∧ 200 ≤ mt.2.2.2.2 := by
            rcases k6.2 with z | ⟨-, z⟩
            · cases z
            · exact z
          have l1 := hle.1
          have l2 := hle.2
          have hgr := zrF_gr _ _ _ _ _ _ _ hr1
          have g1 := hgr.1
          have g2 := hgr.2
          dsimp only at g1 g2
          exact hSok p e R s m args below meth c H locs cells slots _ mt.2.1 pc q.2.1 ls st st' h mt.1.cls idx x hx hb hml hts hown hK hKF hSt (by omega) (by omega) (by omega) (by omega) hd (Or.inl ⟨hEn, hf1⟩) (nx ls _ h H locs cells slots hr1 hle hc hsl hSt)
        · rename_i y9
          obtain rfl := Option.some.inj hs
          obtain ⟨x, st', hf1, hr1⟩ := sRI_some hr
          obtain ⟨f1, f2⟩ : 6 ≤ mt.2.2.2.1 ∧ 200 ≤ mt.2.2.2.2 := by
            rcases k6.2 with z | ⟨-, z⟩
            · cases z
            · exact z
          have l1 := hle.1
          have l2 := hle.2
          have hgr := zrF_gr _ _ _ _ _ _ _ hr1
          have g1 := hgr.1
          have g2 := hgr.2
          dsimp only at g1 g2
          exact hSok p e R s m args below meth c H locs cells slots _ mt.2.1 pc q.2.1 ls st st' h mt.1.cls idx x hx hb hml hts hown hK hKF hSt (by omega) (by omega) (by omega) (by omega) hd (Or.inr ⟨hEn, hf1⟩) (nx ls _ h H locs cells slots hr1 hle hc hsl hSt)
        · rcases k6.2 with z | ⟨z | z, -⟩ <;> cases z
        · cases hs
  | invokespecial idx =>
    cases hp : zlk ((zPls[q.1]?).getD []) idx with
    | none =>
      have hz : zsem zTb (zlk ((zPls[q.1]?).getD [])) (ztg q.2.2.2 pc) q.2.2.1 (.invokespecial idx) = none := by unfold zsem; dsimp only; rw [hp]
      rw [hz] at hr; cases hr
    | some en =>
      have hz : zsem zTb (zlk ((zPls[q.1]?).getD [])) (ztg q.2.2.2 pc) q.2.2.1 (.invokespecial idx) = zsCall en := by unfold zsem; dsimp only; rw [hp]
      rw [hz] at hr
      cases hs : zsCall en with
      | none => rw [hs] at hr; cases hr
      | some s0 =>
        rw [hs] at hr
        have hr : s0 (zrF zP zNL n M (i + 1)) (zrF zP zNL n M) (fun m as h => zrF zP zNL n m 0 (zen (zNL m) as) [] h) ls st h = some (r, hf) := hr
        obtain rfl := k2 3 rfl
        have k6 := k4 en hp
        have hEn := hE idx en hp
        unfold zsCall at hs
        split at hs
        · rename_i m' n' c v
          obtain rfl := Option.some.inj hs
          unfold sCV at hr
          split at hr
          · rename_i qq hq
            obtain ⟨as, q2⟩ := qq
            cases hbb : (Nat.ble (zcs q2) 8 && Nat.ble (zcs as) v.toNat) with
            | false => simp only [hbb] at hr; cases hr
            | true =>
              simp only [hbb] at hr
              have hr2 : zbV _ _ = some (r, hf) := hr
              clear hr
              obtain ⟨hb1, hb2⟩ := Bool.and_eq_true_iff.mp hbb
              have hb1 := Nat.le_of_ble_eq_true hb1
              have hb2 := Nat.le_of_ble_eq_true hb2
              unfold zbV at hr2
              split at hr2
              · rename_i x h1 hcc
                obtain ⟨mt', c1, c2, c3⟩ := hEn
                have hgr2 := zrF_gr _ _ _ _ _ _ _ hr2
                obtain ⟨k7, k9, k8⟩ := k6.1 m' n' 0 c v rfl
                cases c with
                | zero => exact absurd rfl k7
                | succ C =>
                  obtain ⟨a, as', ha, haC, hrun⟩ := zok_cls hcc
                  have hgr1 := zrF_gr _ _ _ _ _ _ _ hrun
                  have g1 := hgr1.1
                  have g2 := hgr1.2
                  have g3 := hgr2.1
                  have g4 := hgr2.2
                  have l1 := hle.1
                  have l2 := hle.2
                  obtain ⟨f0, f1, f2⟩ := k8 mt' c1
                  exact zr_callI hMe hx hb hml hts hown hK hKF c3 f0 (x := x) (h1 := h1) ⟨c1, hrun, by dsimp only at g3; omega, by rw [← c2]; exact hb2, ⟨by omega, by omega⟩, by dsimp only at g1 g2 g3 g4; omega, by dsimp only at g1 g2 g3 g4; omega⟩ hSt hq hb1 ha hd (fun H1 locs1 hS1 => nx ls _ h1 H1 locs1 _ _ hr2 (hle.tr hgr1) (by dsimp only at g1; omega) (by dsimp only at g2; omega) hS1)
              · cases hr2
          · cases hr
        · rename_i m' n' c v
          obtain rfl := Option.some.inj hs
          exact absurd (k6.1 m' n' 1 c v rfl).2.1 (by decide)
        · rename_i m' n' c v
          obtain rfl := Option.some.inj hs
          exact absurd (k6.1 m' n' 2 c v rfl).2.1 (by decide)
        · rename_i m' n' c v
          obtain rfl := Option.some.inj hs
          exact absurd (k6.1 m' n' 3 c v rfl).2.1 (by decide)
        · rcases k6.2 with z | z <;> cases z
        · rcases k6.2 with z | z <;> cases z
        · rcases k6.2 with z | z <;> cases z
        · rcases k6.2 with z | z <;> cases z
        · rcases k6.2 with z | z <;> cases z
        · rename_i y9
          obtain rfl := Option.some.inj hs
          obtain ⟨ls', st', hf1, hr1⟩ := sP_some hr
          obtain ⟨d1, d2, d3⟩ := hEn
          unfold fObj at hf1
          split at hf1
          · rename_i a s1
            obtain ⟨hcs, hf1⟩ := zk8_some hf1
            obtain ⟨rfl, rfl⟩ := Prod.mk.inj (Option.some.inj hf1)
            intro L hL
            exact W.objInit hx hb hown (hts _ d1) (hts _ d2) (hts _ d3) rfl (by rw [hml]; exact hL.2.1) rfl hd (by omega) (by show 2 * 0 + _ + 12 ≤ _; rw [zcs_sum]; omega) (nx ls _ h H locs cells slots hr1 hle hc hsl hSt L hL)
          · cases hf1
        · cases hs
  | _ => exact absurd hr (fun z => nomatch z)
