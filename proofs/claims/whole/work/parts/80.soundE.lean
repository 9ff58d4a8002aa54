/-! every run that the abstract machine ends, the machine ends so -/
theorem zall {l : Launch} {base : Nat} {cst adV : Nat → Nat} {D : va_G} {tys : List (ClassId × FieldType)} {KA : Nat → Option (Nat × (Nat → Int32))} (hTys : zTys tys) (hG : ∀ M q mt, zMths[M]? = some q → zMetas[M]? = some mt → zGd M q mt ∧ plainName mt.1.cls = true) (hSok : zSok l base cst adV D tys KA) : ∀ n, zBd l base cst adV D tys KA n := by
  intro n
  induction n with
  | zero => intro M q mt hM hm i pc ins len hi p e R s m args below meth c hCx ls st h r hf h0 H locs cells slots Qc hr; cases hr
  | succ n ih => exact zstep hTys hG hSok ih (zmet_of hG ih)
theorem zforget {s t : State} {o : Outcome} {L : List Loc} {k n : Nat} (h : FrameEnd s o t L k n) (hL : ∀ q ∈ L, s.heap.size ≤ q.base) (k' n' : Nat) (hk : k ≤ k') (hn : n ≤ n') : Framed s o t [] k' n' := by
  obtain ⟨h1, h2, h3⟩ := h
  refine ⟨h1, h2, ?_⟩
  exact State.sameButNew.weaken h3 (fun y hy hlt => absurd hlt (Nat.not_lt.mpr (hL y hy))) hk hn
/-- the law: from its entry, if the abstract machine ends its law with 1 -/
theorem zlaw {p : Program} {e : Env} {s : State} {m : MethodId} {below : List Frame} {meth : Method} {c : Code} {l : Launch} {b : Nat} {cst adV : Nat → Nat} {D : va_G} {tys : List (ClassId × FieldType)} {KA : Nat → Option (Nat × (Nat → Int32))} (hTys : zTys tys) (hG : ∀ M q mt, zMths[M]? = some q → zMetas[M]? = some mt → zGd M q mt ∧ plainName mt.1.cls = true) (hSok : zSok l s.heap.size cst adV D tys KA) {M : Nat} {q : zMq} {mt : zMt} (hM : zMths[M]? = some q) (hm : zMetas[M]? = some mt) (hq : q.2.1 = 4) (hCx : zCx s.heap.size cst adV D tys KA p room_1 s m #[Value.ref b] meth c q mt) (hret : mt.2.2.1 = some .boolean) (hcb : cst 1000001 = b)
    {h0 hf : zHeap} (hr : zc M [zR (some 1000001)] h0 = some (zI 1, hf)) (hA : zAb s.heap.size cst tys KA h0 []) (hn0 : hN h0 = 0) (hs0 : hS h0 = 0) (h1 : hN hf ≤ 600000) (h2 : hS hf ≤ 7302250) :
    W p l e room_1 s m #[Value.ref b] below meth c s.heap [] 0 0 (lw_Z below #[Value.ref b] s) (entryFrame m ([Value.ref b] : List Value).toArray 4) := by
  have hlim := zrG_lim zP_C (NL := zNL) M 0 (zen (zNL M) [zR (some 1000001)]) [] h0
  obtain ⟨n, hn⟩ := (hlim.2 _).mp hr
  obtain ⟨pc, ins, len, hi⟩ := zrF_at hM hn
  obtain ⟨hg, -⟩ := hG M q mt hM hm
  obtain rfl := hg.2.1 pc ins len hi
  rw [zNL_eq hM, hq] at hn
  have hcv : ([zR (some 1000001)] : List zVal).map (zcv s.heap.size cst) = [Value.ref b] := by
    show [Value.ref (zrho s.heap.size cst 1000001)] = _
    unfold zrho zK0
    rw [if_neg (by omega), hcb]
  have hB := zall hTys hG hSok n M q mt hM hm 0 0 ins len hi p e room_1 s m #[Value.ref b] below meth c hCx (zen 4 [zR (some 1000001)]) [] h0 (zI 1) hf h0 s.heap [] 0 0 (fun _ _ o _ => o = .returned (some (.int 1))) hn (by unfold zK0; omega) zle.rf (by omega) (by omega) (by rw [hn0]; exact h1) (by rw [hs0]; exact h2) ⟨[], fun k q h => by simp at h, ⟨fun i j p q h => by simp at h, fun k q h => by simp at h⟩, hA, by omega, va_S.rf⟩ (fun H1 locs1 hS1 t ht hW => by rw [hret]; rfl)
  rw [hq] at hB
  have hE := hB _ (zLR_entry (base := s.heap.size) (cst := cst) (as := [zR (some 1000001)]) (nL := 4) (by decide))
  rw [hcv] at hE
  rw [lg_entry_eq]
  intro T hT X
  obtain ⟨t, a1, o, b1, b2, b3, L, b4, b5⟩ := hE T hT X
  exact ⟨t, a1, o, b1, b2, b3, zforget b4 b5 _ _ (by omega) (by omega)⟩
