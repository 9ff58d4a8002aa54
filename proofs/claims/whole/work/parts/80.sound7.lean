/-! made cells -/
def zfs (C : Nat) : List Value := ((zTb[C]?).getD []).map (fun t => if t = 1 then .int 0 else .null)
def zNok (own : String) (idx C : Nat) : Prop := ∃ (Cn : String) (T : u_T) (N : Nat) (ty : Nat → FieldType), vwCl[C]? = some (Cn, T, N) ∧ (∀ w ∈ u_ws Cn T N, w ∈ zT) ∧ (∀ j, j < N → parseFieldDescriptor (T j).2.2.1 = some (ty j)) ∧ Cond.classLink own idx Cn ∈ zT ∧ Cond.instantiable Cn N ∈ zT ∧ Cond.initialized Cn ∈ zT ∧ (∀ j, j < N → defaultValue (ty j) = vp_V (zfs C) j) ∧ N = ((zTb[C]?).getD []).length
/-- the sorts of rows that the tables know -/
def zTys (tys : List (ClassId × FieldType)) : Prop := (∃ c, tys[0]? = some (c, .int)) ∧ (∃ c, tys[1]? = some (c, .byte)) ∧ (∃ c, tys[2]? = some (c, .boolean)) ∧ ∀ C ∈ [2, 3, 9, 10], ∃ (t0 : Nat) (cA : ClassId) (r : vw_C), tys[t0]? = some (cA, .object r.1) ∧ vwCl[C]? = some r
section ZR7
variable {base : Nat} {cst : Nat → Nat} {tys : List (ClassId × FieldType)} {KA : Nat → Option (Nat × (Nat → Int32))} {h : zHeap} {ws : va_W}
theorem zpush_old {e : Nat × va_E} {a : Nat} {q : Nat × va_E} (h0 : ws[a]? = some q) : (ws ++ [e])[a]? = some q := by
  rw [List.getElem?_append_left (List.getElem?_eq_some_iff.mp h0).1]; exact h0
theorem zpush_new {e : Nat × va_E} : (ws ++ [e])[ws.length]? = some e := by simp
theorem zpush_addr {e1 : va_E} (hl : ws.length = hN h) (hA : ∀ (k : Nat) (q : Nat × va_E), ws[k]? = some q → q.1 = base + k) : ∀ (k : Nat) (q : Nat × va_E), (ws ++ [(base + hN h, e1)])[k]? = some q → q.1 = base + k := by
  intro k q hq
  rcases Nat.lt_or_ge k ws.length with hk | hk
  · rw [List.getElem?_append_left hk] at hq
    exact hA k q hq
  · have h2 := (List.getElem?_eq_some_iff.mp hq).1
    rw [List.length_append] at h2
    have h3 : k = ws.length := by simp at h2; omega
    subst h3
    rw [zpush_new] at hq
    cases hq
    rw [hl]
theorem zfk_fs {k C : Nat} (hC : k / 64 = C) (t : Nat) (ht : t ≠ 0) (h1 : zfk zTb k = t) : (zfs C)[k % 64]? = some (if t = 1 then .int 0 else .null) := by
  subst hC
  unfold zfk at h1
  unfold zfs
  cases hb : zTb[k / 64]? with
  | none => rw [hb] at h1; simp at h1; omega
  | some r =>
    rw [hb] at h1
    simp only [Option.bind_some] at h1
    simp only [Option.getD_some, List.getElem?_map]
    cases hr : r[k % 64]? with
    | none => rw [hr] at h1; simp at h1; omega
    | some v =>
      rw [hr] at h1
      simp at h1
      rw [h1]
      rfl
theorem zAb.pushO (hA : zAb base cst tys KA h ws) (hn : hN h + 1 ≤ zK0) (C : Nat) : zAb base cst tys KA (znO zTb C h) (ws ++ [(base + hN h, .inr (C, zfs C))]) := by
  obtain ⟨i1, i2, i3, i4, i5, i6, i7, i8, i9⟩ := hA
  have hnew : (ws ++ [(base + hN h, (.inr (C, zfs C) : va_E))])[hN h]? = some (base + hN h, .inr (C, zfs C)) := by rw [← i1]; exact zpush_new
  refine ⟨by rw [List.length_append, i1]; rfl, hn, zpush_addr i1 i3, ?_, ?_, ?_, i7, ?_, ?_⟩
  · intro k a y hy0
    have hy : (if a = hN h ∧ k / 64 = C then (if zfk zTb k = 1 then some 0 else none) else hFI h k a) = some y := hy0
    clear hy0
    by_cases hc : a = hN h ∧ k / 64 = C
    · rw [if_pos hc] at hy
      obtain ⟨rfl, hC⟩ := hc
      by_cases hk : zfk zTb k = 1
      · rw [if_pos hk] at hy
        obtain rfl := Option.some.inj hy
        exact ⟨zfs C, by rw [hC]; exact hnew, by rw [zfk_fs hC 1 (by decide) hk]; rfl⟩
      · rw [if_neg hk] at hy; cases hy
    · rw [if_neg hc] at hy
      obtain ⟨fs, g1, g2⟩ := i4 k a y hy
      exact ⟨fs, zpush_old g1, g2⟩
  · intro k a y hy0
    have hy : (if a = hN h ∧ k / 64 = C then (if zfk zTb k = 2 then some none else none) else hFR h k a) = some y := hy0
    clear hy0
    by_cases hc : a = hN h ∧ k / 64 = C
    · rw [if_pos hc] at hy
      obtain ⟨rfl, hC⟩ := hc
      by_cases hk : zfk zTb k = 2
      · rw [if_pos hk] at hy
        obtain rfl := Option.some.inj hy
        exact ⟨zfs C, by rw [hC]; exact hnew, by rw [zfk_fs hC 2 (by decide) hk]; rfl⟩
      · rw [if_neg hk] at hy; cases hy
    · rw [if_neg hc] at hy
      obtain ⟨fs, g1, g2⟩ := i5 k a y hy
      exact ⟨fs, zpush_old g1, g2⟩
  · intro a t n f ha hf
    obtain ⟨cA, ty, g1, g2, g3, g4⟩ := i6 a t n f ha hf
    exact ⟨cA, ty, g1, g2, g3, zpush_old g4⟩
  · intro a C' n f hf
    obtain ⟨cA, t0, r, g1, g2, g3, g4⟩ := i8 a C' n f hf
    exact ⟨cA, t0, r, g1, g2, g3, zpush_old g4⟩
  · intro a C' hC
    have hC : (if a = hN h then some C else hCL h a) = some C' := hC
    by_cases hc : a = hN h
    · rw [if_pos hc] at hC
      obtain rfl := Option.some.inj hC
      exact ⟨zfs C, by rw [hc]; exact hnew⟩
    · rw [if_neg hc] at hC
      obtain ⟨fs, g1⟩ := i9 a C' hC
      exact ⟨fs, zpush_old g1⟩
theorem zAb.pushA (hA : zAb base cst tys KA h ws) (hn : hN h + 1 ≤ zK0) {t n : Nat} {cA : ClassId} {ty : FieldType} (h1 : tys[t]? = some (cA, ty)) (h2 : zTyE t = some ty) (h3 : n ≤ 100000) : zAb base cst tys KA (znA t n h) (ws ++ [(base + hN h, .inl (cA, n, .inl (fun _ => 0)))]) := by
  obtain ⟨i1, i2, i3, i4, i5, i6, i7, i8, i9⟩ := hA
  have hnew : (ws ++ [(base + hN h, (.inl (cA, n, .inl (fun _ => 0)) : va_E))])[hN h]? = some (base + hN h, .inl (cA, n, .inl (fun _ => 0))) := by rw [← i1]; exact zpush_new
  refine ⟨by rw [List.length_append, i1]; rfl, hn, zpush_addr i1 i3, ?_, ?_, ?_, ?_, ?_, ?_⟩
  · intro k a y hy
    obtain ⟨fs, g1, g2⟩ := i4 k a y hy
    exact ⟨fs, zpush_old g1, g2⟩
  · intro k a y hy
    obtain ⟨fs, g1, g2⟩ := i5 k a y hy
    exact ⟨fs, zpush_old g1, g2⟩
  · intro a t' n' f ha hf
    have hf : (if a = hN h then some (t, n, fun _ => 0) else hAI h a) = some (t', n', f) := hf
    by_cases hc : a = hN h
    · rw [if_pos hc] at hf
      cases hf
      exact ⟨cA, ty, h1, h2, ⟨h3, fun _ _ => (by decide : fits .byte (.int (0 : Int32)) = true)⟩, by rw [hc]; exact hnew⟩
    · rw [if_neg hc] at hf
      obtain ⟨cA, ty, g1, g2, g3, g4⟩ := i6 a t' n' f ha hf
      exact ⟨cA, ty, g1, g2, g3, zpush_old g4⟩
  · intro a t' n' f ha hf
    have hf : (if a = hN h then some (t, n, fun _ => 0) else hAI h a) = some (t', n', f) := hf
    rw [if_neg (by omega)] at hf
    exact i7 a t' n' f ha hf
  · intro a C' n f hf
    obtain ⟨cA, t0, r, g1, g2, g3, g4⟩ := i8 a C' n f hf
    exact ⟨cA, t0, r, g1, g2, g3, zpush_old g4⟩
  · intro a C' hC
    obtain ⟨fs, g1⟩ := i9 a C' hC
    exact ⟨fs, zpush_old g1⟩
theorem zAb.pushQ (hA : zAb base cst tys KA h ws) (hn : hN h + 1 ≤ zK0) {C n t0 : Nat} {cA : ClassId} {r : vw_C} (h1 : tys[t0]? = some (cA, .object r.1)) (h2 : vwCl[C]? = some r) (h3 : n ≤ 100000) : zAb base cst tys KA (znQ C n h) (ws ++ [(base + hN h, .inl (cA, n, .inr (.inr (.inr (.inr (fun _ => none))))))]) := by
  obtain ⟨i1, i2, i3, i4, i5, i6, i7, i8, i9⟩ := hA
  have hnew : (ws ++ [(base + hN h, (.inl (cA, n, .inr (.inr (.inr (.inr (fun _ => none))))) : va_E))])[hN h]? = some (base + hN h, .inl (cA, n, .inr (.inr (.inr (.inr (fun _ => none)))))) := by rw [← i1]; exact zpush_new
  refine ⟨by rw [List.length_append, i1]; rfl, hn, zpush_addr i1 i3, ?_, ?_, ?_, i7, ?_, ?_⟩
  · intro k a y hy
    obtain ⟨fs, g1, g2⟩ := i4 k a y hy
    exact ⟨fs, zpush_old g1, g2⟩
  · intro k a y hy
    obtain ⟨fs, g1, g2⟩ := i5 k a y hy
    exact ⟨fs, zpush_old g1, g2⟩
  · intro a t n f ha hf
    obtain ⟨cA, ty, g1, g2, g3, g4⟩ := i6 a t n f ha hf
    exact ⟨cA, ty, g1, g2, g3, zpush_old g4⟩
  · intro a C' n' f hf
    have hf : (if a = hN h then some (C, n, fun _ => none) else hAR h a) = some (C', n', f) := hf
    by_cases hc : a = hN h
    · rw [if_pos hc] at hf
      cases hf
      exact ⟨cA, t0, r, h1, h2, h3, by rw [hc]; exact hnew⟩
    · rw [if_neg hc] at hf
      obtain ⟨cA, t0, r, g1, g2, g3, g4⟩ := i8 a C' n' f hf
      exact ⟨cA, t0, r, g1, g2, g3, zpush_old g4⟩
  · intro a C' hC
    obtain ⟨fs, g1⟩ := i9 a C' hC
    exact ⟨fs, zpush_old g1⟩
end ZR7
section ZR8
variable {p : Program} {l : Launch} {e : Env} {R : Room} {s : State} {m : MethodId} {args : Array Value} {below : List Frame} {meth : Method} {c : Code} {H : Heap} {locs : List Loc} {cells slots : Nat} {Q : State → Prop}
variable {cc : ByteArray} {pc : Nat} {base : Nat} {cst : Nat → Nat} {ls ls' : zLoc} {st st' : zStk} {nL : Nat} {D : va_G} {tys : List (ClassId × FieldType)} {KA : Nat → Option (Nat × (Nat → Int32))} {h h' : zHeap} {own : String} {idx k : Nat}
theorem zrho_lt {a : Nat} (ha : a < zK0) : zcv base cst (.inr (.inr (some a))) = .ref (base + a) := by
  show Value.ref (zrho base cst a) = _
  unfold zrho
  rw [if_pos ha]
theorem zr_new (hx : p.tables.exec = Jvm.exec) (hb : c.code = cc) (hts : ∀ w ∈ zT, w.before args s = true) (hown : s.vm.findClass own = some m.cls) (hK : va_K D vwCl tys s) {C : Nat} (hp : zNok own idx C) (hbase : ∀ q, s.heap.size ≤ q → zA base q) (hS : zSt base cst D tys KA s h H locs) (hn : hN h + 1 ≤ zK0) (hc : cells + 1 ≤ R.cells) (hs : slots + ((zTb[C]?).getD []).length ≤ R.slots) (hd : decode cc pc = .ok (.new idx, 3))
    (kk : ∀ H1, zSt base cst D tys KA s (znO zTb C h) H1 locs → zWW p l e R s m args below meth c H1 locs (cells + 1) (slots + ((zTb[C]?).getD []).length) Q base cst nL (pc + 3) ls (.inr (.inr (some (hN h))) :: st)) : zWW p l e R s m args below meth c H locs cells slots Q base cst nL pc ls st := by
  intro L hL
  obtain ⟨ws, hP, hD, hA, hz, hV⟩ := hS
  obtain ⟨Cn, T, N, ty, q1, q2, q3, q4, q5, q6, q7, q8⟩ := hp
  have hKn := hK.1 C _ q1
  subst q8
  refine W.newcK hx hb hown (hts _ q4) (hts _ q5) (hts _ q6) rfl hd hc hs hKn.2.1 hz fun H1 kC hkC e1 z1 o1 => ?_
  have hk : ∀ (k : Nat) (x : Nat × va_E), ws[k]? = some x → H1[x.1]? = H[x.1]? := fun k x hx => o1 x.1 (by have := (hP k x hx).lt; omega)
  have h9 := kk H1 ⟨_, (hP.kept hk).app (w2 := [(base + hN h, .inr (C, zfs C))]) (fun k x hx => ?_), hD.push hP hz.symm (hbase _ (by rw [← hz]; exact hV.1)), hA.pushO hn C, by rw [z1]; rfl, ⟨Nat.le_trans hV.1 (by omega), fun x h1 h2 => (o1 x (by have := Nat.lt_of_lt_of_le h1 hV.1; omega)).trans (hV.2.1 x h1 h2), hV.2.2⟩⟩ L hL
  · rw [List.map_cons, zrho_lt (by omega)] at h9
    exact h9
  · have hz : k < 1 := (List.getElem?_eq_some_iff.mp hx).1
    rw [show k = 0 by omega] at hx
    cases hx
    exact ⟨_, q1, (u_born ty hts q2 hKn hkC e1 q3).to q7⟩
theorem zr_newa (hx : p.tables.exec = Jvm.exec) (hb : c.code = cc) (hts : ∀ w ∈ zT, w.before args s = true) (hK : va_K D vwCl tys s) {at_ : ArrayType} {t : Nat} {ty : FieldType} (hty : newarray.typeOf at_ = ty) (h0 : ∃ c, tys[t]? = some (c, ty)) (h1 : zTyE t = some ty) (h2 : Cond.arrayClass ty ∈ zT) (hdv : defaultValue ty = .int 0) (hcb : componentBytes ty ≤ 4) (hra : ∀ U cA, va_RA U cA ty → U.vm.findClass ("[" ++ ty.toString) = some cA) (hbase : ∀ q, s.heap.size ≤ q → zA base q) (hS : zSt base cst D tys KA s h H locs) (hn : hN h + 1 ≤ zK0) {x : Int32} {n : Nat} (hl : zlen x = some n) (hc : cells + 1 ≤ R.cells) (hs : slots + n ≤ R.slots) (hd : decode cc pc = .ok (.newarray at_, 2))
    (kk : ∀ H1, zSt base cst D tys KA s (znA t n h) H1 locs → zWW p l e R s m args below meth c H1 locs (cells + 1) (slots + n) Q base cst nL (pc + 2) ls (.inr (.inr (some (hN h))) :: st)) : zWW p l e R s m args below meth c H locs cells slots Q base cst nL pc ls (.inl x :: st) := by
  intro L hL
  subst hty
  obtain ⟨ws, hP, hD, hA, hz, hV⟩ := hS
  obtain ⟨cA, hcA⟩ := h0
  unfold zlen at hl
  split at hl
  · rename_i hc2
    obtain rfl := Option.some.inj hl
    refine va_newaK hx hb (hts _ h2) rfl hd rfl (Int32.not_lt.mpr hc2.1) rfl (Nat.le_trans (Nat.mul_le_mul hc2.2 hcb) (Nat.le_of_ble_eq_true rfl)) hc hs hz fun H1 cA' e1 z1 o1 hAr hNm => ?_
    have hcc : cA' = cA := Option.some.inj (hNm.symm.trans (hra s cA (hK.2 t _ hcA).2))
    subst hcc
    have hk : ∀ (k : Nat) (x : Nat × va_E), ws[k]? = some x → H1[x.1]? = H[x.1]? := fun k x hx => o1 x.1 (by have := (hP k x hx).lt; omega)
    have h9 := kk H1 ⟨_, (hP.kept hk).app (w2 := [(base + hN h, .inl (cA', x.toNatClampNeg, .inl (fun _ => 0)))]) (fun k x hx => ?_), hD.push hP hz.symm (hbase _ (by rw [← hz]; exact hV.1)), hA.pushA hn hcA h1 hc2.2, by rw [z1]; rfl, ⟨Nat.le_trans hV.1 (by omega), fun x h1 h2 => (o1 x (by have := Nat.lt_of_lt_of_le h1 hV.1; omega)).trans (hV.2.1 x h1 h2), hV.2.2⟩⟩ L hL
    · rw [List.map_cons, zrho_lt (by omega)] at h9
      exact h9
    · have hz : k < 1 := (List.getElem?_eq_some_iff.mp hx).1
      rw [show k = 0 by omega] at hx
      cases hx
      show H1[base + hN h]? = some (vp_cell _ _)
      rw [vp_cell_i, e1, hdv]
  · cases hl
theorem zr_newq (hx : p.tables.exec = Jvm.exec) (hb : c.code = cc) (hts : ∀ w ∈ zT, w.before args s = true) (hown : s.vm.findClass own = some m.cls) (hK : va_K D vwCl tys s) {C : Nat} {r : vw_C} (h0 : ∃ (t0 : Nat) (cA : ClassId) (r : vw_C), tys[t0]? = some (cA, .object r.1) ∧ vwCl[C]? = some r) (h1 : vwCl[C]? = some r) (h2 : Cond.classLink own idx r.1 ∈ zT) (h3 : va_AO r.1 s) (hbase : ∀ q, s.heap.size ≤ q → zA base q) (hS : zSt base cst D tys KA s h H locs) (hn : hN h + 1 ≤ zK0) {x : Int32} {n : Nat} (hl : zlen x = some n) (hc : cells + 1 ≤ R.cells) (hs : slots + n ≤ R.slots) (hd : decode cc pc = .ok (.anewarray idx, 3))
    (kk : ∀ H1, zSt base cst D tys KA s (znQ C n h) H1 locs → zWW p l e R s m args below meth c H1 locs (cells + 1) (slots + n) Q base cst nL (pc + 3) ls (.inr (.inr (some (hN h))) :: st)) : zWW p l e R s m args below meth c H locs cells slots Q base cst nL pc ls (.inl x :: st) := by
  intro L hL
  obtain ⟨ws, hP, hD, hA, hz, hV⟩ := hS
  obtain ⟨t0, cA, r', hcA, hr'⟩ := h0
  obtain rfl := Option.some.inj (hr'.symm.trans h1)
  unfold zlen at hl
  split at hl
  · rename_i hc2
    obtain rfl := Option.some.inj hl
    refine W.anew hx hb hown (hts _ h2) (va_AO.use h3) rfl hd rfl (Int32.not_lt.mpr hc2.1) (Nat.le_trans (Nat.mul_le_mul_right 4 hc2.2) (Nat.le_of_ble_eq_true rfl)) hc hs fun cA' kA comp f1 f2 f3 f4 => ?_
    generalize hH1 : H.push ({ cls := cA', slots := Array.replicate x.toNatClampNeg .null, vm := .none } : Cell) = H1
    have z1 : H1.size = H.size + 1 := by rw [← hH1, Array.size_push]
    have e1 : H1[H.size]? = some (arrV cA' x.toNatClampNeg (fun _ => .null)) := by rw [← hH1, Array.getElem?_push_size, ← arrV_new]
    have o1 : ∀ q : Nat, q < H.size → H1[q]? = H[q]? := fun q hq => by rw [← hH1, Array.getElem?_push, if_neg (Nat.ne_of_lt hq)]
    have hcc : cA' = cA := by
      obtain ⟨kA', comp', j1, j2, j3, j4⟩ := (hK.2 t0 _ hcA).2
      exact Option.some.inj (f1.symm.trans j4)
    subst hcc
    have hk : ∀ (k : Nat) (x : Nat × va_E), ws[k]? = some x → H1[x.1]? = H[x.1]? := fun k x hx => o1 x.1 ((hP k x hx).lt)
    have h9 := kk H1 ⟨_, (hP.kept hk).app (w2 := [(base + hN h, .inl (cA', x.toNatClampNeg, .inr (.inr (.inr (.inr (fun _ => none))))))]) (fun k x hx => ?_), hD.push hP hz.symm (hbase _ (by rw [← hz]; exact hV.1)), hA.pushQ hn hcA h1 hc2.2, by rw [z1, hz]; rfl, ⟨Nat.le_trans hV.1 (by omega), fun x h1 h2 => (o1 x (Nat.lt_of_lt_of_le h1 hV.1)).trans (hV.2.1 x h1 h2), hV.2.2⟩⟩ L hL
    · rw [List.map_cons, zrho_lt (by omega)] at h9
      show W p l e R s m args below meth c H1 locs (cells + 1) (slots + x.toNatClampNeg) Q (F0 m (pc + 3) L (.ref H.size :: st.map (zcv base cst)))
      rw [hz]
      exact h9
    · have hzz : k < 1 := (List.getElem?_eq_some_iff.mp hx).1
      rw [show k = 0 by omega] at hx
      cases hx
      show H1[base + hN h]? = some (vp_cell _ _)
      rw [vp_cell_q, ← hz, e1]
      rfl
  · cases hl
end ZR8
