/-! calls -/
theorem zrF_M {n M i : Nat} {ls : zLoc} {st : zStk} {h : zHeap} {r : zRes} (hr : zrF zP zNL n M i ls st h = some r) : ∃ q, zMths[M]? = some q := by
  cases n with
  | zero => cases hr
  | succ n =>
    rw [zrF] at hr
    unfold zP at hr
    cases hM : zMths[M]? with
    | none => rw [hM] at hr; cases hr
    | some q => exact ⟨q, rfl⟩
theorem zgood {ws : List Cond} (h : ∀ w ∈ ws, w ∈ zT) : GoodIn zT ws := fun w hw => ⟨h w hw, good_of_word (List.mem_filter.mp (h w hw)).2⟩
theorem zblind {base : Nat} {cst adV : Nat → Nat} {D : va_G} {tys : List (ClassId × FieldType)} {KA : Nat → Option (Nat × (Nat → Int32))} {h : zHeap} {av : List Value} : FrameBlind (va_Pc av (zWd base cst adV D tys KA h)) := by
  intro a U g mk hp
  obtain ⟨h0, ⟨ws, w1, w2, w3⟩, w4, w5, w6⟩ := hp
  exact ⟨h0, ⟨ws, w1, w2, w3⟩, w4, va_K.moved (u := U) (U := U.calling g mk a) (Vm.Alike.refl U.vm) w5, w6.moved (s := U) (U := U.calling g mk a) (State.WarmedH.refl U) (fun _ _ _ => rfl)⟩
section ZC
variable {p : Program} {l : Launch} {e : Env} {R : Room} {s : State} {m : MethodId} {args : Array Value} {below : List Frame} {meth : Method} {c : Code} {H : Heap} {locs : List Loc} {cells slots : Nat} {Q : State → Prop}
variable {pc : Nat} {base : Nat} {cst adV : Nat → Nat} {ls ls' : zLoc} {st st' : zStk} {nL : Nat} {D : va_G} {tys : List (ClassId × FieldType)} {KA : Nat → Option (Nat × (Nat → Int32))} {h h' : zHeap} {own : String} {idx k n : Nat}
theorem zpre (hK : va_K D vwCl tys s) (hKF : zKF base cst adV KA s) {ws : va_W} (hP : va_P D vwCl ws H) (hD : va_D (zA base) ws) (hA : zAb base cst tys KA h ws) (hz : H.size = base + hN h) (hV : va_S (zA base) s.heap H locs) (av : List Value) : ∀ U : State, U.heap = H → s.WarmedH U.vm → va_Pc av (zWd base cst adV D tys KA h) av.toArray U :=
  fun U hU hW => ⟨rfl, ⟨ws, by rw [hU]; exact hP, hD, hA⟩, by rw [hU]; exact hz, va_K.moved hW.alike hK, hKF.moved hW (fun a g1 g2 => by rw [hU]; exact hV.2.1 a g1 g2)⟩
/-- what every call has -/
def zCall (l : Launch) (base : Nat) (cst adV : Nat → Nat) (D : va_G) (tys : List (ClassId × FieldType)) (KA : Nat → Option (Nat × (Nat → Int32))) (R : Room) (cells slots : Nat) (n m' : Nat) (mt' : zMt) (as : List zVal) (h : zHeap) (x : zVal) (h1 : zHeap) : Prop :=
  zMetas[m']? = some mt' ∧ zrF zP zNL n m' 0 (zen (zNL m') as) [] h = some (x, h1) ∧ hN h1 ≤ zK0 ∧ zcs as ≤ zNL m' ∧ (mt'.2.2.2.1 + 1 ≤ R.frames ∧ 8 + (zNL m' + 11) + mt'.2.2.2.2 ≤ R.locals) ∧ (cells + (hN h1 - hN h) ≤ R.cells ∧ slots + (hS h1 - hS h) ≤ R.slots)
theorem zr_callV (hMe : zMe l base cst adV D tys KA n) {cc : ByteArray} (hx : p.tables.exec = Jvm.exec) (hb : c.code = cc) (hml : c.maxLocals = nL) (hts : ∀ w ∈ zT, w.before args s = true) (hown : s.vm.findClass own = some m.cls) (hK : va_K D vwCl tys s) (hKF : zKF base cst adV KA s) {m' : Nat} {mt' : zMt} {n' r' C : Nat} (hC : zCok own idx m' mt' n' r' (C + 1)) (hni : mt'.1.name ≠ "<init>") {as : List zVal} {x : zVal} {h1 : zHeap} (hcl : zCall l base cst adV D tys KA R cells slots n m' mt' as h x h1) (hSt : zSt base cst D tys KA s h H locs) {rest st2 : zStk} (hq : ztk n' st [] = some (as, rest)) (hcs : zcs rest ≤ 8) {a : Nat} {as' : List zVal} (ha : as = .inr (.inr (some a)) :: as') (haC : hCL h a = some C) (hd : decode cc pc = .ok (.invokevirtual idx, 3)) (hst2 : st2.map (zcv base cst) = (zrv base cst mt'.2.2.1 x).toList ++ rest.map (zcv base cst))
    (kk : ∀ H1 locs1, zSt base cst D tys KA s h1 H1 locs1 → zWW p l e R s m args below meth c H1 locs1 (cells + (hN h1 - hN h)) (slots + (hS h1 - hS h)) Q base cst nL (pc + 3) ls st2) : zWW p l e R s m args below meth c H locs cells slots Q base cst nL pc ls st := by
  intro L hL
  obtain ⟨c1, c2, c3, c4, c5, c6⟩ := hcl
  obtain ⟨q', hq'⟩ := zrF_M c2
  have eNL := zNL_eq hq'
  obtain ⟨d1, d2, d3, -, -, d0⟩ := hC
  dsimp only at d0
  rw [if_neg hni] at d0
  obtain ⟨T, N, d4, d5, d6, d7, d8, d9⟩ := d0
  obtain ⟨ps, e1, e2, e3⟩ := ztk_spec n' st [] as rest hq
  rw [List.append_nil] at e1
  have hM := hMe m' q' mt' as h x h1 hq' c1 c2 c3 (by rw [← eNL]; exact c4)
  obtain ⟨ws, hP, hD, hA, hz, hV⟩ := hSt
  obtain ⟨fs, g1⟩ := hA.2.2.2.2.2.2.2.2 a C haC
  have er : zcv base cst (.inr (.inr (some a))) = .ref (base + a) := by show Value.ref (zrho base cst a) = _; rw [hA.rho g1]
  have hst : st.map (zcv base cst) = (as'.map (zcv base cst)).reverse ++ .ref (base + a) :: rest.map (zcv base cst) := by
    have : ps = as.reverse := by rw [e1, List.reverse_reverse]
    rw [e2, this, ha]
    simp [er]
  have hav : as.map (zcv base cst) = .ref (base + a) :: as'.map (zcv base cst) := by rw [ha, List.map_cons, er]
  rw [hav] at hM
  rw [hst]
  rw [← eNL] at hM
  have hGd : GoodIn zT (wsV own idx mt'.1.cls mt'.1 (Cond.code mt'.1 mt'.2.1 (zNL m') mt'.2.2.1 :: zT)) := zgood (fun w hw => by
    unfold wsV at hw
    simp only [List.mem_append, List.mem_cons, List.not_mem_nil, or_false] at hw
    rcases hw with (rfl | rfl | rfl | rfl) | rfl | hw
    · exact d5
    · exact d6
    · exact d7
    · exact d2
    · exact d1
    · exact hw)
  have hlen : as'.length = n' - 1 := by
    have h2 : as.length = n' := by rw [e1, List.length_reverse]; exact e3
    rw [ha, List.length_cons] at h2
    omega
  refine zcallW (va_runV (As := as'.map (zcv base cst)) (rest := rest.map (zcv base cst)) ⟨hx, hb, hml, hown, hts⟩ hM (cwV (n' - 1) hts hGd rfl rfl rfl ⟨rfl, d3.1, d3.2, d8⟩ c5) ⟨zblind, va_recv hK hP d4 g1, zpre hK hKF hP hD hA hz hV _⟩ rfl (by rw [List.length_map]; exact hlen) hL.2.1 rfl (lv_room (by rw [zcs_sum]; exact hcs)) hd c6) hV (fun H1 locs1 hS1 => ?_)
  have := kk H1 locs1 hS1 L hL
  rw [hst2] at this
  exact this
theorem zr_callS (hMe : zMe l base cst adV D tys KA n) {cc : ByteArray} (hx : p.tables.exec = Jvm.exec) (hb : c.code = cc) (hml : c.maxLocals = nL) (hts : ∀ w ∈ zT, w.before args s = true) (hown : s.vm.findClass own = some m.cls) (hK : va_K D vwCl tys s) (hKF : zKF base cst adV KA s) {m' : Nat} {mt' : zMt} {n' r' : Nat} (hC : zCok own idx m' mt' n' r' 0) {as : List zVal} {x : zVal} {h1 : zHeap} (hcl : zCall l base cst adV D tys KA R cells slots n m' mt' as h x h1) (hSt : zSt base cst D tys KA s h H locs) {rest st2 : zStk} (hq : ztk n' st [] = some (as, rest)) (hcs : zcs rest ≤ 8) (hd : decode cc pc = .ok (.invokestatic idx, 3)) (hst2 : st2.map (zcv base cst) = (zrv base cst mt'.2.2.1 x).toList ++ rest.map (zcv base cst))
    (kk : ∀ H1 locs1, zSt base cst D tys KA s h1 H1 locs1 → zWW p l e R s m args below meth c H1 locs1 (cells + (hN h1 - hN h)) (slots + (hS h1 - hS h)) Q base cst nL (pc + 3) ls st2) : zWW p l e R s m args below meth c H locs cells slots Q base cst nL pc ls st := by
  intro L hL
  obtain ⟨c1, c2, c3, c4, c5, c6⟩ := hcl
  obtain ⟨q', hq'⟩ := zrF_M c2
  have eNL := zNL_eq hq'
  obtain ⟨d1, d2, d3, -, -, d4⟩ := hC
  obtain ⟨d5, d6, d7⟩ := d4
  obtain ⟨ps, e1, e2, e3⟩ := ztk_spec n' st [] as rest hq
  rw [List.append_nil] at e1
  have hM := hMe m' q' mt' as h x h1 hq' c1 c2 c3 (by rw [← eNL]; exact c4)
  rw [← eNL] at hM
  obtain ⟨ws, hP, hD, hA, hz, hV⟩ := hSt
  have hst : st.map (zcv base cst) = (as.map (zcv base cst)).reverse ++ rest.map (zcv base cst) := by
    have : ps = as.reverse := by rw [e1, List.reverse_reverse]
    rw [e2, this]
    simp
  have hlen : (as.map (zcv base cst)).length = n' := by rw [List.length_map, e1, List.length_reverse]; exact e3
  have hGw : ∀ w ∈ Cond.code mt'.1 mt'.2.1 (zNL m') mt'.2.2.1 :: zT, w ∈ zT := fun w hw => by
    rcases List.mem_cons.mp hw with rfl | hw
    · exact d1
    · exact hw
  rw [hst]
  rcases d7 with d7 | ⟨host, d7⟩
  · have hGd : GoodIn zT (va_wsS own idx mt'.1 (Cond.code mt'.1 mt'.2.1 (zNL m') mt'.2.2.1 :: zT)) := zgood (fun w hw => by
      unfold va_wsS at hw
      simp only [List.mem_append, List.mem_cons, List.not_mem_nil, or_false] at hw
      rcases hw with (rfl | rfl | rfl) | rfl | hw
      · exact d7
      · exact d5
      · exact d2
      · exact d1
      · exact hw)
    refine zcallW (va_runS (As := as.map (zcv base cst)) (rest := rest.map (zcv base cst)) ⟨hx, hb, hml, hown, hts⟩ hM (va_cwS n' hts hGd rfl rfl rfl ⟨d3.1, d3.2, d6⟩ c5) ⟨zblind, zpre hK hKF hP hD hA hz hV _⟩ rfl hlen hL.2.1 rfl (lv_room (by rw [zcs_sum]; exact hcs)) hd c6) hV (fun H1 locs1 hS1 => ?_)
    have := kk H1 locs1 hS1 L hL
    rw [hst2] at this
    exact this
  · refine zcallW (va_runSN (As := as.map (zcv base cst)) (rest := rest.map (zcv base cst)) (host := host) ⟨hx, hb, hml, hown, hts⟩ hM ⟨va_cnB n' hts (zgood hGw) rfl rfl rfl (hKF.2.1 _ d7) (hts _ d2) ⟨d3.1, d3.2, d6⟩ c5, hts _ d5, trivial⟩ ⟨zblind, zpre hK hKF hP hD hA hz hV _⟩ rfl hlen hL.2.1 rfl (lv_room (by rw [zcs_sum]; exact hcs)) hd c6) hV (fun H1 locs1 hS1 => ?_)
    have := kk H1 locs1 hS1 L hL
    rw [hst2] at this
    exact this
theorem zr_callI (hMe : zMe l base cst adV D tys KA n) {cc : ByteArray} (hx : p.tables.exec = Jvm.exec) (hb : c.code = cc) (hml : c.maxLocals = nL) (hts : ∀ w ∈ zT, w.before args s = true) (hown : s.vm.findClass own = some m.cls) (hK : va_K D vwCl tys s) (hKF : zKF base cst adV KA s) {m' : Nat} {mt' : zMt} {n' r' C : Nat} (hC : zCok own idx m' mt' n' r' (C + 1)) (hni : mt'.1.name = "<init>") {as : List zVal} {x : zVal} {h1 : zHeap} (hcl : zCall l base cst adV D tys KA R cells slots n m' mt' as h x h1) (hSt : zSt base cst D tys KA s h H locs) {rest : zStk} (hq : ztk n' st [] = some (as, rest)) (hcs : zcs rest ≤ 8) {a : Nat} {as' : List zVal} (ha : as = .inr (.inr (some a)) :: as') (hd : decode cc pc = .ok (.invokespecial idx, 3))
    (kk : ∀ H1 locs1, zSt base cst D tys KA s h1 H1 locs1 → zWW p l e R s m args below meth c H1 locs1 (cells + (hN h1 - hN h)) (slots + (hS h1 - hS h)) Q base cst nL (pc + 3) ls rest) : zWW p l e R s m args below meth c H locs cells slots Q base cst nL pc ls st := by
  intro L hL
  obtain ⟨c1, c2, c3, c4, c5, c6⟩ := hcl
  obtain ⟨q', hq'⟩ := zrF_M c2
  have eNL := zNL_eq hq'
  obtain ⟨d1, d2, d3, -, -, d4⟩ := hC
  dsimp only at d4
  rw [if_pos hni] at d4
  obtain ⟨d5, d6, d7, d8, d9⟩ := d4
  obtain ⟨ps, e1, e2, e3⟩ := ztk_spec n' st [] as rest hq
  rw [List.append_nil] at e1
  have hM := hMe m' q' mt' as h x h1 hq' c1 c2 c3 (by rw [← eNL]; exact c4)
  rw [← eNL] at hM
  obtain ⟨ws, hP, hD, hA, hz, hV⟩ := hSt
  have hst : st.map (zcv base cst) = (as'.map (zcv base cst)).reverse ++ zcv base cst (.inr (.inr (some a))) :: rest.map (zcv base cst) := by
    have : ps = as.reverse := by rw [e1, List.reverse_reverse]
    rw [e2, this, ha]
    simp
  have hav : as.map (zcv base cst) = zcv base cst (.inr (.inr (some a))) :: as'.map (zcv base cst) := by rw [ha, List.map_cons]
  rw [hav, d9] at hM
  rw [hst]
  have hlen : as'.length = n' - 1 := by
    have h2 : as.length = n' := by rw [e1, List.length_reverse]; exact e3
    rw [ha, List.length_cons] at h2
    omega
  rw [d9] at d1
  have hGw : ∀ w ∈ Cond.code mt'.1 mt'.2.1 (zNL m') none :: zT, w ∈ zT := fun w hw => by
    rcases List.mem_cons.mp hw with rfl | hw
    · exact d1
    · exact hw
  refine zcallW (va_runI (As := as'.map (zcv base cst)) (rest := rest.map (zcv base cst)) (b := zrho base cst a) ⟨hx, hb, hml, hown, hts⟩ hM (cwI (n' - 1) hts (zgood hGw) rfl rfl rfl (hts _ d2) (hts _ d5) (hts _ d6) hni ⟨d3.1, d3.2, d7⟩ c5) ⟨zblind, zpre hK hKF hP hD hA hz hV _⟩ rfl (by rw [List.length_map]; exact hlen) hL.2.1 rfl (lv_room (by rw [zcs_sum]; exact hcs)) hd c6) hV (fun H1 locs1 hS1 => ?_)
  exact kk H1 locs1 hS1 L hL
end ZC
