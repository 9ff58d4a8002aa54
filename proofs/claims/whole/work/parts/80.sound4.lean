/-! writes, over the machine -/
def zPok (own : String) (idx k kd : Nat) (mn : String) : Prop := ∃ (C : String) (T : u_T) (N : Nat) (ty0 : Nat → FieldType) (ty : FieldType), vwCl[k / 64]? = some (C, T, N) ∧ (∀ w ∈ u_ws C T N, w ∈ zT) ∧ k % 64 < N ∧ Cond.fieldLink own idx (T (k % 64)).1 (T (k % 64)).2.1 (T (k % 64)).2.2.1 ∈ zT ∧
  (∀ j, j < N → parseFieldDescriptor (T j).2.2.1 = some (ty0 j)) ∧ (∀ a, a < N → ∀ b, b < N → a ≠ b → (T a).2.1 ≠ (T b).2.1) ∧ parseFieldDescriptor (T (k % 64)).2.2.1 = some ty ∧ (kd = 0 → ty = .int) ∧ (kd = 2 → ty = .boolean) ∧ (kd = 1 → (∃ n, ty = .object n) ∨ ∃ t, ty = .array t) ∧ ((T (k % 64)).2.2.2 = true → mn = "<init>" ∧ (T (k % 64)).1 = own)
section ZR4
variable {p : Program} {l : Launch} {e : Env} {R : Room} {s : State} {m : MethodId} {args : Array Value} {below : List Frame} {meth : Method} {c : Code} {H : Heap} {locs : List Loc} {cells slots : Nat} {Q : State → Prop}
variable {cc : ByteArray} {pc : Nat} {base : Nat} {cst : Nat → Nat} {ls ls' : zLoc} {st st' : zStk} {nL : Nat} {D : va_G} {tys : List (ClassId × FieldType)} {KA : Nat → Option (Nat × (Nat → Int32))} {h h' : zHeap} {own : String} {idx k : Nat}
/-- putfield, of any sort -/
theorem zr_put (hx : p.tables.exec = Jvm.exec) (hb : c.code = cc) (hts : ∀ w ∈ zT, w.before args s = true) (hown : s.vm.findClass own = some m.cls) (hK : va_K D vwCl tys s) {kd : Nat} (hp : zPok own idx k kd meth.name) {ws : va_W} (hP : va_P D vwCl ws H) (hD : va_D (zA base) ws) (hV : va_S (zA base) s.heap H locs) {a : Nat} {fs : List Value} (hw : ws[a]? = some (base + a, .inr (k / 64, fs))) (hl : k % 64 < fs.length) {v : Value} (hv : ∀ ty, (kd = 0 → ty = .int) → (kd = 2 → ty = .boolean) → (kd = 1 → (∃ n, ty = .object n) ∨ ∃ t, ty = .array t) → narrow ty v = v ∧ fits ty v = true) (hd : decode cc pc = .ok (.putfield idx, 3)) {L : Array Slot} {rest : List Value}
    (kk : ∀ (H1 : Heap) (locs1 : List Loc), H1.size = H.size → va_P D vwCl (ws.set a (base + a, .inr (k / 64, fs.set (k % 64) v))) H1 → va_D (zA base) (ws.set a (base + a, .inr (k / 64, fs.set (k % 64) v))) → va_S (zA base) s.heap H1 locs1 → W p l e R s m args below meth c H1 locs1 cells slots Q (F0 m (pc + 3) L rest)) : W p l e R s m args below meth c H locs cells slots Q (F0 m pc L (v :: .ref (base + a) :: rest)) := by
  obtain ⟨C, T, N, ty0, ty, q1, q2, q3, q4, q5, q6, q7, q8, q9, q10, q11⟩ := hp
  obtain ⟨v1, v2⟩ := hv ty q8 q9 q10
  have hap := va_apart (own := own) hts q2 ty0 q5 q6 hK q1
  obtain ⟨r, h1, cell, g1, g2, g3, g4⟩ := hP a _ hw
  have hr : r = (C, T, N) := Option.some.inj (h1.symm.trans q1)
  subst hr
  obtain ⟨hS, hfc, kC, hkC, hkind⟩ := hK.1 (k / 64) _ q1
  obtain ⟨cf, kf, fi, f, hi, hsl⟩ := hS (k % 64) q3
  have hst := (u_facts hfc hkC (u_lays hts q2 q3) hi).1
  have hlay := hts _ (q2 _ (u_in_lay q3))
  unfold u_lay at hlay
  cases hfin : (T (k % 64)).2.2.2 with
  | false =>
    rw [if_neg (by rw [hfin]; decide)] at hlay
    have h6 := u_store hfc hkC hkind hlay hi q7 v1 v2
    refine W.putK hx hb (f := f) ⟨hown, hts _ q4, ⟨_, _, _, hi⟩, hst⟩ (by rw [g2]; exact h6) g1 g3 (by rw [hsl]; exact k2_hasslot (g4 (k % 64) q3)) rfl rfl hd fun H' e1 e2 e3 => ?_
    rw [hsl] at e1 ⊢
    exact kk H' _ e2 (hP.set hD hw ⟨_, q1, t_OB.to (V := updV (vp_V fs) (k % 64) v) ⟨_, e1, g2, g3, t_set g4 hap q3 v⟩ (fun j _ => vp_updV_set hl v j)⟩ e3) (hD.set hw) (hV.put e2 e3 (hD.2 a _ hw))
  | true =>
    obtain ⟨q12, q13⟩ := q11 hfin
    rw [if_pos hfin] at hlay
    have hcf : m.cls = cf := by
      obtain ⟨_, _, c', _, _, _, -, -, hf', -, -, -, hown2, -⟩ := Cond.laysFinal_spec hlay
      have e1 : c' = cf := by have := hi.symm.trans hf'; simp at this; exact this.1.symm
      rw [q13] at hown2
      rw [← e1]; exact Option.some.inj (hown.symm.trans hown2)
    have h6 := u_fits hfc hkC hkind (Or.inr hlay) hi q7 v1 v2
    refine W.putFinK hx hb hown (hts _ q4) hi hst hcf q12 (by rw [g2]; exact h6) g1 g3 (by rw [hsl]; exact k2_hasslot (g4 (k % 64) q3)) rfl rfl hd fun H' e1 e2 e3 => ?_
    rw [hsl] at e1 ⊢
    exact kk H' _ e2 (hP.set hD hw ⟨_, q1, t_OB.to (V := updV (vp_V fs) (k % 64) v) ⟨_, e1, g2, g3, t_set g4 hap q3 v⟩ (fun j _ => vp_updV_set hl v j)⟩ e3) (hD.set hw) (hV.put e2 e3 (hD.2 a _ hw))
theorem zr_putI (hx : p.tables.exec = Jvm.exec) (hb : c.code = cc) (hts : ∀ w ∈ zT, w.before args s = true) (hown : s.vm.findClass own = some m.cls) (hK : va_K D vwCl tys s) (hp : zPok own idx k 0 meth.name) (hS : zSt base cst D tys KA s h H locs) (hd : decode cc pc = .ok (.putfield idx, 3)) (hf : wFI k st h = some (some h', st'))
    (kk : ∀ H1 locs1, zSt base cst D tys KA s h' H1 locs1 → zWW p l e R s m args below meth c H1 locs1 cells slots Q base cst nL (pc + 3) ls st') : zWW p l e R s m args below meth c H locs cells slots Q base cst nL pc ls st := by
  intro L hL
  unfold wFI at hf
  split at hf
  · rename_i x r s0
    obtain ⟨h1, rfl⟩ := Prod.mk.inj (Option.some.inj hf)
    unfold zpI at h1
    split at h1
    · rename_i a
      split at h1
      · rename_i x0 he
        obtain rfl := Option.some.inj h1
        obtain ⟨ws, hP, hD, hA, hz, hV⟩ := hS
        obtain ⟨fs, g1, g2⟩ := hA.2.2.2.1 k a x0 he
        have e1 : zcv base cst (.inr (.inr (some a))) = .ref (base + a) := by show Value.ref (zrho base cst a) = _; rw [hA.rho g1]
        show W p l e R s m args below meth c H locs cells slots Q (F0 m pc L (.int x :: zcv base cst (.inr (.inr (some a))) :: s0.map (zcv base cst)))
        rw [e1]
        refine zr_put hx hb hts hown hK hp hP hD hV g1 (List.getElem?_eq_some_iff.mp g2).1 (fun ty t0 _ _ => by rw [t0 rfl]; exact ⟨rfl, rfl⟩) hd fun H1 locs1 z1 P1 D1 V1 => ?_
        exact kk H1 locs1 ⟨_, P1, D1, hA.setI he g1 g2, z1.trans hz, V1⟩ L hL
      · cases h1
    · cases h1
  · cases hf
theorem zr_putZ (hx : p.tables.exec = Jvm.exec) (hb : c.code = cc) (hts : ∀ w ∈ zT, w.before args s = true) (hown : s.vm.findClass own = some m.cls) (hK : va_K D vwCl tys s) (hp : zPok own idx k 2 meth.name) (hS : zSt base cst D tys KA s h H locs) (hd : decode cc pc = .ok (.putfield idx, 3)) (hf : wFZ k st h = some (some h', st'))
    (kk : ∀ H1 locs1, zSt base cst D tys KA s h' H1 locs1 → zWW p l e R s m args below meth c H1 locs1 cells slots Q base cst nL (pc + 3) ls st') : zWW p l e R s m args below meth c H locs cells slots Q base cst nL pc ls st := by
  intro L hL
  unfold wFZ at hf
  split at hf
  · rename_i x r s0
    obtain ⟨h1, rfl⟩ := Prod.mk.inj (Option.some.inj hf)
    unfold zpZ at h1
    split at h1
    · rename_i hx01
      unfold zpI at h1
      split at h1
      · rename_i a
        split at h1
        · rename_i x0 he
          obtain rfl := Option.some.inj h1
          obtain ⟨ws, hP, hD, hA, hz, hV⟩ := hS
          obtain ⟨fs, g1, g2⟩ := hA.2.2.2.1 k a x0 he
          have e1 : zcv base cst (.inr (.inr (some a))) = .ref (base + a) := by show Value.ref (zrho base cst a) = _; rw [hA.rho g1]
          show W p l e R s m args below meth c H locs cells slots Q (F0 m pc L (.int x :: zcv base cst (.inr (.inr (some a))) :: s0.map (zcv base cst)))
          rw [e1]
          refine zr_put hx hb hts hown hK hp hP hD hV g1 (List.getElem?_eq_some_iff.mp g2).1 (fun ty _ t0 _ => by rw [t0 rfl]; rcases hx01 with rfl | rfl <;> exact ⟨by decide, by decide⟩) hd fun H1 locs1 z1 P1 D1 V1 => ?_
          exact kk H1 locs1 ⟨_, P1, D1, hA.setI he g1 g2, z1.trans hz, V1⟩ L hL
        · cases h1
      · cases h1
    · cases h1
  · cases hf
theorem zr_putR (hx : p.tables.exec = Jvm.exec) (hb : c.code = cc) (hts : ∀ w ∈ zT, w.before args s = true) (hown : s.vm.findClass own = some m.cls) (hK : va_K D vwCl tys s) (hp : zPok own idx k 1 meth.name) (hS : zSt base cst D tys KA s h H locs) (hd : decode cc pc = .ok (.putfield idx, 3)) (hf : wFR k st h = some (some h', st'))
    (kk : ∀ H1 locs1, zSt base cst D tys KA s h' H1 locs1 → zWW p l e R s m args below meth c H1 locs1 cells slots Q base cst nL (pc + 3) ls st') : zWW p l e R s m args below meth c H locs cells slots Q base cst nL pc ls st := by
  intro L hL
  unfold wFR at hf
  split at hf
  · rename_i x r s0
    obtain ⟨h1, rfl⟩ := Prod.mk.inj (Option.some.inj hf)
    unfold zpR at h1
    split at h1
    · rename_i a
      split at h1
      · rename_i x0 he
        obtain rfl := Option.some.inj h1
        obtain ⟨ws, hP, hD, hA, hz, hV⟩ := hS
        obtain ⟨fs, g1, g2⟩ := hA.2.2.2.2.1 k a x0 he
        have e1 : zcv base cst (.inr (.inr (some a))) = .ref (base + a) := by show Value.ref (zrho base cst a) = _; rw [hA.rho g1]
        show W p l e R s m args below meth c H locs cells slots Q (F0 m pc L (zcr base cst x :: zcv base cst (.inr (.inr (some a))) :: s0.map (zcv base cst)))
        rw [e1]
        refine zr_put hx hb hts hown hK hp hP hD hV g1 (List.getElem?_eq_some_iff.mp g2).1 (fun ty _ _ t0 => by rcases t0 rfl with ⟨n, rfl⟩ | ⟨t, rfl⟩ <;> cases x <;> exact ⟨rfl, rfl⟩) hd fun H1 locs1 z1 P1 D1 V1 => ?_
        exact kk H1 locs1 ⟨_, P1, D1, hA.setR he g1 g2, z1.trans hz, V1⟩ L hL
      · cases h1
    · cases h1
  · cases hf
theorem zsz {A : Nat → Prop} {H0 H1 : Heap} {locs1 : List Loc} (_ : va_S A H0 H1 locs1) : True := trivial
theorem zr_iastore (hx : p.tables.exec = Jvm.exec) (hb : c.code = cc) (hK : va_K D vwCl tys s) (hS : zSt base cst D tys KA s h H locs) (hd : decode cc pc = .ok (.iastore, 1)) (hf : wAI st h = some (some h', st'))
    (kk : ∀ H1 locs1, zSt base cst D tys KA s h' H1 locs1 → zWW p l e R s m args below meth c H1 locs1 cells slots Q base cst nL (pc + 1) ls st') : zWW p l e R s m args below meth c H locs cells slots Q base cst nL pc ls st := by
  intro L hL
  unfold wAI at hf
  split at hf
  · rename_i x i r s0
    obtain ⟨h1, rfl⟩ := Prod.mk.inj (Option.some.inj hf)
    unfold zaS at h1
    split at h1
    · rename_i a
      split at h1
      · rename_i t n f he
        split at h1
        · rename_i hc
          obtain ⟨rfl, ha, c1, c2⟩ := hc
          obtain rfl := Option.some.inj h1
          obtain ⟨ws, hP, hD, hA, hz, hV⟩ := hS
          obtain ⟨cA, ty, g1, g2, -, g3⟩ := hA.2.2.2.2.2.1 a _ n f ha he
          obtain rfl := Option.some.inj g2
          have e1 : zcv base cst (.inr (.inr (some a))) = .ref (base + a) := by show Value.ref (zrho base cst a) = _; rw [hA.rho g3]
          show W p l e R s m args below meth c H locs cells slots Q (F0 m pc L (.int x :: .int i :: zcv base cst (.inr (.inr (some a))) :: s0.map (zcv base cst)))
          rw [e1]
          refine W.iast hx hb (hP a _ g3) ((hK.2 0 _ g1).1 n (fun j => .int (f j))) (fun q => by cases q) (by show ¬ (i < 0 ∨ (arrV _ _ _).slots.size ≤ _); rw [arrV_size]; exact zin c1 c2) rfl rfl hd fun H1 e z oq => ?_
          refine kk H1 _ ⟨_, hP.set (e := .inl (cA, n, .inl (zup f i.toNatClampNeg x))) hD g3 ?_ oq, hD.set g3, hA.setA ha he g3 (fun q => by cases q), z.trans hz, hV.put z oq (hD.2 a _ g3)⟩ L hL
          show H1[base + a]? = some (vp_cell _ _)
          rw [e]
          rw [vp_cell_i, vp_cell_i, arrV_store]
          congr 2
          funext q
          by_cases hq : q = i.toNatClampNeg
          · subst hq
            simp [updV, zup]
          · simp [updV, zup, hq]
        · cases h1
      · cases h1
    · cases h1
  · cases hf
theorem zfit_byte (x : Int32) : fits .byte (.int x.toInt8.toInt32) = true := by
  have h1 := Int8.le_toInt x.toInt8
  have h2 := Int8.toInt_le x.toInt8
  have e : (x.toInt8.toInt32).toInt = x.toInt8.toInt := Int8.toInt_toInt32 _
  simp only [fits, Bool.and_eq_true, decide_eq_true_eq]
  refine ⟨Int32.le_iff_toInt_le.mpr ?_, Int32.le_iff_toInt_le.mpr ?_⟩
  · rw [e]; exact h1
  · rw [e]; exact h2
theorem zr_bastore (hx : p.tables.exec = Jvm.exec) (hb : c.code = cc) (hK : va_K D vwCl tys s) (hS : zSt base cst D tys KA s h H locs) (hd : decode cc pc = .ok (.bastore, 1)) (hf : wAB st h = some (some h', st'))
    (kk : ∀ H1 locs1, zSt base cst D tys KA s h' H1 locs1 → zWW p l e R s m args below meth c H1 locs1 cells slots Q base cst nL (pc + 1) ls st') : zWW p l e R s m args below meth c H locs cells slots Q base cst nL pc ls st := by
  intro L hL
  unfold wAB at hf
  split at hf
  · rename_i x i r s0
    obtain ⟨h1, rfl⟩ := Prod.mk.inj (Option.some.inj hf)
    unfold zaC at h1
    split at h1
    · rename_i a
      split at h1
      · rename_i t n f he
        split at h1
        · rename_i hc
          obtain ⟨ht, ha, c1, c2⟩ := hc
          obtain rfl := Option.some.inj h1
          obtain ⟨ws, hP, hD, hA, hz, hV⟩ := hS
          obtain ⟨cA, ty, g1, g2, g0, g3⟩ := hA.2.2.2.2.2.1 a _ n f ha he
          have e1 : zcv base cst (.inr (.inr (some a))) = .ref (base + a) := by show Value.ref (zrho base cst a) = _; rw [hA.rho g3]
          show W p l e R s m args below meth c H locs cells slots Q (F0 m pc L (.int x :: .int i :: zcv base cst (.inr (.inr (some a))) :: s0.map (zcv base cst)))
          rw [e1]
          rcases ht with rfl | rfl
          · obtain rfl := Option.some.inj g2
            refine W.bast hx hb (hP a _ g3) ((hK.2 1 _ g1).1 n (fun j => .int (f j))) (fun q => by cases q) (by show ¬ (i < 0 ∨ (arrV _ _ _).slots.size ≤ _); rw [arrV_size]; exact zin c1 c2) rfl rfl hd fun H1 e z oq => ?_
            refine kk H1 _ ⟨_, hP.set (e := .inl (cA, n, .inl (zup f i.toNatClampNeg (znar 1 x)))) hD g3 ?_ oq, hD.set g3, hA.setA ha he g3 (fun _ j => ?_), z.trans hz, hV.put z oq (hD.2 a _ g3)⟩ L hL
            · show H1[base + a]? = some (vp_cell _ _)
              rw [e]
              rw [vp_cell_i, vp_cell_i, arrV_store]
              congr 2
              funext q
              by_cases hq : q = i.toNatClampNeg
              · subst hq
                simp [updV, zup, znar]
                rfl
              · simp [updV, zup, hq]
            · unfold zup
              split
              · exact zfit_byte x
              · exact g0.2 rfl j
          · obtain rfl := Option.some.inj g2
            refine W.zast hx hb (hP a _ g3) ((hK.2 2 _ g1).1 n (fun j => .int (f j))) (fun q => by cases q) (by show ¬ (i < 0 ∨ (arrV _ _ _).slots.size ≤ _); rw [arrV_size]; exact zin c1 c2) rfl rfl hd fun H1 e z oq => ?_
            refine kk H1 _ ⟨_, hP.set (e := .inl (cA, n, .inl (zup f i.toNatClampNeg (znar 2 x)))) hD g3 ?_ oq, hD.set g3, hA.setA ha he g3 (fun q => by cases q), z.trans hz, hV.put z oq (hD.2 a _ g3)⟩ L hL
            show H1[base + a]? = some (vp_cell _ _)
            rw [e]
            rw [vp_cell_i, vp_cell_i, arrV_store]
            congr 2
            funext q
            by_cases hq : q = i.toNatClampNeg
            · subst hq
              simp [updV, zup, znar]
              rfl
            · simp [updV, zup, hq]
        · cases h1
      · cases h1
    · cases h1
  · cases hf
theorem zr_aastore (hx : p.tables.exec = Jvm.exec) (hb : c.code = cc) (hK : va_K D vwCl tys s) (hS : zSt base cst D tys KA s h H locs) (hd : decode cc pc = .ok (.aastore, 1)) (hf : wAR st h = some (some h', st'))
    (kk : ∀ H1 locs1, zSt base cst D tys KA s h' H1 locs1 → zWW p l e R s m args below meth c H1 locs1 cells slots Q base cst nL (pc + 1) ls st') : zWW p l e R s m args below meth c H locs cells slots Q base cst nL pc ls st := by
  intro L hL
  unfold wAR at hf
  split at hf
  · rename_i v i r s0
    obtain ⟨h1, rfl⟩ := Prod.mk.inj (Option.some.inj hf)
    unfold zaT at h1
    split at h1
    · rename_i a
      split at h1
      · rename_i t n f he
        split at h1
        · rename_i q
          split at h1
          · rename_i hc
            obtain ⟨c1, c2, c3⟩ := hc
            obtain rfl := Option.some.inj h1
            obtain ⟨ws, hP, hD, hA, hz, hV⟩ := hS
            obtain ⟨cA, t0, r0, g1, g2, -, g3⟩ := hA.2.2.2.2.2.2.2.1 a _ n f he
            obtain ⟨fs, g4⟩ := hA.2.2.2.2.2.2.2.2 q t c3
            have e1 : zcv base cst (.inr (.inr (some a))) = .ref (base + a) := by show Value.ref (zrho base cst a) = _; rw [hA.rho g3]
            have e2 : zcv base cst (.inr (.inr (some q))) = .ref (base + q) := by show Value.ref (zrho base cst q) = _; rw [hA.rho g4]
            show W p l e R s m args below meth c H locs cells slots Q (F0 m pc L (zcv base cst (.inr (.inr (some q))) :: .int i :: zcv base cst (.inr (.inr (some a))) :: s0.map (zcv base cst)))
            rw [e1, e2]
            have hlt : i.toNatClampNeg < n := c2
            have h0 : ¬ i < 0 := fun q => absurd c1 (Int32.not_le.mpr q)
            obtain ⟨r', hr', cellV, k1, k2, k3, -⟩ := hP q _ g4
            have hcls := (hK.1 t r0 g2).2
            obtain ⟨kA, comp, j1, j2, j3, -⟩ := (hK.2 t0 _ g1).2
            have hcomp : comp = D.1 t := Option.some.inj (j3.symm.trans hcls.1)
            subst hcomp
            obtain ⟨kC, hkC, -⟩ := hcls.2
            refine W.aast hx hb (hP a _ g3) (fun q h => by cases h) (fun h => by cases h) j1 j2 rfl hkC ⟨h0, by show _ < (arrV _ _ _).slots.size; rw [arrV_size]; exact hlt⟩ k1 (fun q h => by rw [k3] at h; cases h) (by rw [k2]; exact hkC) (by rw [k2]; exact va_assign hcls) rfl rfl hd fun H1 e z oq => ?_
            refine kk H1 _ ⟨_, hP.set (e := .inl (cA, n, .inr (.inr (.inr (.inr (fun j => (zup f i.toNatClampNeg (some q) j).map (zrho base cst))))))) hD g3 ?_ oq, hD.set g3, hA.setQ he g3, z.trans hz, hV.put z oq (hD.2 a _ g3)⟩ L hL
            show H1[base + a]? = some (vp_cell _ _)
            rw [e]
            rw [vp_cell_q, vp_cell_q, arrV_store]
            congr 2
            funext j
            by_cases hq : j = i.toNatClampNeg
            · subst hq
              simp [updV, zup, va_rf, hA.rho g4]
            · simp [updV, zup, hq]
          · cases h1
        · cases h1
      · cases h1
    · cases h1
  · cases hf
theorem zr_copy (hx : p.tables.exec = Jvm.exec) (hb : c.code = cc) (hml : c.maxLocals = nL) (hts : ∀ w ∈ zT, w.before args s = true) (hown : s.vm.findClass own = some m.cls) (hK : va_K D vwCl tys s) (h1 : Cond.methodLink own idx arraycopyName ∈ zT) (h2 : Cond.native arraycopyName ∈ zT) (h3 : Cond.static arraycopyName ∈ zT) (h4 : Cond.initialized "java/lang/System" ∈ zT) (hfr : 1 ≤ R.frames) (hlo : 8 + 18 ≤ R.locals) (hS : zSt base cst D tys KA s h H locs) (hd : decode cc pc = .ok (.invokestatic idx, 3)) (hf : wCp st h = some (some h', st'))
    (hcs : ((st'.map (zcv base cst)).map fun v => v.category).sum ≤ zcs st')
    (kk : ∀ H1 locs1, zSt base cst D tys KA s h' H1 locs1 → zWW p l e R s m args below meth c H1 locs1 cells slots Q base cst nL (pc + 3) ls st') : zWW p l e R s m args below meth c H locs cells slots Q base cst nL pc ls st := by
  intro L hL
  unfold wCp at hf
  split at hf
  · rename_i n dp q sp r s0
    have hf0 : zcs s0 ≤ 8 ∧ some (zaY h r sp q dp n, s0) = some (some h', st') := by
      unfold zk8 at hf
      split at hf
      · rename_i hb
        exact ⟨Nat.le_of_ble_eq_true hb, hf⟩
      · cases hf
    clear hf
    obtain ⟨hst, hf⟩ := hf0
    obtain ⟨g, rfl⟩ := Prod.mk.inj (Option.some.inj hf)
    unfold zaY at g
    split at g
    · rename_i a b
      split at g
      · rename_i t n0 f t' n1 f' he he'
        split at g
        · rename_i hc
          obtain ⟨rfl, ht, ha, hb', hab, c1, c2, c3, c4, c5⟩ := hc
          obtain rfl := Option.some.inj g
          obtain ⟨ws, hP, hD, hA, hz, hV⟩ := hS
          obtain ⟨cA, ty, g1, g2, g0, g3⟩ := hA.2.2.2.2.2.1 a _ n0 f ha he
          obtain ⟨cB, ty', k1, k2, k0, k3⟩ := hA.2.2.2.2.2.1 b _ n1 f' hb' he'
          obtain rfl := Option.some.inj (g2.symm.trans k2)
          have e1 : zcv base cst (.inr (.inr (some a))) = .ref (base + a) := by show Value.ref (zrho base cst a) = _; rw [hA.rho g3]
          have e2 : zcv base cst (.inr (.inr (some b))) = .ref (base + b) := by show Value.ref (zrho base cst b) = _; rw [hA.rho k3]
          show W p l e R s m args below meth c H locs cells slots Q (F0 m pc L (.int n :: .int dp :: zcv base cst (.inr (.inr (some b))) :: .int sp :: zcv base cst (.inr (.inr (some a))) :: s0.map (zcv base cst)))
          rw [e1, e2]
          have nn : ∀ z : Int32, 0 ≤ z → ¬ z < 0 := fun z hz => Int32.not_lt.mpr hz
          have hprim : refKind ty = false := by rcases ht with rfl | rfl <;> (obtain rfl := Option.some.inj g2; rfl)
          have hfit : ∀ i, i < n.toNatClampNeg → fits ty (.int (f (sp.toNatClampNeg + i))) = true := by
            intro i hi
            rcases ht with rfl | rfl
            · obtain rfl := Option.some.inj g2; rfl
            · obtain rfl := Option.some.inj g2; exact g0.2 rfl _
          have hsz : ∀ (H1 : Heap) (ws1 : va_W), va_P D vwCl ws1 H1 → True := fun _ _ _ => trivial
          have hnw : nativeFrameWords "java/lang/System" "arraycopy" 5 = 7 := by decide +kernel
          intro T hT X
          have hc0 : H[base + a]? = some (vp_cell cA (n0, .inl f)) := hP a _ g3
          have hc1 : H[base + b]? = some (vp_cell cB (n1, .inl f')) := hP b _ k3
          have nz : ∀ z : Int32, ¬ z < 0 → z.toInt = (z.toNatClampNeg : Int) := by
            intro z hz
            have hz0 : (0 : Int) ≤ z.toInt := by
              have := Int32.not_lt.mp hz
              simpa using Int32.le_iff_toInt_le.mp this
            show z.toInt = ((z.toInt.toNat : Nat) : Int)
            omega
          obtain ⟨-, m0, hm0, cm0, hmm0⟩ := (hK.2 _ _ g1).1 n0 (fun j => .int (f j))
          obtain ⟨-, m1, hm1, cm1, hmm1⟩ := (hK.2 _ _ k1).1 n1 (fun j => .int (f' j))
          obtain ⟨vm', X', step⟩ := X.arraycopy hx hown (hts _ h1) (hts _ h2) (hts _ h3) (hts _ h4) (src := base + a) (dst := base + b) (cs := vp_cell cA (n0, .inl f)) (cd := vp_cell cB (n1, .inl f')) (srcPos := sp) (destPos := dp) (n := n) (by rw [hT]; exact hc0) (by rw [hT]; exact hc1)
            (fun _ h => by cases h) (fun _ h => by cases h) (fun h => by cases h) (fun h => by cases h) hm0 hm1 hmm0 hmm1 (by simp [hprim]) (nn sp c1) (nn dp c2) (nn n c3)
            (by rw [nz sp (nn sp c1), nz n (nn n c3)]; show ¬ _ > ((arrV cA n0 (fun j => .int (f j))).slots.size : Int); rw [arrV_size]; omega)
            (by rw [nz dp (nn dp c2), nz n (nn n c3)]; show ¬ _ > ((arrV cB n1 (fun j => .int (f' j))).slots.size : Int); rw [arrV_size]; omega)
            (fun vm₁ _ i hi => by
              have e : (vp_cell cA (n0, .inl f)).slots.getD (sp.toNatClampNeg + i) .null = .int (f (sp.toNatClampNeg + i)) := by
                show (arrV cA n0 (fun j => .int (f j))).slots.getD _ _ = _
                rw [Array.getD_eq_getD_getElem?, arrV_read _ _ (by omega)]
                rfl
              refine ⟨?_, ?_⟩
              · rw [e]
                exact hfit i hi
              · rw [e]
                exact trivial)
            (g := F0 m pc L (.int n :: .int dp :: .ref (base + b) :: .int sp :: .ref (base + a) :: s0.map (zcv base cst))) rfl (by rw [hml]; exact hL.2.1) (rest := s0.map (zcv base cst)) rfl (by rw [hb]; exact hd) hfr (by rw [hnw]; show 2 * 0 + _ + (7 + 11) ≤ _; omega)
          have e1 : copied (vp_cell cA (n0, .inl f)) (vp_cell cB (n1, .inl f')) sp dp n = vp_cell cB (n1, .inl (va_cpy f f' sp.toNatClampNeg dp.toNatClampNeg n.toNatClampNeg)) := va_copied (fun z => .int z) cA cB f f' c4
          rw [e1] at X' step
          have hl : base + b < H.size := (Array.getElem?_eq_some_iff.mp hc1).1
          have hheap : ((T.setVm vm').setCell (base + b) (vp_cell cB (n1, .inl (va_cpy f f' sp.toNatClampNeg dp.toNatClampNeg n.toNatClampNeg)))).heap = H.setIfInBounds (base + b) (vp_cell cB (n1, .inl (va_cpy f f' sp.toNatClampNeg dp.toNatClampNeg n.toNatClampNeg))) := by rw [← hT]; rfl
          have oq : ∀ q : Nat, q ≠ base + b → (H.setIfInBounds (base + b) (vp_cell cB (n1, .inl (va_cpy f f' sp.toNatClampNeg dp.toNatClampNeg n.toNatClampNeg))))[q]? = H[q]? := fun q hq => by simp [Array.getElem?_setIfInBounds, Ne.symm hq]
          obtain ⟨t2, a1, b1⟩ := kk _ _ ⟨_, hP.set (e := .inl (cB, n1, .inl (zcpy f f' sp.toNatClampNeg dp.toNatClampNeg n.toNatClampNeg))) hD k3 (show (H.setIfInBounds (base + b) _)[base + b]? = some _ by simp [Array.getElem?_setIfInBounds, hl]; rfl) oq, hD.set k3, hA.setA hb' he' k3 (fun t1 j => by
              unfold zcpy
              split
              · exact g0.2 t1 _
              · exact k0.2 t1 _), by simp; exact hz, ⟨by simp; exact hV.1, fun q g1 g2 => by
              rw [oq q (fun e => g2 (by rw [e]; exact hD.2 b _ k3))]
              exact hV.2.1 q g1 g2, fun q hq => by
              rcases List.mem_append.mp hq with h | h
              · exact hV.2.2 q h
              · obtain ⟨z, -, hz⟩ := List.mem_map.mp h
                rw [← hz]
                exact hD.2 b _ k3⟩⟩ L hL _ hheap X'
          exact ⟨t2, step t2 a1, b1⟩
        · cases g
      · cases g
    · cases g
  · cases hf
end ZR4
