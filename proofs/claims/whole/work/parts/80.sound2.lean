/-! the heap: what the abstract one says of the real one -/
/-- the tables' words that stay as classes are linked -/
def zT : List Cond := lw_tbl.filter goodWord
theorem zT_mem {w : Cond} (h : w ∈ lw_tbl) (g : goodWord w = true) : w ∈ zT := List.mem_filter.mpr ⟨h, g⟩
def zTyE (t : Nat) : Option FieldType := match t with
  | 0 => some .int
  | 1 => some .byte
  | 2 => some .boolean
  | _ => none
def zA (base : Nat) : Nat → Prop := fun q => base ≤ q
def zAb (base : Nat) (cst : Nat → Nat) (tys : List (ClassId × FieldType)) (KA : Nat → Option (Nat × (Nat → Int32))) (h : zHeap) (ws : va_W) : Prop :=
  ws.length = hN h ∧ hN h ≤ zK0 ∧ (∀ (k : Nat) (q : Nat × va_E), ws[k]? = some q → q.1 = base + k) ∧
  (∀ (k a : Nat) (x : Int32), hFI h k a = some x → ∃ fs : List Value, ws[a]? = some (base + a, .inr (k / 64, fs)) ∧ fs[k % 64]? = some (.int x)) ∧
  (∀ (k a : Nat) (r : Option Nat), hFR h k a = some r → ∃ fs : List Value, ws[a]? = some (base + a, .inr (k / 64, fs)) ∧ fs[k % 64]? = some (zcr base cst r)) ∧
  (∀ (a t n : Nat) (f : Nat → Int32), a < zK0 → hAI h a = some (t, n, f) → ∃ (cA : ClassId) (ty : FieldType), tys[t]? = some (cA, ty) ∧ zTyE t = some ty ∧ (n ≤ 100000 ∧ (t = 1 → ∀ j, fits .byte (.int (f j)) = true)) ∧ ws[a]? = some (base + a, .inl (cA, n, .inl f))) ∧
  (∀ (a t n : Nat) (f : Nat → Int32), zK0 ≤ a → hAI h a = some (t, n, f) → t = 0 ∧ KA a = some (n, f)) ∧
  (∀ (a C n : Nat) (f : Nat → Option Nat), hAR h a = some (C, n, f) → ∃ (cA : ClassId) (t0 : Nat) (r : vw_C), tys[t0]? = some (cA, .object r.1) ∧ vwCl[C]? = some r ∧ n ≤ 100000 ∧ ws[a]? = some (base + a, .inl (cA, n, .inr (.inr (.inr (.inr (fun j => (f j).map (zrho base cst)))))))) ∧
  (∀ a C : Nat, hCL h a = some C → ∃ fs : List Value, ws[a]? = some (base + a, .inr (C, fs)))
def zSt (base : Nat) (cst : Nat → Nat) (D : va_G) (tys : List (ClassId × FieldType)) (KA : Nat → Option (Nat × (Nat → Int32))) (s : State) (h : zHeap) (H : Heap) (locs : List Loc) : Prop :=
  ∃ ws : va_W, va_P D vwCl ws H ∧ va_D (zA base) ws ∧ zAb base cst tys KA h ws ∧ H.size = base + hN h ∧ va_S (zA base) s.heap H locs
theorem zAb.rho {base : Nat} {cst : Nat → Nat} {tys : List (ClassId × FieldType)} {KA : Nat → Option (Nat × (Nat → Int32))} {h : zHeap} {ws : va_W} (hA : zAb base cst tys KA h ws) {a : Nat} {q : Nat × va_E} (hq : ws[a]? = some q) : zrho base cst a = base + a := by
  have h1 : a < ws.length := (List.getElem?_eq_some_iff.mp hq).1
  rw [hA.1] at h1
  unfold zrho
  rw [if_pos (Nat.lt_of_lt_of_le h1 hA.2.1)]
/-- a field's entry in a class's pool -/
def zFok (own : String) (idx k : Nat) : Prop := ∃ (C : String) (T : u_T) (N : Nat), vwCl[k / 64]? = some (C, T, N) ∧ (∀ w ∈ u_ws C T N, w ∈ zT) ∧ k % 64 < N ∧ Cond.fieldLink own idx (T (k % 64)).1 (T (k % 64)).2.1 (T (k % 64)).2.2.1 ∈ zT
section ZR2
variable {p : Program} {l : Launch} {e : Env} {R : Room} {s : State} {m : MethodId} {args : Array Value} {below : List Frame} {meth : Method} {c : Code} {H : Heap} {locs : List Loc} {cells slots : Nat} {Q : State → Prop}
variable {cc : ByteArray} {pc : Nat} {base : Nat} {cst : Nat → Nat} {ls ls' : zLoc} {st st' : zStk} {nL : Nat} {D : va_G} {tys : List (ClassId × FieldType)} {KA : Nat → Option (Nat × (Nat → Int32))} {h h' : zHeap} {own : String} {idx k : Nat}
theorem zr_getI (hx : p.tables.exec = Jvm.exec) (hb : c.code = cc) (hts : ∀ w ∈ zT, w.before args s = true) (hown : s.vm.findClass own = some m.cls) (hK : va_K D vwCl tys s) (hp : zFok own idx k) (hS : zSt base cst D tys KA s h H locs) (hd : decode cc pc = .ok (.getfield idx, 3)) {x : Int32} (hf : gFI k st h = some (some x, st'))
    (kk : zWW p l e R s m args below meth c H locs cells slots Q base cst nL (pc + 3) ls (.inl x :: st')) : zWW p l e R s m args below meth c H locs cells slots Q base cst nL pc ls st := by
  intro L hL
  unfold gFI at hf
  split at hf
  · rename_i r s0
    obtain ⟨h1, rfl⟩ := Prod.mk.inj (Option.some.inj hf)
    cases r with
    | none => cases h1
    | some a =>
      obtain ⟨ws, hP, hD, hA, hz, hV⟩ := hS
      obtain ⟨fs, g1, g2⟩ := hA.2.2.2.1 k a x h1
      obtain ⟨C, T, N, q1, q2, q3, q4⟩ := hp
      have e1 : zcv base cst (.inr (.inr (some a))) = .ref (base + a) := by show Value.ref (zrho base cst a) = _; rw [hA.rho g1]
      show W p l e R s m args below meth c H locs cells slots Q (F0 m pc L (zcv base cst (.inr (.inr (some a))) :: s0.map (zcv base cst)))
      rw [e1]
      exact va_get hx hb hts q2 hown hK hP a g1 q1 (k % 64) q3 (hts _ q4) (fun _ h => h) g2 hd (kk L hL)
  · cases hf
theorem zr_getR (hx : p.tables.exec = Jvm.exec) (hb : c.code = cc) (hts : ∀ w ∈ zT, w.before args s = true) (hown : s.vm.findClass own = some m.cls) (hK : va_K D vwCl tys s) (hp : zFok own idx k) (hS : zSt base cst D tys KA s h H locs) (hd : decode cc pc = .ok (.getfield idx, 3)) {x : Option Nat} (hf : gFR k st h = some (some x, st'))
    (kk : zWW p l e R s m args below meth c H locs cells slots Q base cst nL (pc + 3) ls (.inr (.inr x) :: st')) : zWW p l e R s m args below meth c H locs cells slots Q base cst nL pc ls st := by
  intro L hL
  unfold gFR at hf
  split at hf
  · rename_i r s0
    obtain ⟨h1, rfl⟩ := Prod.mk.inj (Option.some.inj hf)
    cases r with
    | none => cases h1
    | some a =>
      obtain ⟨ws, hP, hD, hA, hz, hV⟩ := hS
      obtain ⟨fs, g1, g2⟩ := hA.2.2.2.2.1 k a x h1
      obtain ⟨C, T, N, q1, q2, q3, q4⟩ := hp
      have e1 : zcv base cst (.inr (.inr (some a))) = .ref (base + a) := by show Value.ref (zrho base cst a) = _; rw [hA.rho g1]
      show W p l e R s m args below meth c H locs cells slots Q (F0 m pc L (zcv base cst (.inr (.inr (some a))) :: s0.map (zcv base cst)))
      rw [e1]
      exact va_get hx hb hts q2 hown hK hP a g1 q1 (k % 64) q3 (hts _ q4) (fun _ h => h) g2 hd (kk L hL)
  · cases hf
theorem zin {i : Int32} {n : Nat} (h0 : 0 ≤ i) (h1 : i.toNatClampNeg < n) : vp_in i n := by
  rintro (q | q)
  · exact absurd h0 (Int32.not_le.mpr q)
  · omega
/-- a constant row: read alone -/
def zKAok (base : Nat) (cst : Nat → Nat) (KA : Nat → Option (Nat × (Nat → Int32))) (s : State) : Prop := ∀ (a n : Nat) (f : Nat → Int32), KA a = some (n, f) → va_T .int (cst a) n (fun j => .int (f j)) (zA base) s s.heap
theorem zr_iaload (hx : p.tables.exec = Jvm.exec) (hb : c.code = cc) (hK : va_K D vwCl tys s) (hKA : zKAok base cst KA s) (hS : zSt base cst D tys KA s h H locs) (hd : decode cc pc = .ok (.iaload, 1)) {x : Int32} (hf : gAI st h = some (some x, st'))
    (kk : zWW p l e R s m args below meth c H locs cells slots Q base cst nL (pc + 1) ls (.inl x :: st')) : zWW p l e R s m args below meth c H locs cells slots Q base cst nL pc ls st := by
  intro L hL
  unfold gAI at hf
  split at hf
  · rename_i i r s0
    obtain ⟨h1, rfl⟩ := Prod.mk.inj (Option.some.inj hf)
    unfold zaI at h1
    split at h1
    · rename_i a
      split at h1
      · rename_i t' n f he
        split at h1
        · rename_i hc
          obtain ⟨rfl, c1, c2⟩ := hc
          obtain rfl := Option.some.inj h1
          obtain ⟨ws, hP, hD, hA, hz, hV⟩ := hS
          rcases Nat.lt_or_ge a zK0 with ha | ha
          · obtain ⟨cA, ty, g1, g2, -, g3⟩ := hA.2.2.2.2.2.1 a _ n f ha he
            obtain rfl := Option.some.inj g2
            have e1 : zcv base cst (.inr (.inr (some a))) = .ref (base + a) := by show Value.ref (zrho base cst a) = _; rw [hA.rho g3]
            show W p l e R s m args below meth c H locs cells slots Q (F0 m pc L (.int i :: zcv base cst (.inr (.inr (some a))) :: s0.map (zcv base cst)))
            rw [e1]
            exact va_iald hx hb hK hP a _ g3 g1 (zin c1 c2) hd (kk L hL)
          · obtain ⟨-, g2⟩ := hA.2.2.2.2.2.2.1 a _ n f ha he
            obtain ⟨cell, k1, k2, k3, k4, k5, k6, k7⟩ := hKA a n f g2
            have e1 : zcv base cst (.inr (.inr (some a))) = .ref (cst a) := by show Value.ref (zrho base cst a) = _; unfold zrho; rw [if_neg (by omega)]
            show W p l e R s m args below meth c H locs cells slots Q (F0 m pc L (.int i :: zcv base cst (.inr (.inr (some a))) :: s0.map (zcv base cst)))
            rw [e1]
            refine W.iald (v := .int (f i.toNatClampNeg)) hx hb (by rw [hV.2.1 (cst a) (Array.getElem?_eq_some_iff.mp k1).1 k7]; exact k1) k2 k3 ?_ (k6 _ c2) rfl rfl hd (kk L hL)
            rintro (q | q)
            · exact absurd c1 (Int32.not_le.mpr q)
            · omega
        · cases h1
      · cases h1
    · cases h1
  · cases hf
theorem zr_baload (hx : p.tables.exec = Jvm.exec) (hb : c.code = cc) (hK : va_K D vwCl tys s) (hS : zSt base cst D tys KA s h H locs) (hd : decode cc pc = .ok (.baload, 1)) {x : Int32} (hf : gAB st h = some (some x, st'))
    (kk : zWW p l e R s m args below meth c H locs cells slots Q base cst nL (pc + 1) ls (.inl x :: st')) : zWW p l e R s m args below meth c H locs cells slots Q base cst nL pc ls st := by
  intro L hL
  unfold gAB at hf
  split at hf
  · rename_i i r s0
    obtain ⟨h1, rfl⟩ := Prod.mk.inj (Option.some.inj hf)
    unfold zaB at h1
    split at h1
    · rename_i a
      split at h1
      · rename_i t n f he
        split at h1
        · rename_i hc
          obtain ⟨c0, c1, c2⟩ := hc
          obtain rfl := Option.some.inj h1
          obtain ⟨ws, hP, hD, hA, hz, hV⟩ := hS
          rcases Nat.lt_or_ge a zK0 with ha | ha
          · obtain ⟨cA, ty, g1, g2, -, g3⟩ := hA.2.2.2.2.2.1 a _ n f ha he
            have e1 : zcv base cst (.inr (.inr (some a))) = .ref (base + a) := by show Value.ref (zrho base cst a) = _; rw [hA.rho g3]
            show W p l e R s m args below meth c H locs cells slots Q (F0 m pc L (.int i :: zcv base cst (.inr (.inr (some a))) :: s0.map (zcv base cst)))
            rw [e1]
            rcases c0 with rfl | rfl
            · obtain rfl := Option.some.inj g2
              exact va_bald hx hb hK hP a _ g3 g1 (zin c1 c2) hd (kk L hL)
            · obtain rfl := Option.some.inj g2
              exact va_zald hx hb hK hP a _ g3 g1 (zin c1 c2) hd (kk L hL)
          · obtain ⟨g1, -⟩ := hA.2.2.2.2.2.2.1 a _ n f ha he
            omega
        · cases h1
      · cases h1
    · cases h1
  · cases hf
theorem zr_aaload (hx : p.tables.exec = Jvm.exec) (hb : c.code = cc) (hK : va_K D vwCl tys s) (hS : zSt base cst D tys KA s h H locs) (hd : decode cc pc = .ok (.aaload, 1)) {x : Option Nat} (hf : gAR st h = some (some x, st'))
    (kk : zWW p l e R s m args below meth c H locs cells slots Q base cst nL (pc + 1) ls (.inr (.inr x) :: st')) : zWW p l e R s m args below meth c H locs cells slots Q base cst nL pc ls st := by
  intro L hL
  unfold gAR at hf
  split at hf
  · rename_i i r s0
    obtain ⟨h1, rfl⟩ := Prod.mk.inj (Option.some.inj hf)
    unfold zaR at h1
    split at h1
    · rename_i a
      split at h1
      · rename_i t n f he
        split at h1
        · rename_i hc
          obtain ⟨c1, c2⟩ := hc
          obtain rfl := Option.some.inj h1
          obtain ⟨ws, hP, hD, hA, hz, hV⟩ := hS
          obtain ⟨cA, t0, r0, g1, g2, -, g3⟩ := hA.2.2.2.2.2.2.2.1 a _ n f he
          have e1 : zcv base cst (.inr (.inr (some a))) = .ref (base + a) := by show Value.ref (zrho base cst a) = _; rw [hA.rho g3]
          show W p l e R s m args below meth c H locs cells slots Q (F0 m pc L (.int i :: zcv base cst (.inr (.inr (some a))) :: s0.map (zcv base cst)))
          rw [e1]
          have e2 : va_rf ((f i.toNatClampNeg).map (zrho base cst)) = zcv base cst (.inr (.inr (f i.toNatClampNeg))) := by
            cases f i.toNatClampNeg <;> rfl
          refine va_aldq hx hb hK hP a t0 g3 g1 (zin c1 c2) hd ?_
          rw [e2]
          exact kk L hL
        · cases h1
      · cases h1
    · cases h1
  · cases hf
theorem zr_alen (hx : p.tables.exec = Jvm.exec) (hb : c.code = cc) (hK : va_K D vwCl tys s) (hKA : zKAok base cst KA s) (hS : zSt base cst D tys KA s h H locs) (hd : decode cc pc = .ok (.arraylength, 1)) {x : Int32} (hf : gAN st h = some (some x, st'))
    (kk : zWW p l e R s m args below meth c H locs cells slots Q base cst nL (pc + 1) ls (.inl x :: st')) : zWW p l e R s m args below meth c H locs cells slots Q base cst nL pc ls st := by
  intro L hL
  unfold gAN at hf
  split at hf
  · rename_i r s0
    obtain ⟨h1, rfl⟩ := Prod.mk.inj (Option.some.inj hf)
    unfold zaN at h1
    split at h1
    · rename_i a
      split at h1
      · rename_i t n f he
        obtain rfl := Option.some.inj h1
        have en : Int32.ofNat n = i32 (n : Int) := by unfold i32; exact (Int32.ofInt_eq_ofNat).symm
        obtain ⟨ws, hP, hD, hA, hz, hV⟩ := hS
        rcases Nat.lt_or_ge a zK0 with ha | ha
        · obtain ⟨cA, ty, g1, g2, -, g3⟩ := hA.2.2.2.2.2.1 a _ n f ha he
          have e1 : zcv base cst (.inr (.inr (some a))) = .ref (base + a) := by show Value.ref (zrho base cst a) = _; rw [hA.rho g3]
          show W p l e R s m args below meth c H locs cells slots Q (F0 m pc L (zcv base cst (.inr (.inr (some a))) :: s0.map (zcv base cst)))
          rw [e1]
          exact va_alen hx hb hK hP a t g3 g1 en hd (kk L hL)
        · obtain ⟨-, g2⟩ := hA.2.2.2.2.2.2.1 a _ n f ha he
          obtain ⟨cell, k1, k2, k3, k4, k5, k6, k7⟩ := hKA a n f g2
          have e1 : zcv base cst (.inr (.inr (some a))) = .ref (cst a) := by show Value.ref (zrho base cst a) = _; unfold zrho; rw [if_neg (by omega)]
          show W p l e R s m args below meth c H locs cells slots Q (F0 m pc L (zcv base cst (.inr (.inr (some a))) :: s0.map (zcv base cst)))
          rw [e1]
          exact W.alen (n := i32 (n : Int)) hx hb (by rw [hV.2.1 (cst a) (Array.getElem?_eq_some_iff.mp k1).1 k7]; exact k1) k2 (by rw [k5, en]) rfl rfl hd (kk L hL)
      · cases h1
    · cases h1
  · cases hf
end ZR2
