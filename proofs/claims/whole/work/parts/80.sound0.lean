/-! the abstract machine and the real one: values and locals -/
def zrho (base : Nat) (cst : Nat → Nat) (a : Nat) : Nat := if a < zK0 then base + a else cst a
def zcr (base : Nat) (cst : Nat → Nat) (r : Option Nat) : Value := match r with
  | none => .null
  | some a => .ref (zrho base cst a)
def zcv (base : Nat) (cst : Nat → Nat) (v : zVal) : Value := match v with
  | .inl x => .int x
  | .inr (.inl y) => .long y
  | .inr (.inr r) => zcr base cst r
def zvd (ls : zLoc) (k : Nat) : Option zVal := match ls[k]? with
  | some (some (.inr (.inl y))) => match ls[k + 1]? with
    | some none => some (.inr (.inl y))
    | _ => none
  | some (some (.inl x)) => some (.inl x)
  | some (some (.inr (.inr r))) => some (.inr (.inr r))
  | _ => none
def zLR (base : Nat) (cst : Nat → Nat) (ls : zLoc) (L : Array Slot) (nL : Nat) : Prop := ls.length = nL ∧ L.size = nL ∧ lv_wf L ∧ ∀ k v, zvd ls k = some v → L[k]? = some (.val (zcv base cst v))
def zlv (base : Nat) (cst : Nat → Nat) (ls : zLoc) : List (Nat × Value) := (List.range ls.length).filterMap (fun k => (zvd ls k).map (fun v => (k, zcv base cst v)))
theorem zvd_lt {ls : zLoc} {k : Nat} {v : zVal} (h : zvd ls k = some v) : k < ls.length := by
  unfold zvd at h
  rcases Nat.lt_or_ge k ls.length with q | q
  · exact q
  · rw [List.getElem?_eq_none q] at h
    cases h
theorem zlv_mem {base : Nat} {cst : Nat → Nat} {ls : zLoc} {q : Nat × Value} : q ∈ zlv base cst ls ↔ ∃ v, zvd ls q.1 = some v ∧ q.2 = zcv base cst v := by
  unfold zlv
  rw [List.mem_filterMap]
  constructor
  · rintro ⟨k, -, hk⟩
    cases hv : zvd ls k with
    | none => rw [hv] at hk; cases hk
    | some v =>
      rw [hv] at hk
      obtain rfl := Option.some.inj hk
      exact ⟨v, hv, rfl⟩
  · rintro ⟨v, hv, he⟩
    exact ⟨q.1, List.mem_range.mpr (zvd_lt hv), by rw [hv]; show some (q.1, zcv base cst v) = some q; rw [← he]⟩
theorem zLR.has {base : Nat} {cst : Nat → Nat} {ls : zLoc} {L : Array Slot} {nL : Nat} (h : zLR base cst ls L nL) : lv_has L nL (zlv base cst ls) :=
  ⟨h.2.1, h.2.2.1, fun q hq => by obtain ⟨v, hv, he⟩ := zlv_mem.mp hq; rw [he]; exact h.2.2.2 q.1 v hv⟩
theorem zcv_cat1 {base : Nat} {cst : Nat → Nat} {v : zVal} (h : ∀ y, v ≠ .inr (.inl y)) : (zcv base cst v).category = 1 := by
  rcases v with x | y | r
  · rfl
  · exact absurd rfl (h y)
  · cases r <;> rfl
theorem zvd_val {ls : zLoc} {k : Nat} {v : zVal} (h : zvd ls k = some v) : ls[k]? = some (some v) ∧ ((∃ y, v = .inr (.inl y)) → ls[k + 1]? = some none) := by
  unfold zvd at h
  split at h
  · rename_i y he
    split at h
    · rename_i h2
      obtain rfl := Option.some.inj h
      exact ⟨he, fun _ => h2⟩
    · cases h
  · rename_i x he
    obtain rfl := Option.some.inj h
    exact ⟨he, fun ⟨y, hy⟩ => by cases hy⟩
  · rename_i r he
    obtain rfl := Option.some.inj h
    exact ⟨he, fun ⟨y, hy⟩ => by cases hy⟩
  · cases h
theorem zvd_of {ls : zLoc} {k : Nat} {v : zVal} (h : ls[k]? = some (some v)) (h2 : (∃ y, v = .inr (.inl y)) → ls[k + 1]? = some none) : zvd ls k = some v := by
  unfold zvd
  rcases v with x | y | r
  · rw [h]
  · rw [h]; dsimp only; rw [h2 ⟨y, rfl⟩]
  · rw [h]
/-- a value of one slot is stored -/
theorem zLR.set1 {base : Nat} {cst : Nat → Nat} {ls : zLoc} {L L' : Array Slot} {nL i : Nat} {v : zVal} (h : zLR base cst ls L nL) (hi : i < nL) (hv : ∀ y, v ≠ .inr (.inl y)) (h' : lv_has L' nL ((i, zcv base cst v) :: (zlv base cst ls).filter (fun q => !(q.1 == i) && !(q.1 + 1 == i && q.2.category == 2)))) : zLR base cst (ls.set i (some v)) L' nL := by
  refine ⟨by rw [List.length_set]; exact h.1, h'.1, h'.2.1, fun k w hw => ?_⟩
  obtain ⟨g1, g2⟩ := zvd_val hw
  have hil : i < ls.length := by rw [h.1]; exact hi
  by_cases hk : k = i
  · subst hk
    rw [List.getElem?_set_self hil] at g1
    obtain rfl := Option.some.inj (Option.some.inj g1)
    exact h'.2.2 (k, zcv base cst v) List.mem_cons_self
  · rw [List.getElem?_set_ne (Ne.symm hk)] at g1
    have hz : zvd ls k = some w := zvd_of g1 (fun hy => by
      have g3 := g2 hy
      by_cases hk1 : k + 1 = i
      · subst hk1
        rw [List.getElem?_set_self hil] at g3
        cases g3
      · rw [List.getElem?_set_ne (Ne.symm hk1)] at g3
        exact g3)
    refine h'.2.2 (k, zcv base cst w) (List.mem_cons_of_mem _ (List.mem_filter.mpr ⟨zlv_mem.mpr ⟨w, hz, rfl⟩, ?_⟩))
    have hne : (k == i) = false := by simpa using hk
    by_cases hk1 : k + 1 = i
    · have hc : (zcv base cst w).category = 1 := zcv_cat1 (fun y hy => by
        have g3 := g2 ⟨y, hy⟩
        subst hk1
        rw [List.getElem?_set_self hil] at g3
        cases g3)
      simp [hne, hc]
    · have : (k + 1 == i) = false := by simpa using hk1
      simp [hne, this]
/-- a long is stored -/
theorem zLR.set2 {base : Nat} {cst : Nat → Nat} {ls : zLoc} {L L' : Array Slot} {nL i : Nat} {y : Int64} (h : zLR base cst ls L nL) (hi : i + 1 < nL) (h' : lv_has L' nL ((i, Value.long y) :: (zlv base cst ls).filter (fun q => !(q.1 == i) && (!(q.1 == i + 1) && !(q.1 + 1 == i && q.2.category == 2))))) : zLR base cst ((ls.set i (some (.inr (.inl y)))).set (i + 1) none) L' nL := by
  refine ⟨by rw [List.length_set, List.length_set]; exact h.1, h'.1, h'.2.1, fun k w hw => ?_⟩
  obtain ⟨g1, g2⟩ := zvd_val hw
  have hil : i < ls.length := by rw [h.1]; omega
  have hil1 : i + 1 < (ls.set i (some (.inr (.inl y)))).length := by rw [List.length_set, h.1]; exact hi
  by_cases hk1 : k = i + 1
  · subst hk1
    rw [List.getElem?_set_self hil1] at g1
    cases g1
  · rw [List.getElem?_set_ne (Ne.symm hk1)] at g1
    by_cases hk : k = i
    · subst hk
      rw [List.getElem?_set_self hil] at g1
      obtain rfl := Option.some.inj (Option.some.inj g1)
      exact h'.2.2 (k, Value.long y) List.mem_cons_self
    · rw [List.getElem?_set_ne (Ne.symm hk)] at g1
      have hz : zvd ls k = some w := zvd_of g1 (fun hy => by
        have g3 := g2 hy
        by_cases hq : k + 1 = i + 1
        · exact absurd (by omega) hk
        · rw [List.getElem?_set_ne (Ne.symm hq)] at g3
          by_cases hq2 : k + 1 = i
          · subst hq2
            rw [List.getElem?_set_self hil] at g3
            cases g3
          · rw [List.getElem?_set_ne (Ne.symm hq2)] at g3
            exact g3)
      refine h'.2.2 (k, zcv base cst w) (List.mem_cons_of_mem _ (List.mem_filter.mpr ⟨zlv_mem.mpr ⟨w, hz, rfl⟩, ?_⟩))
      have hne : (k == i) = false := by simpa using hk
      have hne1 : (k == i + 1) = false := by simpa using hk1
      by_cases hq : k + 1 = i
      · have hc : (zcv base cst w).category = 1 := zcv_cat1 (fun y hy => by
          have g3 := g2 ⟨y, hy⟩
          rw [List.getElem?_set_ne (by omega)] at g3
          subst hq
          rw [List.getElem?_set_self hil] at g3
          cases g3)
        simp [hne, hne1, hc]
      · have : (k + 1 == i) = false := by simpa using hq
        simp [hne, hne1, this]
