/-! writes -/
section ZR3
variable {base : Nat} {cst : Nat → Nat} {tys : List (ClassId × FieldType)} {KA : Nat → Option (Nat × (Nat → Int32))} {h : zHeap} {ws : va_W} {a : Nat}
theorem zset_len {e : Nat × va_E} : (ws.set a e).length = ws.length := List.length_set
theorem zset_at {e0 e : Nat × va_E} (h0 : ws[a]? = some e0) : (ws.set a e)[a]? = some e := List.getElem?_set_self (List.getElem?_eq_some_iff.mp h0).1
theorem zset_ne {e : Nat × va_E} {b : Nat} (hb : b ≠ a) : (ws.set a e)[b]? = ws[b]? := List.getElem?_set_ne (Ne.symm hb)
theorem zset_addr {e1 : va_E} (hA : ∀ (k : Nat) (q : Nat × va_E), ws[k]? = some q → q.1 = base + k) : ∀ (k : Nat) (q : Nat × va_E), (ws.set a (base + a, e1))[k]? = some q → q.1 = base + k := by
  intro k q hq
  by_cases hk : k = a
  · subst hk
    have hl : k < ws.length := by
      have := (List.getElem?_eq_some_iff.mp hq).1
      rwa [List.length_set] at this
    rw [List.getElem?_set_self hl] at hq
    cases hq
    rfl
  · rw [zset_ne hk] at hq
    exact hA k q hq
theorem zmod_ne {k k' : Nat} (h1 : k' / 64 = k / 64) (h2 : k' ≠ k) : k' % 64 ≠ k % 64 := by omega
theorem zcr_ne_int {r : Option Nat} {x : Int32} : zcr base cst r ≠ .int x := by
  cases r <;> (intro h; cases h)
theorem zAb.setI {k : Nat} {x x0 : Int32} {fs : List Value} (hA : zAb base cst tys KA h ws) (h0 : hFI h k a = some x0) (hw : ws[a]? = some (base + a, .inr (k / 64, fs))) (hf0 : fs[k % 64]? = some (.int x0)) : zAb base cst tys KA (zsI h k a x) (ws.set a (base + a, .inr (k / 64, fs.set (k % 64) (.int x)))) := by
  obtain ⟨i1, i2, i3, i4, i5, i6, i7, i8, i9⟩ := hA
  have hl : k % 64 < fs.length := (List.getElem?_eq_some_iff.mp hf0).1
  refine ⟨zset_len.trans i1, i2, zset_addr i3, ?_, ?_, ?_, i7, ?_, ?_⟩
  · intro k' a' y hy
    have hy : (if k' = k ∧ a' = a then some x else hFI h k' a') = some y := hy
    by_cases hc : k' = k ∧ a' = a
    · obtain ⟨rfl, rfl⟩ := hc
      rw [if_pos ⟨rfl, rfl⟩] at hy
      obtain rfl := Option.some.inj hy
      exact ⟨_, zset_at hw, List.getElem?_set_self hl⟩
    · rw [if_neg hc] at hy
      obtain ⟨fs', g1, g2⟩ := i4 k' a' y hy
      by_cases ha : a' = a
      · subst ha
        have hk : k' ≠ k := fun q => hc ⟨q, rfl⟩
        have e := Option.some.inj (g1.symm.trans hw)
        have e1 : k' / 64 = k / 64 := by injection e with _ e; injection e with e; injection e
        have e2 : fs' = fs := by injection e with _ e; injection e with e; injection e
        subst e2
        exact ⟨_, by rw [e1]; exact zset_at hw, by rw [List.getElem?_set_ne (Ne.symm (zmod_ne e1 hk))]; exact g2⟩
      · exact ⟨fs', by rw [zset_ne ha]; exact g1, g2⟩
  · intro k' a' r hr
    obtain ⟨fs', g1, g2⟩ := i5 k' a' r hr
    by_cases ha : a' = a
    · subst ha
      have e := Option.some.inj (g1.symm.trans hw)
      have e1 : k' / 64 = k / 64 := by injection e with _ e; injection e with e; injection e
      have e2 : fs' = fs := by injection e with _ e; injection e with e; injection e
      subst e2
      have hk : k' ≠ k := fun q => by
        subst q
        rw [hf0] at g2
        exact zcr_ne_int (Option.some.inj g2).symm
      exact ⟨_, by rw [e1]; exact zset_at hw, by rw [List.getElem?_set_ne (Ne.symm (zmod_ne e1 hk))]; exact g2⟩
    · exact ⟨fs', by rw [zset_ne ha]; exact g1, g2⟩
  · intro a' t n f ha' hf
    obtain ⟨cA, ty, g1, g2, g3, g4⟩ := i6 a' t n f ha' hf
    refine ⟨cA, ty, g1, g2, g3, ?_⟩
    rw [zset_ne (fun q => by subst q; rw [hw] at g4; cases g4)]
    exact g4
  · intro a' C n f hf
    obtain ⟨cA, t0, r, g1, g2, g3, g4⟩ := i8 a' C n f hf
    refine ⟨cA, t0, r, g1, g2, g3, ?_⟩
    rw [zset_ne (fun q => by subst q; rw [hw] at g4; cases g4)]
    exact g4
  · intro a' C hC
    obtain ⟨fs', g1⟩ := i9 a' C hC
    by_cases ha : a' = a
    · subst ha
      have e := Option.some.inj (g1.symm.trans hw)
      have e1 : C = k / 64 := by injection e with _ e; injection e with e; injection e
      exact ⟨_, by rw [e1]; exact zset_at hw⟩
    · exact ⟨fs', by rw [zset_ne ha]; exact g1⟩
theorem zAb.setR {k : Nat} {x x0 : Option Nat} {fs : List Value} (hA : zAb base cst tys KA h ws) (h0 : hFR h k a = some x0) (hw : ws[a]? = some (base + a, .inr (k / 64, fs))) (hf0 : fs[k % 64]? = some (zcr base cst x0)) : zAb base cst tys KA (zsR h k a x) (ws.set a (base + a, .inr (k / 64, fs.set (k % 64) (zcr base cst x)))) := by
  obtain ⟨i1, i2, i3, i4, i5, i6, i7, i8, i9⟩ := hA
  have hl : k % 64 < fs.length := (List.getElem?_eq_some_iff.mp hf0).1
  refine ⟨zset_len.trans i1, i2, zset_addr i3, ?_, ?_, ?_, i7, ?_, ?_⟩
  · intro k' a' y hy
    obtain ⟨fs', g1, g2⟩ := i4 k' a' y hy
    by_cases ha : a' = a
    · subst ha
      have e := Option.some.inj (g1.symm.trans hw)
      have e1 : k' / 64 = k / 64 := by injection e with _ e; injection e with e; injection e
      have e2 : fs' = fs := by injection e with _ e; injection e with e; injection e
      subst e2
      have hk : k' ≠ k := fun q => by
        subst q
        rw [hf0] at g2
        exact zcr_ne_int (Option.some.inj g2)
      exact ⟨_, by rw [e1]; exact zset_at hw, by rw [List.getElem?_set_ne (Ne.symm (zmod_ne e1 hk))]; exact g2⟩
    · exact ⟨fs', by rw [zset_ne ha]; exact g1, g2⟩
  · intro k' a' r hr
    have hr : (if k' = k ∧ a' = a then some x else hFR h k' a') = some r := hr
    by_cases hc : k' = k ∧ a' = a
    · obtain ⟨rfl, rfl⟩ := hc
      rw [if_pos ⟨rfl, rfl⟩] at hr
      obtain rfl := Option.some.inj hr
      exact ⟨_, zset_at hw, List.getElem?_set_self hl⟩
    · rw [if_neg hc] at hr
      obtain ⟨fs', g1, g2⟩ := i5 k' a' r hr
      by_cases ha : a' = a
      · subst ha
        have hk : k' ≠ k := fun q => hc ⟨q, rfl⟩
        have e := Option.some.inj (g1.symm.trans hw)
        have e1 : k' / 64 = k / 64 := by injection e with _ e; injection e with e; injection e
        have e2 : fs' = fs := by injection e with _ e; injection e with e; injection e
        subst e2
        exact ⟨_, by rw [e1]; exact zset_at hw, by rw [List.getElem?_set_ne (Ne.symm (zmod_ne e1 hk))]; exact g2⟩
      · exact ⟨fs', by rw [zset_ne ha]; exact g1, g2⟩
  · intro a' t n f ha' hf
    obtain ⟨cA, ty, g1, g2, g3, g4⟩ := i6 a' t n f ha' hf
    refine ⟨cA, ty, g1, g2, g3, ?_⟩
    rw [zset_ne (fun q => by subst q; rw [hw] at g4; cases g4)]
    exact g4
  · intro a' C n f hf
    obtain ⟨cA, t0, r, g1, g2, g3, g4⟩ := i8 a' C n f hf
    refine ⟨cA, t0, r, g1, g2, g3, ?_⟩
    rw [zset_ne (fun q => by subst q; rw [hw] at g4; cases g4)]
    exact g4
  · intro a' C hC
    obtain ⟨fs', g1⟩ := i9 a' C hC
    by_cases ha : a' = a
    · subst ha
      have e := Option.some.inj (g1.symm.trans hw)
      have e1 : C = k / 64 := by injection e with _ e; injection e with e; injection e
      exact ⟨_, by rw [e1]; exact zset_at hw⟩
    · exact ⟨fs', by rw [zset_ne ha]; exact g1⟩
theorem zAb.setA {t n : Nat} {f g : Nat → Int32} {cA : ClassId} (hA : zAb base cst tys KA h ws) (ha : a < zK0) (h0 : hAI h a = some (t, n, f)) (hw : ws[a]? = some (base + a, .inl (cA, n, .inl f))) (hg : t = 1 → ∀ j, fits .byte (.int (g j)) = true) : zAb base cst tys KA (zsA h a t n g) (ws.set a (base + a, .inl (cA, n, .inl g))) := by
  obtain ⟨i1, i2, i3, i4, i5, i6, i7, i8, i9⟩ := hA
  refine ⟨zset_len.trans i1, i2, zset_addr i3, ?_, ?_, ?_, ?_, ?_, ?_⟩
  · intro k' a' y hy
    obtain ⟨fs', g1, g2⟩ := i4 k' a' y hy
    exact ⟨fs', by rw [zset_ne (fun q => by subst q; rw [hw] at g1; cases g1)]; exact g1, g2⟩
  · intro k' a' r hr
    obtain ⟨fs', g1, g2⟩ := i5 k' a' r hr
    exact ⟨fs', by rw [zset_ne (fun q => by subst q; rw [hw] at g1; cases g1)]; exact g1, g2⟩
  · intro a' t' n' f' ha' hf
    have hf : (if a' = a then some (t, n, g) else hAI h a') = some (t', n', f') := hf
    by_cases hc : a' = a
    · subst hc
      rw [if_pos rfl] at hf
      cases hf
      obtain ⟨cA', ty, g1, g2, g3, g4⟩ := i6 a' t n f ha' h0
      rw [hw] at g4
      cases g4
      exact ⟨cA, ty, g1, g2, ⟨g3.1, hg⟩, zset_at hw⟩
    · rw [if_neg hc] at hf
      obtain ⟨cA', ty, g1, g2, g3, g4⟩ := i6 a' t' n' f' ha' hf
      exact ⟨cA', ty, g1, g2, g3, by rw [zset_ne hc]; exact g4⟩
  · intro a' t' n' f' ha' hf
    have hf : (if a' = a then some (t, n, g) else hAI h a') = some (t', n', f') := hf
    rw [if_neg (by omega)] at hf
    exact i7 a' t' n' f' ha' hf
  · intro a' C n' f' hf
    obtain ⟨cA', t0, r, g1, g2, g3, g4⟩ := i8 a' C n' f' hf
    refine ⟨cA', t0, r, g1, g2, g3, ?_⟩
    rw [zset_ne (fun q => by subst q; rw [hw] at g4; cases g4)]
    exact g4
  · intro a' C hC
    obtain ⟨fs', g1⟩ := i9 a' C hC
    exact ⟨fs', by rw [zset_ne (fun q => by subst q; rw [hw] at g1; cases g1)]; exact g1⟩
theorem zAb.setQ {C n : Nat} {f g : Nat → Option Nat} {cA : ClassId} (hA : zAb base cst tys KA h ws) (h0 : hAR h a = some (C, n, f)) (hw : ws[a]? = some (base + a, .inl (cA, n, .inr (.inr (.inr (.inr (fun j => (f j).map (zrho base cst)))))))) : zAb base cst tys KA (zsQ h a C n g) (ws.set a (base + a, .inl (cA, n, .inr (.inr (.inr (.inr (fun j => (g j).map (zrho base cst)))))))) := by
  obtain ⟨i1, i2, i3, i4, i5, i6, i7, i8, i9⟩ := hA
  refine ⟨zset_len.trans i1, i2, zset_addr i3, ?_, ?_, ?_, i7, ?_, ?_⟩
  · intro k' a' y hy
    obtain ⟨fs', g1, g2⟩ := i4 k' a' y hy
    exact ⟨fs', by rw [zset_ne (fun q => by subst q; rw [hw] at g1; cases g1)]; exact g1, g2⟩
  · intro k' a' r hr
    obtain ⟨fs', g1, g2⟩ := i5 k' a' r hr
    exact ⟨fs', by rw [zset_ne (fun q => by subst q; rw [hw] at g1; cases g1)]; exact g1, g2⟩
  · intro a' t n f ha' hf
    obtain ⟨cA, ty, g1, g2, g3, g4⟩ := i6 a' t n f ha' hf
    refine ⟨cA, ty, g1, g2, g3, ?_⟩
    rw [zset_ne (fun q => by subst q; rw [hw] at g4; cases g4)]
    exact g4
  · intro a' C' n' f' hf
    have hf : (if a' = a then some (C, n, g) else hAR h a') = some (C', n', f') := hf
    by_cases hc : a' = a
    · subst hc
      rw [if_pos rfl] at hf
      cases hf
      obtain ⟨cA', t0, r, g1, g2, g3, g4⟩ := i8 a' C n f h0
      rw [hw] at g4
      cases g4
      exact ⟨cA, t0, r, g1, g2, g3, zset_at hw⟩
    · rw [if_neg hc] at hf
      obtain ⟨cA', t0, r, g1, g2, g3, g4⟩ := i8 a' C' n' f' hf
      exact ⟨cA', t0, r, g1, g2, g3, by rw [zset_ne hc]; exact g4⟩
  · intro a' C hC
    obtain ⟨fs', g1⟩ := i9 a' C hC
    exact ⟨fs', by rw [zset_ne (fun q => by subst q; rw [hw] at g1; cases g1)]; exact g1⟩
end ZR3
