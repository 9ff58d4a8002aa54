/-! making: a row made and laid into a field, an object made -/
def nrow (t n k p : Nat) (g : zHeap) : zHeap := zsR (znA t n g) k p (some (hN g))
def nref (c n k p : Nat) (g : zHeap) : zHeap := zsR (znQ c n g) k p (some (hN g))
section MK
variable (g : zHeap) (t n c k p k' a' : Nat)
theorem nrow_p : zpR (znA t n g) (some p) k (some (hN g)) = (hFR g k p).bind (fun _ => some (nrow t n k p g)) := by
  show (match hFR g k p with | some _ => _ | none => none) = _
  cases hFR g k p <;> rfl
theorem nref_p : zpR (znQ c n g) (some p) k (some (hN g)) = (hFR g k p).bind (fun _ => some (nref c n k p g)) := by
  show (match hFR g k p with | some _ => _ | none => none) = _
  cases hFR g k p <;> rfl
theorem nrow_N : hN (nrow t n k p g) = hN g + 1 := id rfl
theorem nrow_S : hS (nrow t n k p g) = hS g + n := id rfl
theorem nrow_FI : hFI (nrow t n k p g) = hFI g := id rfl
theorem nrow_FR : hFR (nrow t n k p g) k' a' = if k' = k ∧ a' = p then some (some (hN g)) else hFR g k' a' := id rfl
theorem nrow_AI : hAI (nrow t n k p g) a' = if a' = hN g then some (t, n, fun _ => 0) else hAI g a' := id rfl
theorem nrow_AR : hAR (nrow t n k p g) = hAR g := id rfl
theorem nrow_CL : hCL (nrow t n k p g) = hCL g := id rfl
theorem nref_N : hN (nref c n k p g) = hN g + 1 := id rfl
theorem nref_S : hS (nref c n k p g) = hS g + n := id rfl
theorem nref_FI : hFI (nref c n k p g) = hFI g := id rfl
theorem nref_FR : hFR (nref c n k p g) k' a' = if k' = k ∧ a' = p then some (some (hN g)) else hFR g k' a' := id rfl
theorem nref_AI : hAI (nref c n k p g) = hAI g := id rfl
theorem nref_AR : hAR (nref c n k p g) a' = if a' = hN g then some (c, n, fun _ => none) else hAR g a' := id rfl
theorem nref_CL : hCL (nref c n k p g) = hCL g := id rfl
theorem nO_N : hN (znO zTb c g) = hN g + 1 := id rfl
theorem nO_S : hS (znO zTb c g) = hS g + ((zTb[c]?).getD []).length := id rfl
theorem nO_FI : hFI (znO zTb c g) k' a' = if a' = hN g ∧ k' / 64 = c then (if zfk zTb k' = 1 then some 0 else none) else hFI g k' a' := id rfl
theorem nO_FR : hFR (znO zTb c g) k' a' = if a' = hN g ∧ k' / 64 = c then (if zfk zTb k' = 2 then some none else none) else hFR g k' a' := id rfl
theorem nO_AI : hAI (znO zTb c g) = hAI g := id rfl
theorem nO_AR : hAR (znO zTb c g) = hAR g := id rfl
theorem nO_CL : hCL (znO zTb c g) a' = if a' = hN g then some c else hCL g a' := id rfl
end MK
/-- g' is g with more behind it -/
def ext (g g' : zHeap) : Prop := hN g ≤ hN g' ∧ (∀ k a, a < hN g → hFI g' k a = hFI g k a ∧ hFR g' k a = hFR g k a) ∧ (∀ a, a < hN g ∨ hN g' ≤ a → hAI g' a = hAI g a) ∧ (∀ a, a < hN g → hAR g' a = hAR g a ∧ hCL g' a = hCL g a)
theorem ext.rfl {g : zHeap} : ext g g := ⟨Nat.le_refl _, fun _ _ _ => ⟨Eq.refl _, Eq.refl _⟩, fun _ _ => Eq.refl _, fun _ _ => ⟨Eq.refl _, Eq.refl _⟩⟩
theorem ext.trans {g g1 g2 : zHeap} (e : ext g g1) (f : ext g1 g2) : ext g g2 := by
  have h1 := e.1
  have h2 := f.1
  exact ⟨by omega, fun k a ha => ⟨(f.2.1 k a (by omega)).1.trans (e.2.1 k a ha).1, (f.2.1 k a (by omega)).2.trans (e.2.1 k a ha).2⟩, fun a ha => (f.2.2.1 a (by omega)).trans (e.2.2.1 a (by omega)), fun a ha => ⟨(f.2.2.2 a (by omega)).1.trans (e.2.2.2 a ha).1, (f.2.2.2 a (by omega)).2.trans (e.2.2.2 a ha).2⟩⟩
theorem ext.nO (g : zHeap) (c : Nat) : ext g (znO zTb c g) := by
  refine ⟨by rw [nO_N]; omega, fun k a ha => ⟨?_, ?_⟩, fun a _ => by rw [nO_AI], fun a ha => ⟨by rw [nO_AR], ?_⟩⟩
  · rw [nO_FI, if_neg (by omega)]
  · rw [nO_FR, if_neg (by omega)]
  · rw [nO_CL, if_neg (by omega)]
theorem ext.row {g g1 : zHeap} (e : ext g g1) {t n k p : Nat} (hp : hN g ≤ p) : ext g (nrow t n k p g1) := by
  have h1 := e.1
  refine ⟨by rw [nrow_N]; omega, fun k a ha => ⟨by rw [nrow_FI]; exact (e.2.1 k a ha).1, ?_⟩, fun a ha => ?_, fun a ha => by rw [nrow_AR, nrow_CL]; exact e.2.2.2 a ha⟩
  · rw [nrow_FR, if_neg (by omega)]; exact (e.2.1 k a ha).2
  · rw [nrow_N] at ha
    rw [nrow_AI, if_neg (by omega)]; exact e.2.2.1 a (by omega)
theorem ext.ref {g g1 : zHeap} (e : ext g g1) {c n k p : Nat} (hp : hN g ≤ p) : ext g (nref c n k p g1) := by
  have h1 := e.1
  refine ⟨by rw [nref_N]; omega, fun k a ha => ⟨by rw [nref_FI]; exact (e.2.1 k a ha).1, ?_⟩, fun a ha => ?_, fun a ha => ⟨?_, by rw [nref_CL]; exact (e.2.2.2 a ha).2⟩⟩
  · rw [nref_FR, if_neg (by omega)]; exact (e.2.1 k a ha).2
  · rw [nref_N] at ha
    rw [nref_AI]; exact e.2.2.1 a (by omega)
  · rw [nref_AR, if_neg (by omega)]; exact (e.2.2.2 a ha).1
/-! shapes stay behind an extension -/
section XS
variable {g g' : zHeap} {a : Nat}
theorem itS.ext {k : Nat} (s : itS g k a) (e : ext g g') (ha : a < hN g) : itS g' k a := by
  unfold itS; rw [(e.2.1 k a ha).1]; exact s
theorem rwS.ext {t n : Nat} (s : rwS g a t n) (e : ext g g') (ha : a < hN g) : rwS g' a t n := by
  unfold rwS; rw [e.2.2.1 a (Or.inl ha)]; exact s
theorem duS.ext (s : duS g a) (e : ext g g') (ha : a + 7 ≤ hN g) : duS g' a := by
  obtain ⟨s1, ⟨s2, s3, s4, s5⟩, s6, ⟨r1, r2, r3, r4, r5, r6⟩, s7⟩ := s
  have f := fun k => (e.2.1 k a (by omega)).2
  refine ⟨by rw [(e.2.2.2 a (by omega)).2]; exact s1, ⟨s2.ext e (by omega), s3.ext e (by omega), s4.ext e (by omega), s5.ext e (by omega)⟩, ?_, ⟨r1.ext e (by omega), r2.ext e (by omega), r3.ext e (by omega), r4.ext e (by omega), r5.ext e (by omega), r6.ext e (by omega)⟩, s7⟩
  rw [f, f, f, f, f, f]; exact s6
theorem yeS.ext (s : yeS g a) (e : ext g g') (ha : a + 2 ≤ hN g) : yeS g' a := by
  obtain ⟨s1, s2, s3, s4, s5⟩ := s
  exact ⟨by rw [(e.2.2.2 a (by omega)).2]; exact s1, s2.ext e (by omega), by rw [(e.2.1 _ a (by omega)).2]; exact s3, s4.ext e (by omega), s5⟩
theorem loS.ext (s : loS g a) (e : ext g g') (ha : a + 4 ≤ hN g) : loS g' a := by
  obtain ⟨s1, s2, s3, ⟨r1, r2, r3⟩, s5⟩ := s
  have f := fun k => (e.2.1 k a (by omega)).2
  refine ⟨by rw [(e.2.2.2 a (by omega)).2]; exact s1, s2.ext e (by omega), ?_, ⟨r1.ext e (by omega), r2.ext e (by omega), r3.ext e (by omega)⟩, s5⟩
  rw [f, f, f]; exact s3
theorem taS.ext (s : taS g a) (e : ext g g') (ha : a + 2 ≤ hN g) : taS g' a := by
  obtain ⟨s1, s2, s3, s4, s5⟩ := s
  exact ⟨by rw [(e.2.2.2 a (by omega)).2]; exact s1, by rw [(e.2.1 _ a (by omega)).2]; exact s2, s3.ext e (by omega), s4.ext e (by omega), s5⟩
end XS
