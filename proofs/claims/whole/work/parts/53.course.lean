/-! the course of a year: X 0 (0 nights, 1 cracked, 2 deaths, 3 marches, 4 clashes, 5 coughs, 6 cold, 7 last note, 70 liar, 71 done, 80 seed), X 1 wets, X 2 keys, X 3 played, X 4 answered, X 5 asked, X 6 played in all -/
def crR (D : Int → Int) (F : Nat → Nat → Int) (C : Nat → Int → Int) (X : Nat → Int → Int) : Prop := (F 73 50 = X 0 0 ∧ F 72 50 = X 0 1 ∧ F 74 50 = X 0 2 ∧ F 75 50 = X 0 3 ∧ F 76 50 = X 0 4 ∧ F 77 50 = X 0 5 ∧ F 78 50 = X 0 6 ∧ F 79 50 = X 0 7 ∧ F 65 50 = X 0 70 ∧ F 64 50 = X 0 71 ∧ (X 0 81 = 0 → F 80 50 = X 0 80)) ∧ (∀ r, 0 ≤ r → r < D 0 → C 51 r = X 1 r ∧ C 52 r = X 2 r) ∧ (∀ p, 0 ≤ p → p < 4 → C 53 p = X 3 p ∧ C 54 p = X 6 p) ∧ (∀ q, 0 ≤ q → q < 8 → C 56 q = X 4 q ∧ C 55 q = X 5 q)
def mrR (D : Int → Int) (F : Nat → Nat → Int) (C : Nat → Int → Int) (X : Nat → Int → Int) : Prop := (F 793 72 = X 0 0 ∧ F 794 72 = X 0 1 ∧ F 795 72 = X 0 2 ∧ F 796 72 = X 0 3 ∧ F 797 72 = X 0 4 ∧ F 798 72 = X 0 5 ∧ F 799 72 = X 0 6 ∧ F 800 72 = X 0 7 ∧ (X 0 82 = 0 → F 801 72 = X 0 71) ∧ (X 0 81 = 0 → F 810 72 = X 0 80)) ∧ (∀ r, 0 ≤ r → r < D 0 → C 82 r = X 1 r ∧ C 83 r = X 2 r) ∧ (∀ p, 0 ≤ p → p < 4 → C 84 p = X 3 p) ∧ (∀ q, 0 ≤ q → q < 8 → C 85 q = X 4 q)
def crC (F0 : Nat → Nat → Int) (C0 : Nat → Int → Int) (D : Int → Int) (F : Nat → Nat → Int) (C : Nat → Int → Int) (X : Nat → Int → Int) : Prop := tq F0 C0 F C ∧ crR D F C X
def mrC (F0 : Nat → Nat → Int) (C0 : Nat → Int → Int) (D : Int → Int) (F : Nat → Nat → Int) (C : Nat → Int → Int) (X : Nat → Int → Int) : Prop := (tq F0 C0 F C ∧ (∀ k, k < 782 ∨ k = 792 ∨ k = 808 → F k 72 = F0 k 72) ∧ (C 86 = C0 86 ∧ C 87 = C0 87)) ∧ mrR D F C X
theorem crC.f73 {F0 F : Nat → Nat → Int} {C0 C X : Nat → Int → Int} {D : Int → Int} (R : crC F0 C0 D F C X) (v : Int) : crC F0 C0 D (zsF F 73 50 v) C (zsC X 0 0 v) := by
  obtain ⟨t, ⟨i0, i1, i2, i3, i4, i5, i6, i7, i8, i9, i10⟩, rr⟩ := R
  exact ⟨t.sF (by omega) (by omega), ⟨rfl, i1, i2, i3, i4, i5, i6, i7, i8, i9, i10⟩, rr⟩
theorem crC.f72 {F0 F : Nat → Nat → Int} {C0 C X : Nat → Int → Int} {D : Int → Int} (R : crC F0 C0 D F C X) (v : Int) : crC F0 C0 D (zsF F 72 50 v) C (zsC X 0 1 v) := by
  obtain ⟨t, ⟨i0, i1, i2, i3, i4, i5, i6, i7, i8, i9, i10⟩, rr⟩ := R
  exact ⟨t.sF (by omega) (by omega), ⟨i0, rfl, i2, i3, i4, i5, i6, i7, i8, i9, i10⟩, rr⟩
theorem crC.f74 {F0 F : Nat → Nat → Int} {C0 C X : Nat → Int → Int} {D : Int → Int} (R : crC F0 C0 D F C X) (v : Int) : crC F0 C0 D (zsF F 74 50 v) C (zsC X 0 2 v) := by
  obtain ⟨t, ⟨i0, i1, i2, i3, i4, i5, i6, i7, i8, i9, i10⟩, rr⟩ := R
  exact ⟨t.sF (by omega) (by omega), ⟨i0, i1, rfl, i3, i4, i5, i6, i7, i8, i9, i10⟩, rr⟩
theorem crC.f75 {F0 F : Nat → Nat → Int} {C0 C X : Nat → Int → Int} {D : Int → Int} (R : crC F0 C0 D F C X) (v : Int) : crC F0 C0 D (zsF F 75 50 v) C (zsC X 0 3 v) := by
  obtain ⟨t, ⟨i0, i1, i2, i3, i4, i5, i6, i7, i8, i9, i10⟩, rr⟩ := R
  exact ⟨t.sF (by omega) (by omega), ⟨i0, i1, i2, rfl, i4, i5, i6, i7, i8, i9, i10⟩, rr⟩
theorem crC.f76 {F0 F : Nat → Nat → Int} {C0 C X : Nat → Int → Int} {D : Int → Int} (R : crC F0 C0 D F C X) (v : Int) : crC F0 C0 D (zsF F 76 50 v) C (zsC X 0 4 v) := by
  obtain ⟨t, ⟨i0, i1, i2, i3, i4, i5, i6, i7, i8, i9, i10⟩, rr⟩ := R
  exact ⟨t.sF (by omega) (by omega), ⟨i0, i1, i2, i3, rfl, i5, i6, i7, i8, i9, i10⟩, rr⟩
theorem crC.f77 {F0 F : Nat → Nat → Int} {C0 C X : Nat → Int → Int} {D : Int → Int} (R : crC F0 C0 D F C X) (v : Int) : crC F0 C0 D (zsF F 77 50 v) C (zsC X 0 5 v) := by
  obtain ⟨t, ⟨i0, i1, i2, i3, i4, i5, i6, i7, i8, i9, i10⟩, rr⟩ := R
  exact ⟨t.sF (by omega) (by omega), ⟨i0, i1, i2, i3, i4, rfl, i6, i7, i8, i9, i10⟩, rr⟩
theorem crC.f78 {F0 F : Nat → Nat → Int} {C0 C X : Nat → Int → Int} {D : Int → Int} (R : crC F0 C0 D F C X) (v : Int) : crC F0 C0 D (zsF F 78 50 v) C (zsC X 0 6 v) := by
  obtain ⟨t, ⟨i0, i1, i2, i3, i4, i5, i6, i7, i8, i9, i10⟩, rr⟩ := R
  exact ⟨t.sF (by omega) (by omega), ⟨i0, i1, i2, i3, i4, i5, rfl, i7, i8, i9, i10⟩, rr⟩
theorem crC.f79 {F0 F : Nat → Nat → Int} {C0 C X : Nat → Int → Int} {D : Int → Int} (R : crC F0 C0 D F C X) (v : Int) : crC F0 C0 D (zsF F 79 50 v) C (zsC X 0 7 v) := by
  obtain ⟨t, ⟨i0, i1, i2, i3, i4, i5, i6, i7, i8, i9, i10⟩, rr⟩ := R
  exact ⟨t.sF (by omega) (by omega), ⟨i0, i1, i2, i3, i4, i5, i6, rfl, i8, i9, i10⟩, rr⟩
theorem crC.f65 {F0 F : Nat → Nat → Int} {C0 C X : Nat → Int → Int} {D : Int → Int} (R : crC F0 C0 D F C X) (v : Int) : crC F0 C0 D (zsF F 65 50 v) C (zsC X 0 70 v) := by
  obtain ⟨t, ⟨i0, i1, i2, i3, i4, i5, i6, i7, i8, i9, i10⟩, rr⟩ := R
  exact ⟨t.sF (by omega) (by omega), ⟨i0, i1, i2, i3, i4, i5, i6, i7, rfl, i9, i10⟩, rr⟩
theorem crC.f64 {F0 F : Nat → Nat → Int} {C0 C X : Nat → Int → Int} {D : Int → Int} (R : crC F0 C0 D F C X) (v : Int) : crC F0 C0 D (zsF F 64 50 v) C (zsC X 0 71 v) := by
  obtain ⟨t, ⟨i0, i1, i2, i3, i4, i5, i6, i7, i8, i9, i10⟩, rr⟩ := R
  exact ⟨t.sF (by omega) (by omega), ⟨i0, i1, i2, i3, i4, i5, i6, i7, i8, rfl, i10⟩, rr⟩
theorem crC.f80 {F0 F : Nat → Nat → Int} {C0 C X : Nat → Int → Int} {D : Int → Int} (R : crC F0 C0 D F C X) (v : Int) : crC F0 C0 D (zsF F 80 50 v) C (zsC X 0 80 v) := by
  obtain ⟨t, ⟨i0, i1, i2, i3, i4, i5, i6, i7, i8, i9, i10⟩, rr⟩ := R
  exact ⟨t.sF (by omega) (by omega), ⟨i0, i1, i2, i3, i4, i5, i6, i7, i8, i9, fun _ => rfl⟩, rr⟩
theorem crC.w51 {F0 F : Nat → Nat → Int} {C0 C X : Nat → Int → Int} {D : Int → Int} (R : crC F0 C0 D F C X) (x v : Int) : crC F0 C0 D F (zsC C 51 x v) (zsC X 1 x v) := by
  obtain ⟨t, ⟨i0, i1, i2, i3, i4, i5, i6, i7, i8, i9, i10⟩, r1, r2, r3⟩ := R
  refine ⟨t.sC (by omega) (by omega), ⟨i0, i1, i2, i3, i4, i5, i6, i7, i8, i9, i10⟩, ?_, r2, r3⟩
  intro y y0 y1
  have g := r1 y y0 y1
  by_cases c : y = x
  · rw [c] at g ⊢; exact ⟨by rw [zsC_s, zsC_s], g.2⟩
  · exact ⟨by rw [zsC_i c, zsC_i c]; exact g.1, g.2⟩
theorem crC.w52 {F0 F : Nat → Nat → Int} {C0 C X : Nat → Int → Int} {D : Int → Int} (R : crC F0 C0 D F C X) (x v : Int) : crC F0 C0 D F (zsC C 52 x v) (zsC X 2 x v) := by
  obtain ⟨t, ⟨i0, i1, i2, i3, i4, i5, i6, i7, i8, i9, i10⟩, r1, r2, r3⟩ := R
  refine ⟨t.sC (by omega) (by omega), ⟨i0, i1, i2, i3, i4, i5, i6, i7, i8, i9, i10⟩, ?_, r2, r3⟩
  intro y y0 y1
  have g := r1 y y0 y1
  by_cases c : y = x
  · rw [c] at g ⊢; exact ⟨g.1, by rw [zsC_s, zsC_s]⟩
  · exact ⟨g.1, by rw [zsC_i c, zsC_i c]; exact g.2⟩
theorem crC.w53 {F0 F : Nat → Nat → Int} {C0 C X : Nat → Int → Int} {D : Int → Int} (R : crC F0 C0 D F C X) (x v : Int) : crC F0 C0 D F (zsC C 53 x v) (zsC X 3 x v) := by
  obtain ⟨t, ⟨i0, i1, i2, i3, i4, i5, i6, i7, i8, i9, i10⟩, r1, r2, r3⟩ := R
  refine ⟨t.sC (by omega) (by omega), ⟨i0, i1, i2, i3, i4, i5, i6, i7, i8, i9, i10⟩, r1, ?_, r3⟩
  intro y y0 y1
  have g := r2 y y0 y1
  by_cases c : y = x
  · rw [c] at g ⊢; exact ⟨by rw [zsC_s, zsC_s], g.2⟩
  · exact ⟨by rw [zsC_i c, zsC_i c]; exact g.1, g.2⟩
theorem crC.w54 {F0 F : Nat → Nat → Int} {C0 C X : Nat → Int → Int} {D : Int → Int} (R : crC F0 C0 D F C X) (x v : Int) : crC F0 C0 D F (zsC C 54 x v) (zsC X 6 x v) := by
  obtain ⟨t, ⟨i0, i1, i2, i3, i4, i5, i6, i7, i8, i9, i10⟩, r1, r2, r3⟩ := R
  refine ⟨t.sC (by omega) (by omega), ⟨i0, i1, i2, i3, i4, i5, i6, i7, i8, i9, i10⟩, r1, ?_, r3⟩
  intro y y0 y1
  have g := r2 y y0 y1
  by_cases c : y = x
  · rw [c] at g ⊢; exact ⟨g.1, by rw [zsC_s, zsC_s]⟩
  · exact ⟨g.1, by rw [zsC_i c, zsC_i c]; exact g.2⟩
theorem crC.w56 {F0 F : Nat → Nat → Int} {C0 C X : Nat → Int → Int} {D : Int → Int} (R : crC F0 C0 D F C X) (x v : Int) : crC F0 C0 D F (zsC C 56 x v) (zsC X 4 x v) := by
  obtain ⟨t, ⟨i0, i1, i2, i3, i4, i5, i6, i7, i8, i9, i10⟩, r1, r2, r3⟩ := R
  refine ⟨t.sC (by omega) (by omega), ⟨i0, i1, i2, i3, i4, i5, i6, i7, i8, i9, i10⟩, r1, r2, ?_⟩
  intro y y0 y1
  have g := r3 y y0 y1
  by_cases c : y = x
  · rw [c] at g ⊢; exact ⟨by rw [zsC_s, zsC_s], g.2⟩
  · exact ⟨by rw [zsC_i c, zsC_i c]; exact g.1, g.2⟩
theorem crC.w55 {F0 F : Nat → Nat → Int} {C0 C X : Nat → Int → Int} {D : Int → Int} (R : crC F0 C0 D F C X) (x v : Int) : crC F0 C0 D F (zsC C 55 x v) (zsC X 5 x v) := by
  obtain ⟨t, ⟨i0, i1, i2, i3, i4, i5, i6, i7, i8, i9, i10⟩, r1, r2, r3⟩ := R
  refine ⟨t.sC (by omega) (by omega), ⟨i0, i1, i2, i3, i4, i5, i6, i7, i8, i9, i10⟩, r1, r2, ?_⟩
  intro y y0 y1
  have g := r3 y y0 y1
  by_cases c : y = x
  · rw [c] at g ⊢; exact ⟨g.1, by rw [zsC_s, zsC_s]⟩
  · exact ⟨g.1, by rw [zsC_i c, zsC_i c]; exact g.2⟩
theorem mrC.f793 {F0 F : Nat → Nat → Int} {C0 C X : Nat → Int → Int} {D : Int → Int} (R : mrC F0 C0 D F C X) (v : Int) : mrC F0 C0 D (zsF F 793 72 v) C (zsC X 0 0 v) := by
  obtain ⟨⟨t, t2, t3⟩, ⟨i0, i1, i2, i3, i4, i5, i6, i7, i8, i9⟩, rr⟩ := R
  exact ⟨⟨t.sF (by omega) (by omega), fun k hk => by rw [zsF_k (by omega)]; exact t2 k hk, t3⟩, ⟨rfl, i1, i2, i3, i4, i5, i6, i7, i8, i9⟩, rr⟩
theorem mrC.f794 {F0 F : Nat → Nat → Int} {C0 C X : Nat → Int → Int} {D : Int → Int} (R : mrC F0 C0 D F C X) (v : Int) : mrC F0 C0 D (zsF F 794 72 v) C (zsC X 0 1 v) := by
  obtain ⟨⟨t, t2, t3⟩, ⟨i0, i1, i2, i3, i4, i5, i6, i7, i8, i9⟩, rr⟩ := R
  exact ⟨⟨t.sF (by omega) (by omega), fun k hk => by rw [zsF_k (by omega)]; exact t2 k hk, t3⟩, ⟨i0, rfl, i2, i3, i4, i5, i6, i7, i8, i9⟩, rr⟩
theorem mrC.f795 {F0 F : Nat → Nat → Int} {C0 C X : Nat → Int → Int} {D : Int → Int} (R : mrC F0 C0 D F C X) (v : Int) : mrC F0 C0 D (zsF F 795 72 v) C (zsC X 0 2 v) := by
  obtain ⟨⟨t, t2, t3⟩, ⟨i0, i1, i2, i3, i4, i5, i6, i7, i8, i9⟩, rr⟩ := R
  exact ⟨⟨t.sF (by omega) (by omega), fun k hk => by rw [zsF_k (by omega)]; exact t2 k hk, t3⟩, ⟨i0, i1, rfl, i3, i4, i5, i6, i7, i8, i9⟩, rr⟩
theorem mrC.f796 {F0 F : Nat → Nat → Int} {C0 C X : Nat → Int → Int} {D : Int → Int} (R : mrC F0 C0 D F C X) (v : Int) : mrC F0 C0 D (zsF F 796 72 v) C (zsC X 0 3 v) := by
  obtain ⟨⟨t, t2, t3⟩, ⟨i0, i1, i2, i3, i4, i5, i6, i7, i8, i9⟩, rr⟩ := R
  exact ⟨⟨t.sF (by omega) (by omega), fun k hk => by rw [zsF_k (by omega)]; exact t2 k hk, t3⟩, ⟨i0, i1, i2, rfl, i4, i5, i6, i7, i8, i9⟩, rr⟩
theorem mrC.f797 {F0 F : Nat → Nat → Int} {C0 C X : Nat → Int → Int} {D : Int → Int} (R : mrC F0 C0 D F C X) (v : Int) : mrC F0 C0 D (zsF F 797 72 v) C (zsC X 0 4 v) := by
  obtain ⟨⟨t, t2, t3⟩, ⟨i0, i1, i2, i3, i4, i5, i6, i7, i8, i9⟩, rr⟩ := R
  exact ⟨⟨t.sF (by omega) (by omega), fun k hk => by rw [zsF_k (by omega)]; exact t2 k hk, t3⟩, ⟨i0, i1, i2, i3, rfl, i5, i6, i7, i8, i9⟩, rr⟩
theorem mrC.f798 {F0 F : Nat → Nat → Int} {C0 C X : Nat → Int → Int} {D : Int → Int} (R : mrC F0 C0 D F C X) (v : Int) : mrC F0 C0 D (zsF F 798 72 v) C (zsC X 0 5 v) := by
  obtain ⟨⟨t, t2, t3⟩, ⟨i0, i1, i2, i3, i4, i5, i6, i7, i8, i9⟩, rr⟩ := R
  exact ⟨⟨t.sF (by omega) (by omega), fun k hk => by rw [zsF_k (by omega)]; exact t2 k hk, t3⟩, ⟨i0, i1, i2, i3, i4, rfl, i6, i7, i8, i9⟩, rr⟩
theorem mrC.f799 {F0 F : Nat → Nat → Int} {C0 C X : Nat → Int → Int} {D : Int → Int} (R : mrC F0 C0 D F C X) (v : Int) : mrC F0 C0 D (zsF F 799 72 v) C (zsC X 0 6 v) := by
  obtain ⟨⟨t, t2, t3⟩, ⟨i0, i1, i2, i3, i4, i5, i6, i7, i8, i9⟩, rr⟩ := R
  exact ⟨⟨t.sF (by omega) (by omega), fun k hk => by rw [zsF_k (by omega)]; exact t2 k hk, t3⟩, ⟨i0, i1, i2, i3, i4, i5, rfl, i7, i8, i9⟩, rr⟩
theorem mrC.f800 {F0 F : Nat → Nat → Int} {C0 C X : Nat → Int → Int} {D : Int → Int} (R : mrC F0 C0 D F C X) (v : Int) : mrC F0 C0 D (zsF F 800 72 v) C (zsC X 0 7 v) := by
  obtain ⟨⟨t, t2, t3⟩, ⟨i0, i1, i2, i3, i4, i5, i6, i7, i8, i9⟩, rr⟩ := R
  exact ⟨⟨t.sF (by omega) (by omega), fun k hk => by rw [zsF_k (by omega)]; exact t2 k hk, t3⟩, ⟨i0, i1, i2, i3, i4, i5, i6, rfl, i8, i9⟩, rr⟩
theorem mrC.f801 {F0 F : Nat → Nat → Int} {C0 C X : Nat → Int → Int} {D : Int → Int} (R : mrC F0 C0 D F C X) (v : Int) : mrC F0 C0 D (zsF F 801 72 v) C (zsC X 0 71 v) := by
  obtain ⟨⟨t, t2, t3⟩, ⟨i0, i1, i2, i3, i4, i5, i6, i7, i8, i9⟩, rr⟩ := R
  exact ⟨⟨t.sF (by omega) (by omega), fun k hk => by rw [zsF_k (by omega)]; exact t2 k hk, t3⟩, ⟨i0, i1, i2, i3, i4, i5, i6, i7, fun _ => rfl, i9⟩, rr⟩
theorem mrC.f810 {F0 F : Nat → Nat → Int} {C0 C X : Nat → Int → Int} {D : Int → Int} (R : mrC F0 C0 D F C X) (v : Int) : mrC F0 C0 D (zsF F 810 72 v) C (zsC X 0 80 v) := by
  obtain ⟨⟨t, t2, t3⟩, ⟨i0, i1, i2, i3, i4, i5, i6, i7, i8, i9⟩, rr⟩ := R
  exact ⟨⟨t.sF (by omega) (by omega), fun k hk => by rw [zsF_k (by omega)]; exact t2 k hk, t3⟩, ⟨i0, i1, i2, i3, i4, i5, i6, i7, i8, fun _ => rfl⟩, rr⟩
theorem mrC.w82 {F0 F : Nat → Nat → Int} {C0 C X : Nat → Int → Int} {D : Int → Int} (R : mrC F0 C0 D F C X) (x v : Int) : mrC F0 C0 D F (zsC C 82 x v) (zsC X 1 x v) := by
  obtain ⟨⟨t, t2, t3⟩, ⟨i0, i1, i2, i3, i4, i5, i6, i7, i8, i9⟩, r1, r2, r3⟩ := R
  refine ⟨⟨t.sC (by omega) (by omega), t2, (zsC_a (by omega)).trans t3.1, (zsC_a (by omega)).trans t3.2⟩, ⟨i0, i1, i2, i3, i4, i5, i6, i7, i8, i9⟩, ?_, r2, r3⟩
  intro y y0 y1
  have g := r1 y y0 y1
  by_cases c : y = x
  · rw [c] at g ⊢; exact ⟨by rw [zsC_s, zsC_s], g.2⟩
  · exact ⟨by rw [zsC_i c, zsC_i c]; exact g.1, g.2⟩
theorem mrC.w83 {F0 F : Nat → Nat → Int} {C0 C X : Nat → Int → Int} {D : Int → Int} (R : mrC F0 C0 D F C X) (x v : Int) : mrC F0 C0 D F (zsC C 83 x v) (zsC X 2 x v) := by
  obtain ⟨⟨t, t2, t3⟩, ⟨i0, i1, i2, i3, i4, i5, i6, i7, i8, i9⟩, r1, r2, r3⟩ := R
  refine ⟨⟨t.sC (by omega) (by omega), t2, (zsC_a (by omega)).trans t3.1, (zsC_a (by omega)).trans t3.2⟩, ⟨i0, i1, i2, i3, i4, i5, i6, i7, i8, i9⟩, ?_, r2, r3⟩
  intro y y0 y1
  have g := r1 y y0 y1
  by_cases c : y = x
  · rw [c] at g ⊢; exact ⟨g.1, by rw [zsC_s, zsC_s]⟩
  · exact ⟨g.1, by rw [zsC_i c, zsC_i c]; exact g.2⟩
theorem mrC.w84 {F0 F : Nat → Nat → Int} {C0 C X : Nat → Int → Int} {D : Int → Int} (R : mrC F0 C0 D F C X) (x v : Int) : mrC F0 C0 D F (zsC C 84 x v) (zsC X 3 x v) := by
  obtain ⟨⟨t, t2, t3⟩, ⟨i0, i1, i2, i3, i4, i5, i6, i7, i8, i9⟩, r1, r2, r3⟩ := R
  refine ⟨⟨t.sC (by omega) (by omega), t2, (zsC_a (by omega)).trans t3.1, (zsC_a (by omega)).trans t3.2⟩, ⟨i0, i1, i2, i3, i4, i5, i6, i7, i8, i9⟩, r1, ?_, r3⟩
  intro y y0 y1
  have g := r2 y y0 y1
  by_cases c : y = x
  · rw [c, zsC_s, zsC_s]
  · rw [zsC_i c, zsC_i c]; exact g
theorem mrC.w85 {F0 F : Nat → Nat → Int} {C0 C X : Nat → Int → Int} {D : Int → Int} (R : mrC F0 C0 D F C X) (x v : Int) : mrC F0 C0 D F (zsC C 85 x v) (zsC X 4 x v) := by
  obtain ⟨⟨t, t2, t3⟩, ⟨i0, i1, i2, i3, i4, i5, i6, i7, i8, i9⟩, r1, r2, r3⟩ := R
  refine ⟨⟨t.sC (by omega) (by omega), t2, (zsC_a (by omega)).trans t3.1, (zsC_a (by omega)).trans t3.2⟩, ⟨i0, i1, i2, i3, i4, i5, i6, i7, i8, i9⟩, r1, r2, ?_⟩
  intro y y0 y1
  have g := r3 y y0 y1
  by_cases c : y = x
  · rw [c, zsC_s, zsC_s]
  · rw [zsC_i c, zsC_i c]; exact g
theorem mrC.ig70 {F0 F : Nat → Nat → Int} {C0 C X : Nat → Int → Int} {D : Int → Int} (R : mrC F0 C0 D F C X) (v : Int) : mrC F0 C0 D F C (zsC X 0 70 v) := R
theorem mrC.ig5 {F0 F : Nat → Nat → Int} {C0 C X : Nat → Int → Int} {D : Int → Int} (R : mrC F0 C0 D F C X) (x v : Int) : mrC F0 C0 D F C (zsC X 5 x v) := R
theorem mrC.ig6 {F0 F : Nat → Nat → Int} {C0 C X : Nat → Int → Int} {D : Int → Int} (R : mrC F0 C0 D F C X) (x v : Int) : mrC F0 C0 D F C (zsC X 6 x v) := R
theorem mrC.ml {F0 F : Nat → Nat → Int} {C0 C X : Nat → Int → Int} {D : Int → Int} (R : mrC F0 C0 D F C X) (x y z : Int) : mrC F0 C0 D (mlF F x y z) C X := ⟨⟨R.1.1.ml x y z, fun k hk => by rw [mlF_o (by omega)]; exact R.1.2.1 k hk, R.1.2.2⟩, R.2⟩
theorem mrC.mo {F0 F : Nat → Nat → Int} {C0 C X : Nat → Int → Int} {D : Int → Int} (R : mrC F0 C0 D F C X) (M : moV F0 C0 D) : moV F C D := M.cg (R.1.1.row (by omega)) (R.1.2.1 _ (by omega)) (R.1.2.1 _ (by omega)) (R.1.2.1 _ (by omega)) (R.1.2.1 _ (by omega))
def cOK (D : Int → Int) (X : Nat → Int → Int) (B : Int) : Prop := (0 ≤ X 0 0 ∧ X 0 0 ≤ B) ∧ (0 ≤ X 0 1 ∧ X 0 1 < 64) ∧ (0 ≤ X 0 2 ∧ X 0 2 ≤ B) ∧ (0 ≤ X 0 3 ∧ X 0 3 ≤ B) ∧ (0 ≤ X 0 4 ∧ X 0 4 ≤ B) ∧ (0 ≤ X 0 5 ∧ X 0 5 ≤ B) ∧ (0 ≤ X 0 6 ∧ X 0 6 ≤ 9) ∧ (-1 ≤ X 0 7 ∧ X 0 7 ≤ 7) ∧ (-1 ≤ X 0 70 ∧ X 0 70 ≤ B) ∧ (0 ≤ X 0 71 ∧ X 0 71 ≤ B) ∧ (∀ r, 0 ≤ r → r < D 0 → (0 ≤ X 1 r ∧ X 1 r ≤ 9) ∧ (0 ≤ X 2 r ∧ X 2 r ≤ 7)) ∧ (∀ p, 0 ≤ p → p < 4 → (0 ≤ X 3 p ∧ X 3 p ≤ 3) ∧ (0 ≤ X 6 p ∧ X 6 p ≤ B) ∧ (D 1 ≤ p → X 6 p = 0)) ∧ (∀ q, 0 ≤ q → q < 8 → (-1 ≤ X 4 q ∧ X 4 q ≤ 1) ∧ (0 ≤ X 5 q ∧ X 5 q ≤ B) ∧ (D 2 ≤ q → X 5 q = 0))
theorem cOK.mono {D : Int → Int} {X : Nat → Int → Int} {B B' : Int} (K : cOK D X B) (h : B ≤ B') : cOK D X B' := by
  obtain ⟨k0, k1, k2, k3, k4, k5, k6, k7, k8, k9, ka, kb, kc⟩ := K
  exact ⟨by omega, k1, by omega, by omega, by omega, by omega, k6, k7, by omega, by omega, ka, fun p p0 p1 => by have := kb p p0 p1; exact ⟨this.1, by omega, this.2.2⟩, fun q q0 q1 => by have := kc q q0 q1; exact ⟨this.1, by omega, this.2.2⟩⟩
theorem cOK.i0 {D : Int → Int} {X : Nat → Int → Int} {B v : Int} (K : cOK D X B) (hv : 0 ≤ v ∧ v ≤ B) : cOK D (zsC X 0 0 v) B := by
  obtain ⟨k0, k1, k2, k3, k4, k5, k6, k7, k8, k9, ka, kb, kc⟩ := K
  exact ⟨hv, k1, k2, k3, k4, k5, k6, k7, k8, k9, ka, kb, kc⟩
theorem cOK.i1 {D : Int → Int} {X : Nat → Int → Int} {B v : Int} (K : cOK D X B) (hv : 0 ≤ v ∧ v < 64) : cOK D (zsC X 0 1 v) B := by
  obtain ⟨k0, k1, k2, k3, k4, k5, k6, k7, k8, k9, ka, kb, kc⟩ := K
  exact ⟨k0, hv, k2, k3, k4, k5, k6, k7, k8, k9, ka, kb, kc⟩
theorem cOK.i2 {D : Int → Int} {X : Nat → Int → Int} {B v : Int} (K : cOK D X B) (hv : 0 ≤ v ∧ v ≤ B) : cOK D (zsC X 0 2 v) B := by
  obtain ⟨k0, k1, k2, k3, k4, k5, k6, k7, k8, k9, ka, kb, kc⟩ := K
  exact ⟨k0, k1, hv, k3, k4, k5, k6, k7, k8, k9, ka, kb, kc⟩
theorem cOK.i3 {D : Int → Int} {X : Nat → Int → Int} {B v : Int} (K : cOK D X B) (hv : 0 ≤ v ∧ v ≤ B) : cOK D (zsC X 0 3 v) B := by
  obtain ⟨k0, k1, k2, k3, k4, k5, k6, k7, k8, k9, ka, kb, kc⟩ := K
  exact ⟨k0, k1, k2, hv, k4, k5, k6, k7, k8, k9, ka, kb, kc⟩
theorem cOK.i4 {D : Int → Int} {X : Nat → Int → Int} {B v : Int} (K : cOK D X B) (hv : 0 ≤ v ∧ v ≤ B) : cOK D (zsC X 0 4 v) B := by
  obtain ⟨k0, k1, k2, k3, k4, k5, k6, k7, k8, k9, ka, kb, kc⟩ := K
  exact ⟨k0, k1, k2, k3, hv, k5, k6, k7, k8, k9, ka, kb, kc⟩
theorem cOK.i5 {D : Int → Int} {X : Nat → Int → Int} {B v : Int} (K : cOK D X B) (hv : 0 ≤ v ∧ v ≤ B) : cOK D (zsC X 0 5 v) B := by
  obtain ⟨k0, k1, k2, k3, k4, k5, k6, k7, k8, k9, ka, kb, kc⟩ := K
  exact ⟨k0, k1, k2, k3, k4, hv, k6, k7, k8, k9, ka, kb, kc⟩
theorem cOK.i6 {D : Int → Int} {X : Nat → Int → Int} {B v : Int} (K : cOK D X B) (hv : 0 ≤ v ∧ v ≤ 9) : cOK D (zsC X 0 6 v) B := by
  obtain ⟨k0, k1, k2, k3, k4, k5, k6, k7, k8, k9, ka, kb, kc⟩ := K
  exact ⟨k0, k1, k2, k3, k4, k5, hv, k7, k8, k9, ka, kb, kc⟩
theorem cOK.i7 {D : Int → Int} {X : Nat → Int → Int} {B v : Int} (K : cOK D X B) (hv : -1 ≤ v ∧ v ≤ 7) : cOK D (zsC X 0 7 v) B := by
  obtain ⟨k0, k1, k2, k3, k4, k5, k6, k7, k8, k9, ka, kb, kc⟩ := K
  exact ⟨k0, k1, k2, k3, k4, k5, k6, hv, k8, k9, ka, kb, kc⟩
theorem cOK.i70 {D : Int → Int} {X : Nat → Int → Int} {B v : Int} (K : cOK D X B) (hv : -1 ≤ v ∧ v ≤ B) : cOK D (zsC X 0 70 v) B := by
  obtain ⟨k0, k1, k2, k3, k4, k5, k6, k7, k8, k9, ka, kb, kc⟩ := K
  exact ⟨k0, k1, k2, k3, k4, k5, k6, k7, hv, k9, ka, kb, kc⟩
theorem cOK.i71 {D : Int → Int} {X : Nat → Int → Int} {B v : Int} (K : cOK D X B) (hv : 0 ≤ v ∧ v ≤ B) : cOK D (zsC X 0 71 v) B := by
  obtain ⟨k0, k1, k2, k3, k4, k5, k6, k7, k8, k9, ka, kb, kc⟩ := K
  exact ⟨k0, k1, k2, k3, k4, k5, k6, k7, k8, hv, ka, kb, kc⟩
theorem cOK.i80 {D : Int → Int} {X : Nat → Int → Int} {B v : Int} (K : cOK D X B) : cOK D (zsC X 0 80 v) B := K
theorem cOK.w1 {D : Int → Int} {X : Nat → Int → Int} {B v x : Int} (K : cOK D X B) (hv : 0 ≤ v ∧ v ≤ 9) : cOK D (zsC X 1 x v) B := by
  obtain ⟨k0, k1, k2, k3, k4, k5, k6, k7, k8, k9, ka, kb, kc⟩ := K
  refine ⟨k0, k1, k2, k3, k4, k5, k6, k7, k8, k9, ?_, kb, kc⟩
  intro y y0 y1
  have g := ka y y0 y1
  by_cases c : y = x
  · rw [c] at g ⊢; exact ⟨by rw [zsC_s]; exact hv, g.2⟩
  · exact ⟨by rw [zsC_i c]; exact g.1, g.2⟩
theorem cOK.w2 {D : Int → Int} {X : Nat → Int → Int} {B v x : Int} (K : cOK D X B) (hv : 0 ≤ v ∧ v ≤ 7) : cOK D (zsC X 2 x v) B := by
  obtain ⟨k0, k1, k2, k3, k4, k5, k6, k7, k8, k9, ka, kb, kc⟩ := K
  refine ⟨k0, k1, k2, k3, k4, k5, k6, k7, k8, k9, ?_, kb, kc⟩
  intro y y0 y1
  have g := ka y y0 y1
  by_cases c : y = x
  · rw [c] at g ⊢; exact ⟨g.1, by rw [zsC_s]; exact hv⟩
  · exact ⟨g.1, by rw [zsC_i c]; exact g.2⟩
theorem cOK.w3 {D : Int → Int} {X : Nat → Int → Int} {B v x : Int} (K : cOK D X B) (hv : 0 ≤ v ∧ v ≤ 3) : cOK D (zsC X 3 x v) B := by
  obtain ⟨k0, k1, k2, k3, k4, k5, k6, k7, k8, k9, ka, kb, kc⟩ := K
  refine ⟨k0, k1, k2, k3, k4, k5, k6, k7, k8, k9, ka, ?_, kc⟩
  intro y y0 y1
  have g := kb y y0 y1
  by_cases c : y = x
  · rw [c] at g ⊢; exact ⟨by rw [zsC_s]; exact hv, g.2⟩
  · exact ⟨by rw [zsC_i c]; exact g.1, g.2⟩
theorem cOK.w6 {D : Int → Int} {X : Nat → Int → Int} {B v x : Int} (K : cOK D X B) (hv : 0 ≤ v ∧ v ≤ B) (hx : x < D 1) : cOK D (zsC X 6 x v) B := by
  obtain ⟨k0, k1, k2, k3, k4, k5, k6, k7, k8, k9, ka, kb, kc⟩ := K
  refine ⟨k0, k1, k2, k3, k4, k5, k6, k7, k8, k9, ka, ?_, kc⟩
  intro y y0 y1
  have g := kb y y0 y1
  by_cases c : y = x
  · rw [c] at g ⊢; exact ⟨g.1, by rw [zsC_s]; exact hv, fun z => by omega⟩
  · exact ⟨g.1, by rw [zsC_i c]; exact g.2.1, fun z => by rw [zsC_i c]; exact g.2.2 z⟩
theorem cOK.w4 {D : Int → Int} {X : Nat → Int → Int} {B v x : Int} (K : cOK D X B) (hv : -1 ≤ v ∧ v ≤ 1) : cOK D (zsC X 4 x v) B := by
  obtain ⟨k0, k1, k2, k3, k4, k5, k6, k7, k8, k9, ka, kb, kc⟩ := K
  refine ⟨k0, k1, k2, k3, k4, k5, k6, k7, k8, k9, ka, kb, ?_⟩
  intro y y0 y1
  have g := kc y y0 y1
  by_cases c : y = x
  · rw [c] at g ⊢; exact ⟨by rw [zsC_s]; exact hv, g.2⟩
  · exact ⟨by rw [zsC_i c]; exact g.1, g.2⟩
theorem cOK.w5 {D : Int → Int} {X : Nat → Int → Int} {B v x : Int} (K : cOK D X B) (hv : 0 ≤ v ∧ v ≤ B) (hx : x < D 2) : cOK D (zsC X 5 x v) B := by
  obtain ⟨k0, k1, k2, k3, k4, k5, k6, k7, k8, k9, ka, kb, kc⟩ := K
  refine ⟨k0, k1, k2, k3, k4, k5, k6, k7, k8, k9, ka, kb, ?_⟩
  intro y y0 y1
  have g := kc y y0 y1
  by_cases c : y = x
  · rw [c] at g ⊢; exact ⟨g.1, by rw [zsC_s]; exact hv, fun z => by omega⟩
  · exact ⟨g.1, by rw [zsC_i c]; exact g.2.1, fun z => by rw [zsC_i c]; exact g.2.2 z⟩
/-! copying of rows -/
theorem zw_aY {h : zHeap} {F : Nat → Nat → Int} {C : Nat → Int → Int} {a b t n0 n1 : Nat} {n : Int} (ha : ∃ f, hAI h a = some (t, n0, f)) (hb : ∃ f, hAI h b = some (t, n1, f)) (ht : t = 0 ∨ t = 1) (a1 : a < zK0) (b1 : b < zK0) (hab : a ≠ b) (h0 : 0 ≤ n) (h1 : n ≤ n0) (h2 : n ≤ n1) (h3 : n < 2147483648) : zaY (zw h F C) (some a) (i32 0) (some b) (i32 0) (i32 n) = some (zw h F (zsW C b (fun j => if 0 ≤ j ∧ j < n then C a j else C b j))) := by
  unfold zaY
  dsimp only
  rw [zw_AI ha a1, zw_AI hb b1]
  dsimp only
  have z0 : (i32 0).toNatClampNeg = 0 := rfl
  have zn : (i32 n).toNatClampNeg = n.toNat := i32_nat h0 h3
  have le0 : (0 : Int32) ≤ i32 n := by rw [i32_0, i32_le (by omega) (by omega) (by omega) (by omega)]; exact h0
  rw [if_pos ⟨rfl, ht, a1, b1, hab, by decide, by decide, le0, by rw [z0, zn]; omega, by rw [z0, zn]; omega⟩, z0, zn]
  refine congrArg some ?_
  obtain ⟨f, hb⟩ := hb
  refine Prod.ext rfl (Prod.ext rfl (Prod.ext ?_ rfl))
  funext a'
  show (if a' = b then some (t, n1, zcpy (fun (j : Nat) => i32 (C a (j : Int))) (fun (j : Nat) => i32 (C b (j : Int))) 0 0 n.toNat) else (if a' < zK0 then (hAI h a').map (fun q => (q.1, q.2.1, fun (j : Nat) => i32 (C a' (j : Int)))) else hAI h a')) = (if a' < zK0 then (hAI h a').map (fun q => (q.1, q.2.1, fun (j : Nat) => i32 (zsW C b (fun j => if 0 ≤ j ∧ j < n then C a j else C b j) a' (j : Int)))) else hAI h a')
  by_cases c : a' = b
  · subst c
    rw [if_pos rfl, if_pos b1, hb]
    simp only [Option.map_some]
    refine congrArg some (Prod.ext rfl (Prod.ext rfl ?_))
    funext j
    dsimp only
    unfold zcpy
    rw [zsW_s]
    by_cases c2 : (j : Int) < n
    · rw [if_pos (show 0 ≤ j ∧ j < 0 + n.toNat by omega), if_pos (show 0 ≤ (j : Int) ∧ (j : Int) < n by omega), show 0 + (j - 0) = j by omega]
    · rw [if_neg (show ¬ (0 ≤ j ∧ j < 0 + n.toNat) by omega), if_neg (show ¬ (0 ≤ (j : Int) ∧ (j : Int) < n) by omega)]
  · rw [if_neg c]
    by_cases c3 : a' < zK0
    · rw [if_pos c3, if_pos c3, zsW_a c]
    · rw [if_neg c3, if_neg c3]
