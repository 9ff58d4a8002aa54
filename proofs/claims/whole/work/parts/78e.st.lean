/-! text, both -/
section JT
variable {h : zHeap} {F F1 : Nat → Nat → Int} {C C1 : Nat → Int → Int} {A A2 T : Int → Int} {L : Nat} {xs : Nat → Int32}
theorem st0 {k : Int} (V : toV F C 1 A) (O : aOK A) (k0 : 0 ≤ k) (k1 : k ≤ 1) (kA : k ≤ A 0) (fr : ∀ x, 8 ≤ x → x < 34 → (x < 8 + 13 * k.toNat ∨ 8 + 13 * k.toNat + 7 ≤ x) → (∀ m, F1 m x = F m x) ∧ C1 x = C x) (c4 : ∀ i, 0 ≤ i → i < 3 → C1 4 i = A2 i) (eS : A2 0 = if A 0 < k + 1 then k + 1 else A 0) (eO : ∀ i, 0 ≤ i → i < 3 → i ≠ 0 → A2 i = A i) (e1 : ∀ j, 610 ≤ j → j < 1230 → (j < 610 + 44 * k ∨ 610 + 44 * k + 44 ≤ j) → A2 j = A j) (e2 : ∀ j, 0 ≤ j → j < 44 → A2 (610 + 44 * k + j) = T j) (ob : duV F1 C1 (8 + 13 * k.toNat) T ∧ dOK T) (t4 : A2 4 = 0) (t1 : F1 581 1 = A2 5 ∧ F1 582 1 = A2 6 ∧ F1 513 2 = 0) (t5 : (0 ≤ A2 5 ∧ A2 5 ≤ 3) ∧ -1 ≤ A2 6 ∧ A2 6 ≤ 600) : toV F1 C1 1 A2 ∧ aOK A2 := by
  obtain ⟨⟨o0, o1, o2⟩, o4, o5, o6, o7, o8, o9⟩ := O
  obtain ⟨⟨v1, v2, v3⟩, v4, v5, v6, v7, v8⟩ := V
  have kk : (k.toNat : Int) = k := Int.toNat_of_nonneg k0
  have sz : A2 0 ≤ A 0 + 1 ∧ (A2 0 = A 0 + 1 → k = A 0) ∧ 0 ≤ A2 0 ∧ A2 0 ≤ 2 := by
    rw [eS]; split <;> omega
  have x1 := eO 1 (by omega) (by omega) (by omega)
  have x2 := eO 2 (by omega) (by omega) (by omega)
  refine ⟨⟨⟨t1.1, t1.2.1, by rw [t4]; exact t1.2.2⟩, fun i h0 h1 => by omega, c4, fun d hd => ?_, fun d hd => ?_, fun d hd => ?_⟩, ⟨?_, ?_, ?_⟩, by omega, fun i h0 h1 => by omega, fun d h0 hd => ?_, fun d h0 hd => ?_, fun d h0 hd => ?_, t5⟩
  · by_cases c : d = k.toNat
    · subst c
      have z : duV F1 C1 (1 + 7 + 13 * k.toNat) T := ob.1
      exact z.cg ob.2 (fun j j0 j1 => by rw [kk]; exact e2 j j0 j1)
    · have hd' : (d : Int) < A 0 := by omega
      exact ((v6 d hd').same (fr _ (by omega) (by omega) (by omega)).1 (fun j _ _ => (fr _ (by omega) (by omega) (by omega)).2)).cg (o6 d (by omega) hd') (fun j j0 j1 => e1 _ (by omega) (by omega) (by omega))
  · have hd' : (d : Int) < A 1 := by omega
    exact ((v7 d hd').same (fr _ (by omega) (by omega) (by omega)).1 (fr _ (by omega) (by omega) (by omega)).2).cg (o7 d (by omega) hd') (fun j j0 j1 => e1 _ (by omega) (by omega) (by omega))
  · have hd' : (d : Int) < A 2 := by omega
    exact ((v8 d hd').same (fr _ (by omega) (by omega) (by omega)).1 (fun j _ _ => (fr _ (by omega) (by omega) (by omega)).2)).cg (o8 d (by omega) hd') (fun j j0 j1 => e1 _ (by omega) (by omega) (by omega))
  · omega
  · omega
  · omega
  · by_cases c : d = k
    · subst c
      exact ob.2.cg (fun j j0 j1 => e2 j j0 j1)
    · have hd' : d < A 0 := by omega
      exact (o6 d h0 hd').cg (fun j j0 j1 => e1 _ (by omega) (by omega) (by omega))
  · have hd' : d < A 1 := by omega
    exact (o7 d h0 hd').cg (fun j j0 j1 => e1 _ (by omega) (by omega) (by omega))
  · have hd' : d < A 2 := by omega
    exact (o8 d h0 hd').cg (fun j j0 j1 => e1 _ (by omega) (by omega) (by omega))
theorem st1 {k : Int} (V : toV F C 1 A) (O : aOK A) (k0 : 0 ≤ k) (k1 : k ≤ 1) (kA : k ≤ A 1) (fr : ∀ x, 8 ≤ x → x < 34 → (x < 15 + 13 * k.toNat ∨ 15 + 13 * k.toNat + 2 ≤ x) → (∀ m, F1 m x = F m x) ∧ C1 x = C x) (c4 : ∀ i, 0 ≤ i → i < 3 → C1 4 i = A2 i) (eS : A2 1 = if A 1 < k + 1 then k + 1 else A 1) (eO : ∀ i, 0 ≤ i → i < 3 → i ≠ 1 → A2 i = A i) (e1 : ∀ j, 610 ≤ j → j < 1230 → (j < 698 + 241 * k ∨ 698 + 241 * k + 241 ≤ j) → A2 j = A j) (e2 : ∀ j, 0 ≤ j → j < 241 → A2 (698 + 241 * k + j) = T j) (ob : yeV F1 C1 (15 + 13 * k.toNat) T ∧ yOK T) (t4 : A2 4 = 0) (t1 : F1 581 1 = A2 5 ∧ F1 582 1 = A2 6 ∧ F1 513 2 = 0) (t5 : (0 ≤ A2 5 ∧ A2 5 ≤ 3) ∧ -1 ≤ A2 6 ∧ A2 6 ≤ 600) : toV F1 C1 1 A2 ∧ aOK A2 := by
  obtain ⟨⟨o0, o1, o2⟩, o4, o5, o6, o7, o8, o9⟩ := O
  obtain ⟨⟨v1, v2, v3⟩, v4, v5, v6, v7, v8⟩ := V
  have kk : (k.toNat : Int) = k := Int.toNat_of_nonneg k0
  have sz : A2 1 ≤ A 1 + 1 ∧ (A2 1 = A 1 + 1 → k = A 1) ∧ 0 ≤ A2 1 ∧ A2 1 ≤ 2 := by
    rw [eS]; split <;> omega
  have x0 := eO 0 (by omega) (by omega) (by omega)
  have x2 := eO 2 (by omega) (by omega) (by omega)
  refine ⟨⟨⟨t1.1, t1.2.1, by rw [t4]; exact t1.2.2⟩, fun i h0 h1 => by omega, c4, fun d hd => ?_, fun d hd => ?_, fun d hd => ?_⟩, ⟨?_, ?_, ?_⟩, by omega, fun i h0 h1 => by omega, fun d h0 hd => ?_, fun d h0 hd => ?_, fun d h0 hd => ?_, t5⟩
  · have hd' : (d : Int) < A 0 := by omega
    exact ((v6 d hd').same (fr _ (by omega) (by omega) (by omega)).1 (fun j _ _ => (fr _ (by omega) (by omega) (by omega)).2)).cg (o6 d (by omega) hd') (fun j j0 j1 => e1 _ (by omega) (by omega) (by omega))
  · by_cases c : d = k.toNat
    · subst c
      have z : yeV F1 C1 (1 + 14 + 13 * k.toNat) T := ob.1
      exact z.cg ob.2 (fun j j0 j1 => by rw [kk]; exact e2 j j0 j1)
    · have hd' : (d : Int) < A 1 := by omega
      exact ((v7 d hd').same (fr _ (by omega) (by omega) (by omega)).1 (fr _ (by omega) (by omega) (by omega)).2).cg (o7 d (by omega) hd') (fun j j0 j1 => e1 _ (by omega) (by omega) (by omega))
  · have hd' : (d : Int) < A 2 := by omega
    exact ((v8 d hd').same (fr _ (by omega) (by omega) (by omega)).1 (fun j _ _ => (fr _ (by omega) (by omega) (by omega)).2)).cg (o8 d (by omega) hd') (fun j j0 j1 => e1 _ (by omega) (by omega) (by omega))
  · omega
  · omega
  · omega
  · have hd' : d < A 0 := by omega
    exact (o6 d h0 hd').cg (fun j j0 j1 => e1 _ (by omega) (by omega) (by omega))
  · by_cases c : d = k
    · subst c
      exact ob.2.cg (fun j j0 j1 => e2 j j0 j1)
    · have hd' : d < A 1 := by omega
      exact (o7 d h0 hd').cg (fun j j0 j1 => e1 _ (by omega) (by omega) (by omega))
  · have hd' : d < A 2 := by omega
    exact (o8 d h0 hd').cg (fun j j0 j1 => e1 _ (by omega) (by omega) (by omega))
theorem st2 {k : Int} (V : toV F C 1 A) (O : aOK A) (k0 : 0 ≤ k) (k1 : k ≤ 1) (kA : k ≤ A 2) (fr : ∀ x, 8 ≤ x → x < 34 → (x < 17 + 13 * k.toNat ∨ 17 + 13 * k.toNat + 4 ≤ x) → (∀ m, F1 m x = F m x) ∧ C1 x = C x) (c4 : ∀ i, 0 ≤ i → i < 3 → C1 4 i = A2 i) (eS : A2 2 = if A 2 < k + 1 then k + 1 else A 2) (eO : ∀ i, 0 ≤ i → i < 3 → i ≠ 2 → A2 i = A i) (e1 : ∀ j, 610 ≤ j → j < 1230 → (j < 1180 + 25 * k ∨ 1180 + 25 * k + 25 ≤ j) → A2 j = A j) (e2 : ∀ j, 0 ≤ j → j < 25 → A2 (1180 + 25 * k + j) = T j) (ob : loV F1 C1 (17 + 13 * k.toNat) T ∧ lOK T) (t4 : A2 4 = 0) (t1 : F1 581 1 = A2 5 ∧ F1 582 1 = A2 6 ∧ F1 513 2 = 0) (t5 : (0 ≤ A2 5 ∧ A2 5 ≤ 3) ∧ -1 ≤ A2 6 ∧ A2 6 ≤ 600) : toV F1 C1 1 A2 ∧ aOK A2 := by
  obtain ⟨⟨o0, o1, o2⟩, o4, o5, o6, o7, o8, o9⟩ := O
  obtain ⟨⟨v1, v2, v3⟩, v4, v5, v6, v7, v8⟩ := V
  have kk : (k.toNat : Int) = k := Int.toNat_of_nonneg k0
  have sz : A2 2 ≤ A 2 + 1 ∧ (A2 2 = A 2 + 1 → k = A 2) ∧ 0 ≤ A2 2 ∧ A2 2 ≤ 2 := by
    rw [eS]; split <;> omega
  have x0 := eO 0 (by omega) (by omega) (by omega)
  have x1 := eO 1 (by omega) (by omega) (by omega)
  refine ⟨⟨⟨t1.1, t1.2.1, by rw [t4]; exact t1.2.2⟩, fun i h0 h1 => by omega, c4, fun d hd => ?_, fun d hd => ?_, fun d hd => ?_⟩, ⟨?_, ?_, ?_⟩, by omega, fun i h0 h1 => by omega, fun d h0 hd => ?_, fun d h0 hd => ?_, fun d h0 hd => ?_, t5⟩
  · have hd' : (d : Int) < A 0 := by omega
    exact ((v6 d hd').same (fr _ (by omega) (by omega) (by omega)).1 (fun j _ _ => (fr _ (by omega) (by omega) (by omega)).2)).cg (o6 d (by omega) hd') (fun j j0 j1 => e1 _ (by omega) (by omega) (by omega))
  · have hd' : (d : Int) < A 1 := by omega
    exact ((v7 d hd').same (fr _ (by omega) (by omega) (by omega)).1 (fr _ (by omega) (by omega) (by omega)).2).cg (o7 d (by omega) hd') (fun j j0 j1 => e1 _ (by omega) (by omega) (by omega))
  · by_cases c : d = k.toNat
    · subst c
      have z : loV F1 C1 (1 + 16 + 13 * k.toNat) T := ob.1
      exact z.cg ob.2 (fun j j0 j1 => by rw [kk]; exact e2 j j0 j1)
    · have hd' : (d : Int) < A 2 := by omega
      exact ((v8 d hd').same (fr _ (by omega) (by omega) (by omega)).1 (fun j _ _ => (fr _ (by omega) (by omega) (by omega)).2)).cg (o8 d (by omega) hd') (fun j j0 j1 => e1 _ (by omega) (by omega) (by omega))
  · omega
  · omega
  · omega
  · have hd' : d < A 0 := by omega
    exact (o6 d h0 hd').cg (fun j j0 j1 => e1 _ (by omega) (by omega) (by omega))
  · have hd' : d < A 1 := by omega
    exact (o7 d h0 hd').cg (fun j j0 j1 => e1 _ (by omega) (by omega) (by omega))
  · by_cases c : d = k
    · subst c
      exact ob.2.cg (fun j j0 j1 => e2 j j0 j1)
    · have hd' : d < A 2 := by omega
      exact (o8 d h0 hd').cg (fun j j0 j1 => e1 _ (by omega) (by omega) (by omega))
end JT
