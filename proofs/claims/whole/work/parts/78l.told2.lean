/-! a Told made, whole -/
section TJ
variable {g h h' : zHeap} {N y : Nat}
theorem sR_N (h : zHeap) (k a : Nat) (r : Option Nat) : hN (zsR h k a r) = hN h := id rfl
theorem sR_S (h : zHeap) (k a : Nat) (r : Option Nat) : hS (zsR h k a r) = hS h := id rfl
theorem sR_FI (h : zHeap) (k a : Nat) (r : Option Nat) : hFI (zsR h k a r) = hFI h := id rfl
theorem sR_FR (h : zHeap) (k a : Nat) (r : Option Nat) (k' a' : Nat) : hFR (zsR h k a r) k' a' = if k' = k ∧ a' = a then some r else hFR h k' a' := id rfl
theorem sR_AI (h : zHeap) (k a : Nat) (r : Option Nat) : hAI (zsR h k a r) = hAI h := id rfl
theorem sR_AR (h : zHeap) (k a : Nat) (r : Option Nat) : hAR (zsR h k a r) = hAR h := id rfl
theorem sR_CL (h : zHeap) (k a : Nat) (r : Option Nat) : hCL (zsR h k a r) = hCL h := id rfl
theorem ext.sR (e : ext g h) {k a : Nat} {r : Option Nat} (ha : hN g ≤ a) : ext g (zsR h k a r) := by
  refine ⟨e.1, fun k x hx => ⟨(e.2.1 k x hx).1, ?_⟩, e.2.2.1, e.2.2.2⟩
  rw [sR_FR, if_neg (by omega)]; exact (e.2.1 k x hx).2
theorem ext.sI (e : ext g h) {k a : Nat} {r : Int32} (ha : hN g ≤ a) : ext g (zsI h k a r) := by
  refine ⟨e.1, fun k' x hx => ⟨?_, (e.2.1 k' x hx).2⟩, e.2.2.1, e.2.2.2⟩
  show (if k' = k ∧ x = a then _ else hFI h k' x) = _
  rw [if_neg (by omega)]; exact (e.2.1 k' x hx).1
theorem itS.sI {k a k' a' : Nat} {x : Int32} (s : itS h k' a') : itS (zsI h k a x) k' a' := by
  show ∃ y, (if k' = k ∧ a' = a then some x else hFI h k' a') = some y
  by_cases c : k' = k ∧ a' = a
  · exact ⟨x, if_pos c⟩
  · rw [if_neg c]; exact s
theorem duS.sI {k a b : Nat} {x : Int32} (s : duS h b) : duS (zsI h k a x) b := ⟨s.1, ⟨s.2.1.1.sI, s.2.1.2.1.sI, s.2.1.2.2.1.sI, s.2.1.2.2.2.sI⟩, s.2.2.1, s.2.2.2.1, s.2.2.2.2⟩
theorem yeS.sI {k a b : Nat} {x : Int32} (s : yeS h b) : yeS (zsI h k a x) b := ⟨s.1, s.2.1.sI, s.2.2.1, s.2.2.2.1, s.2.2.2.2⟩
theorem loS.sI {k a b : Nat} {x : Int32} (s : loS h b) : loS (zsI h k a x) b := ⟨s.1, s.2.1.sI, s.2.2.1, s.2.2.2.1, s.2.2.2.2⟩
theorem taS.sI {k a b : Nat} {x : Int32} (s : taS h b) : taS (zsI h k a x) b := ⟨s.1, s.2.1, s.2.2.1.sI, s.2.2.2.1, s.2.2.2.2⟩
theorem toI.sI {k : Nat} {x : Int32} (H : toI h N y) (hk : k = 581 ∨ k = 582) : toI (zsI h k N x) N y := by
  obtain ⟨H1, H2, ⟨H7, H8⟩, ⟨H9, H10⟩, H11, A1, A2, A3, Hz, HN⟩ := H
  have e : ∀ k' a', k' ≠ k → hFI (zsI h k N x) k' a' = hFI h k' a' := fun k' a' hn => if_neg (fun z => hn z.1)
  refine ⟨H1, H2, ⟨H7.sI, H8.sI⟩, ⟨H9.sI, by rw [e _ _ (by omega)]; exact H10⟩, H11, A1, A2, A3, fun z hz => ?_, HN⟩
  obtain ⟨z1, z2, z3, z4, z5⟩ := Hz z hz
  exact ⟨z1.sI, z2.sI, z3.sI, by rw [e _ _ (by omega)]; exact z4, by rw [e _ _ (by omega)]; exact z5⟩
theorem toI.toS (H : toI h N 2) (hb : N + 40 < zK0) : toS h N := by
  obtain ⟨H1, H2, H3, ⟨H9, _⟩, H11, ⟨f1, A1, B1⟩, ⟨f2, A2, B2⟩, ⟨f3, A3, B3⟩, Hz, HN⟩ := H
  have z0 := Hz 0 (by omega)
  have z1 := Hz 1 (by omega)
  exact ⟨H1, H2, H3, H9, ⟨_, H11⟩, ⟨f1, A1, B1 0 (by omega), B1 1 (by omega)⟩, ⟨f2, A2, B2 0 (by omega), B2 1 (by omega)⟩, ⟨f3, A3, B3 0 (by omega), B3 1 (by omega)⟩, ⟨z0.1, z0.2.1, z0.2.2.1⟩, ⟨z1.1, z1.2.1, z1.2.2.1⟩, hb⟩
theorem i_Told (g : zHeap) (hb : hN g + 60 < zK0) : ∃ g', zv 9 137 [zR (some (hN g))] (znO zTb 9 g) = some (zI 0, g') ∧ ext g g' ∧ hN g' = hN g + 33 ∧ hS g' = hS g + 1258 ∧ toI g' (hN g) 2 ∧ hFI g' 581 (hN g) = some (i32 0) ∧ hFI g' 582 (hN g) = some (i32 (-1)) := by
  obtain ⟨h1, e1, x1, n1, s1, T, T'⟩ := i_Tape (znO zTb 9 g) (by rw [nO_N]; omega)
  rw [nO_N] at n1
  rw [nO_S, zs_9] at s1
  rw [nO_N] at T T' e1
  obtain ⟨T1, T2, T3, T4, T5⟩ := T
  have u : ∀ k, hFR h1 k (hN g) = hFR (znO zTb 9 g) k (hN g) := fun k => (x1.2.1 k (hN g) (by rw [nO_N]; omega)).2
  have v : ∀ k, hFI h1 k (hN g) = hFI (znO zTb 9 g) k (hN g) := fun k => (x1.2.1 k (hN g) (by rw [nO_N]; omega)).1
  have cl : hCL h1 (hN g) = some 9 := by rw [(x1.2.2.2 (hN g) (by rw [nO_N]; omega)).2, nO_CL, if_pos rfl]
  have u6 : hFR h1 576 (hN g) = some none := by rw [u, nO_FR, if_pos ⟨rfl, rfl⟩, zf_576]; rfl
  have u7 : hFR h1 577 (hN g) = some none := by rw [u, nO_FR, if_pos ⟨rfl, rfl⟩, zf_577]; rfl
  have u8 : hFR h1 578 (hN g) = some none := by rw [u, nO_FR, if_pos ⟨rfl, rfl⟩, zf_578]; rfl
  have u9 : hFR h1 579 (hN g) = some none := by rw [u, nO_FR, if_pos ⟨rfl, rfl⟩, zf_579]; rfl
  have u0 : hFR h1 580 (hN g) = some none := by rw [u, nO_FR, if_pos ⟨rfl, rfl⟩, zf_580]; rfl
  have i1 : hFI h1 581 (hN g) = some 0 := by rw [v, nO_FI, if_pos ⟨rfl, rfl⟩, zf_581]; rfl
  have i2 : hFI h1 582 (hN g) = some 0 := by rw [v, nO_FI, if_pos ⟨rfl, rfl⟩, zf_582]; rfl
  have p6 : zpR h1 (some (hN g)) 576 (some (hN (znO zTb 9 g))) = some (zsR h1 576 (hN g) (some (hN g + 1))) := zpR_s _ u6
  have E1 : ext g h1 := (ext.nO g 9).trans x1
  obtain ⟨w, w0⟩ : ∃ w, w = nref 3 2 580 (hN g) (nref 10 2 579 (hN g) (nref 2 2 578 (hN g) (nrow 0 3 577 (hN g) (zsR h1 576 (hN g) (some (hN g + 1)))))) := ⟨_, rfl⟩
  have Ew : ext g w := by
    rw [w0]
    exact ((((E1.sR (Nat.le_refl _)).row (Nat.le_refl _)).ref (Nat.le_refl _)).ref (Nat.le_refl _)).ref (Nat.le_refl _)
  have Sw : hS w = hS g + 618 := by rw [w0]; simp only [nref_S, nrow_S, sR_S, s1]
  have I0 : toI w (hN g) 0 := by
    rw [w0]
    refine ⟨?_, ⟨?_, ?_, ?_, ?_, ?_⟩, ⟨⟨0, ?_⟩, ⟨0, ?_⟩⟩, ⟨⟨?_, ?_, ?_, ?_, T5⟩, ?_⟩, ?_, ⟨fun _ => none, ?_, fun z hz => absurd hz (by omega)⟩, ⟨fun _ => none, ?_, fun z hz => absurd hz (by omega)⟩, ⟨fun _ => none, ?_, fun z hz => absurd hz (by omega)⟩, fun z hz => absurd hz (by omega), ?_⟩
    · simp [nref_CL, nrow_CL, sR_CL, cl]
    · simp [nref_FR, nrow_FR, sR_FR]
    · simp [nref_FR, nrow_FR, sR_FR, sR_N, n1]
    · simp [nref_FR, nrow_FR, sR_FR, nrow_N, sR_N, n1]
    · simp [nref_FR, nrow_FR, sR_FR, nref_N, nrow_N, sR_N, n1]
    · simp [nref_FR, nrow_FR, sR_FR, nref_N, nrow_N, sR_N, n1]
    · simp [nref_FI, nrow_FI, sR_FI, i1]
    · simp [nref_FI, nrow_FI, sR_FI, i2]
    · simp only [nref_CL, nrow_CL, sR_CL]; exact T1
    · simp [nref_FR, nrow_FR, sR_FR, T2]
    · unfold itS; simp only [nref_FI, nrow_FI, sR_FI]; exact T3
    · unfold rwS; rw [nref_AI, nref_AI, nref_AI, nrow_AI, sR_N, n1, if_neg (by omega), sR_AI]; exact T4
    · simp only [nref_FI, nrow_FI, sR_FI]; exact T'
    · rw [nref_AI, nref_AI, nref_AI, nrow_AI, sR_N, n1, if_pos (by omega)]
    · simp [nref_AR, nref_N, nrow_N, sR_N, n1]
    · simp [nref_AR, nref_N, nrow_N, sR_N, n1]
    · simp [nref_AR, nref_N, nrow_N, sR_N, n1]
    · simp only [nref_N, nrow_N, sR_N, n1]
  obtain ⟨w1, f1, I1, E2, S1⟩ := t_init I0 (by omega) hb Ew rfl
  obtain ⟨w2, f2, I2, E3, S2⟩ := t_init I1 (by omega) hb E2 rfl
  obtain ⟨y1, q1⟩ := I2.2.2.1.1
  obtain ⟨y2, q2⟩ := I2.2.2.1.2
  have p1 : zpI w2 (some (hN g)) 581 (i32 0) = some (zsI w2 581 (hN g) (i32 0)) := zpI_s _ q1
  have p2 : zpI (zsI w2 581 (hN g) (i32 0)) (some (hN g)) 582 (i32 (-1)) = some (zsI (zsI w2 581 (hN g) (i32 0)) 582 (hN g) (i32 (-1))) := zpI_s (y := y2) _ q2
  refine ⟨zsI (zsI w2 581 (hN g) (i32 0)) 582 (hN g) (i32 (-1)), ?_, (E3.sI (Nat.le_refl _)).sI (Nat.le_refl _), I2.2.2.2.2.2.2.2.2.2, by show hS w2 = _; omega, (I2.sI (Or.inl rfl)).sI (Or.inr rfl), ?_, ?_⟩
  rotate_left
  · show (if 581 = 582 ∧ hN g = hN g then some (i32 (-1)) else if 581 = 581 ∧ hN g = hN g then some (i32 0) else hFI w2 581 (hN g)) = _
    rw [if_neg (by omega), if_pos ⟨rfl, rfl⟩]
  · show (if 582 = 582 ∧ hN g = hN g then some (i32 (-1)) else _) = _
    rw [if_pos ⟨rfl, rfl⟩]
  have dd : decide (i32 2 ≤ i32 ((0 + 1 + 1 : Nat) : Int)) = true := by decide
  have fin : zr 137 25 [yR (some (hN g)), yI (i32 ((0 : Nat) : Int))] [] w = some (zI 0, zsI (zsI w2 581 (hN g) (i32 0)) 582 (hN g) (i32 (-1))) := by
    rw [f1, f2, e_Told_init_25]
    simp only [zoI_s, zoR_s, zoH_s, zoL_s, zbI_s, zbV_s, zbR_s, zbL_s, zif_t, zif_f, zrz_0, zrz_1, decide_true, decide_false, dd, p1, p2]
  rw [w0] at fin
  have fin' : zr 137 25 [yR (some (hN g)), yI (i32 0)] [] (nref 3 2 580 (hN g) (nref 10 2 579 (hN g) (nref 2 2 578 (hN g) (nrow 0 3 577 (hN g) (zsR h1 576 (hN g) (some (hN g + 1))))))) = some (zI 0, zsI (zsI w2 581 (hN g) (i32 0)) 582 (hN g) (i32 (-1))) := fin
  have k7 : zpR (znA 0 3 (zsR h1 576 (hN g) (some (hN g + 1)))) (some (hN g)) 577 (some (hN (zsR h1 576 (hN g) (some (hN g + 1))))) = some (nrow 0 3 577 (hN g) (zsR h1 576 (hN g) (some (hN g + 1)))) := zpR_s (y := none) _ (by show hFR (zsR h1 576 (hN g) (some (hN g + 1))) 577 (hN g) = _; rw [sR_FR, if_neg (by omega)]; exact u7)
  have k8 := nref_p (nrow 0 3 577 (hN g) (zsR h1 576 (hN g) (some (hN g + 1)))) 2 2 578 (hN g)
  rw [nrow_FR, if_neg (by omega), sR_FR, if_neg (by omega), u8] at k8
  have k9 := nref_p (nref 2 2 578 (hN g) (nrow 0 3 577 (hN g) (zsR h1 576 (hN g) (some (hN g + 1))))) 2 10 579 (hN g)
  rw [nref_FR, if_neg (by omega), nrow_FR, if_neg (by omega), sR_FR, if_neg (by omega), u9] at k9
  have k0 := nref_p (nref 10 2 579 (hN g) (nref 2 2 578 (hN g) (nrow 0 3 577 (hN g) (zsR h1 576 (hN g) (some (hN g + 1)))))) 2 3 580 (hN g)
  rw [nref_FR, if_neg (by omega), nref_FR, if_neg (by omega), nrow_FR, if_neg (by omega), sR_FR, if_neg (by omega), u0] at k0
  have e1' : zv 8 134 [zR (some (hN (znO zTb 9 g)))] (znO zTb 8 (znO zTb 9 g)) = some (zI 0, h1) := e1
  rw [zv_s (by rw [nO_CL, if_pos rfl]), e_Told_init, e1', zbV_s, p6, zoH_s, zl_3, zoN_s, k7, zoH_s, zl_2, zoN_s, k8, Option.bind_some, zoH_s, zoN_s, k9, Option.bind_some, zoH_s, zoN_s, k0, Option.bind_some, zoH_s]
  exact fin'
end TJ
