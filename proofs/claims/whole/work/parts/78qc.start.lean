/-! all made: the world at the start -/
section CS
theorem zw_self (g : zHeap) : ∃ F C, g = zw g F C ∧ (∀ k a v, hFI g k a = some v → F k a = v.toInt) ∧ (∀ a t n f, hAI g a = some (t, n, f) → C a = fun j => (f j.toNat).toInt) := by
  refine ⟨fun k a => ((hFI g k a).getD 0).toInt, fun a j => match hAI g a with
    | some (_, _, f) => (f j.toNat).toInt
    | none => 0, ?_, fun k a v e => by dsimp only; rw [e]; rfl, fun a t n f e => by dsimp only; rw [e]⟩
  refine Prod.ext ?_ (Prod.ext rfl (Prod.ext ?_ rfl))
  · funext k a
    show hFI g k a = (hFI g k a).map (fun _ => i32 ((hFI g k a).getD 0).toInt)
    cases hFI g k a with
    | none => rfl
    | some x =>
      show some x = some (i32 x.toInt)
      rw [i32_tI]
  · funext a
    show hAI g a = if a < zK0 then (hAI g a).map (fun q => (q.1, q.2.1, fun (j : Nat) => i32 (match hAI g a with
      | some (_, _, f) => (f (j : Int).toNat).toInt
      | none => 0))) else hAI g a
    by_cases z : a < zK0
    · rw [if_pos z]
      cases hAI g a with
      | none => rfl
      | some q =>
        obtain ⟨t, n, f⟩ := q
        show some (t, n, f) = some (t, n, fun (j : Nat) => i32 ((f ((j : Int).toNat)).toInt))
        simp only [i32_tI, Int.toNat_natCast]
    · rw [if_neg z]
theorem w_start (L : Nat) (xs : Nat → Int32) : ∃ y z F C, zv 11 149 [zR (some 0)] (znO zTb 11 (zh0 L xs)) = some (zI 0, y) ∧ hN y = 72 ∧ zv 12 199 [zR (some 72)] (znO zTb 12 y) = some (zI 0, zw z F C) ∧ wOK L xs z F C := by
  obtain ⟨y, e1, H⟩ := i_Main L xs
  obtain ⟨H1, H2, H3, H4, H5, H6, H7, ⟨H8, H9, H10⟩, ⟨H11, H12, H13, H14⟩, H15, H16, H17⟩ := H
  have e2 := i_Model y
  have M := made_mk y 12 lMo (by decide)
  obtain ⟨z, qz⟩ : ∃ z, z = mkRows (hN y) lMo (znO zTb 12 y) := ⟨_, rfl⟩
  rw [← qz] at e2 M
  rw [H1] at e2
  have B := M.fin xp.rfl H1 (by omega)
  have x := M.1
  have n : hN z = 89 := M.2.1.trans (by show hN y + 1 + 16 = _; omega)
  have s : hS z = 11381 := M.2.2.1.trans (by show hS y + 43 + 7111 = _; omega)
  have l1 : ∀ q ∈ wCL1, q.1 < 72 := by decide
  have l2 : ∀ q ∈ wRF1, q.2.1 < 72 := by decide
  have l3 : ∀ q ∈ wIT1, q.2 < 72 := by decide
  have l4 : ∀ q ∈ wRW1, q.1 < 72 := by decide
  have CLs : ∀ q ∈ [(72, 12)], hCL z q.1 = some q.2 := (List.forall_mem_cons.2 ⟨B.1, (fun q hq => absurd hq (List.not_mem_nil))⟩)
  have RFs : ∀ q ∈ [(768, 72, 73), (769, 72, 74), (777, 72, 75), (785, 72, 76), (786, 72, 77), (787, 72, 78), (789, 72, 79), (790, 72, 80), (791, 72, 81), (802, 72, 82), (803, 72, 83), (804, 72, 84), (805, 72, 85), (806, 72, 86), (807, 72, 87), (809, 72, 88)], hFR z q.1 q.2.1 = some (some q.2.2) := (List.forall_mem_cons.2 ⟨(B.2.2 0 0 4920 768 rfl).1, (List.forall_mem_cons.2 ⟨(B.2.2 1 2 3 769 rfl).1, (List.forall_mem_cons.2 ⟨(B.2.2 2 0 241 777 rfl).1, (List.forall_mem_cons.2 ⟨(B.2.2 3 0 800 785 rfl).1, (List.forall_mem_cons.2 ⟨(B.2.2 4 0 576 786 rfl).1, (List.forall_mem_cons.2 ⟨(B.2.2 5 0 256 787 rfl).1, (List.forall_mem_cons.2 ⟨(B.2.2 6 0 256 789 rfl).1, (List.forall_mem_cons.2 ⟨(B.2.2 7 0 6 790 rfl).1, (List.forall_mem_cons.2 ⟨(B.2.2 8 0 4 791 rfl).1, (List.forall_mem_cons.2 ⟨(B.2.2 9 0 6 802 rfl).1, (List.forall_mem_cons.2 ⟨(B.2.2 10 0 6 803 rfl).1, (List.forall_mem_cons.2 ⟨(B.2.2 11 0 4 804 rfl).1, (List.forall_mem_cons.2 ⟨(B.2.2 12 0 8 805 rfl).1, (List.forall_mem_cons.2 ⟨(B.2.2 13 0 8 806 rfl).1, (List.forall_mem_cons.2 ⟨(B.2.2 14 0 8 807 rfl).1, (List.forall_mem_cons.2 ⟨(B.2.2 15 0 9 809 rfl).1, (fun q hq => absurd hq (List.not_mem_nil))⟩)⟩)⟩)⟩)⟩)⟩)⟩)⟩)⟩)⟩)⟩)⟩)⟩)⟩)⟩)⟩)
  have ITs : ∀ q ∈ [(770, 72), (771, 72), (772, 72), (773, 72), (774, 72), (775, 72), (776, 72), (778, 72), (779, 72), (780, 72), (781, 72), (782, 72), (783, 72), (784, 72), (788, 72), (792, 72), (793, 72), (794, 72), (795, 72), (796, 72), (797, 72), (798, 72), (799, 72), (800, 72), (801, 72), (808, 72), (810, 72)], itS z q.1 q.2 := (List.forall_mem_cons.2 ⟨⟨0, B.2.1 770 rfl (by decide)⟩, (List.forall_mem_cons.2 ⟨⟨0, B.2.1 771 rfl (by decide)⟩, (List.forall_mem_cons.2 ⟨⟨0, B.2.1 772 rfl (by decide)⟩, (List.forall_mem_cons.2 ⟨⟨0, B.2.1 773 rfl (by decide)⟩, (List.forall_mem_cons.2 ⟨⟨0, B.2.1 774 rfl (by decide)⟩, (List.forall_mem_cons.2 ⟨⟨0, B.2.1 775 rfl (by decide)⟩, (List.forall_mem_cons.2 ⟨⟨0, B.2.1 776 rfl (by decide)⟩, (List.forall_mem_cons.2 ⟨⟨0, B.2.1 778 rfl (by decide)⟩, (List.forall_mem_cons.2 ⟨⟨0, B.2.1 779 rfl (by decide)⟩, (List.forall_mem_cons.2 ⟨⟨0, B.2.1 780 rfl (by decide)⟩, (List.forall_mem_cons.2 ⟨⟨0, B.2.1 781 rfl (by decide)⟩, (List.forall_mem_cons.2 ⟨⟨0, B.2.1 782 rfl (by decide)⟩, (List.forall_mem_cons.2 ⟨⟨0, B.2.1 783 rfl (by decide)⟩, (List.forall_mem_cons.2 ⟨⟨0, B.2.1 784 rfl (by decide)⟩, (List.forall_mem_cons.2 ⟨⟨0, B.2.1 788 rfl (by decide)⟩, (List.forall_mem_cons.2 ⟨⟨0, B.2.1 792 rfl (by decide)⟩, (List.forall_mem_cons.2 ⟨⟨0, B.2.1 793 rfl (by decide)⟩, (List.forall_mem_cons.2 ⟨⟨0, B.2.1 794 rfl (by decide)⟩, (List.forall_mem_cons.2 ⟨⟨0, B.2.1 795 rfl (by decide)⟩, (List.forall_mem_cons.2 ⟨⟨0, B.2.1 796 rfl (by decide)⟩, (List.forall_mem_cons.2 ⟨⟨0, B.2.1 797 rfl (by decide)⟩, (List.forall_mem_cons.2 ⟨⟨0, B.2.1 798 rfl (by decide)⟩, (List.forall_mem_cons.2 ⟨⟨0, B.2.1 799 rfl (by decide)⟩, (List.forall_mem_cons.2 ⟨⟨0, B.2.1 800 rfl (by decide)⟩, (List.forall_mem_cons.2 ⟨⟨0, B.2.1 801 rfl (by decide)⟩, (List.forall_mem_cons.2 ⟨⟨0, B.2.1 808 rfl (by decide)⟩, (List.forall_mem_cons.2 ⟨⟨0, B.2.1 810 rfl (by decide)⟩, (fun q hq => absurd hq (List.not_mem_nil))⟩)⟩)⟩)⟩)⟩)⟩)⟩)⟩)⟩)⟩)⟩)⟩)⟩)⟩)⟩)⟩)⟩)⟩)⟩)⟩)⟩)⟩)⟩)⟩)⟩)⟩)⟩)
  have RWs : ∀ q ∈ [(73, 4920), (75, 241), (76, 800), (77, 576), (78, 256), (79, 256), (80, 6), (81, 4), (82, 6), (83, 6), (84, 4), (85, 8), (86, 8), (87, 8), (88, 9)], rwS z q.1 0 q.2 := (List.forall_mem_cons.2 ⟨⟨_, (B.2.2 0 0 4920 768 rfl).2⟩, (List.forall_mem_cons.2 ⟨⟨_, (B.2.2 2 0 241 777 rfl).2⟩, (List.forall_mem_cons.2 ⟨⟨_, (B.2.2 3 0 800 785 rfl).2⟩, (List.forall_mem_cons.2 ⟨⟨_, (B.2.2 4 0 576 786 rfl).2⟩, (List.forall_mem_cons.2 ⟨⟨_, (B.2.2 5 0 256 787 rfl).2⟩, (List.forall_mem_cons.2 ⟨⟨_, (B.2.2 6 0 256 789 rfl).2⟩, (List.forall_mem_cons.2 ⟨⟨_, (B.2.2 7 0 6 790 rfl).2⟩, (List.forall_mem_cons.2 ⟨⟨_, (B.2.2 8 0 4 791 rfl).2⟩, (List.forall_mem_cons.2 ⟨⟨_, (B.2.2 9 0 6 802 rfl).2⟩, (List.forall_mem_cons.2 ⟨⟨_, (B.2.2 10 0 6 803 rfl).2⟩, (List.forall_mem_cons.2 ⟨⟨_, (B.2.2 11 0 4 804 rfl).2⟩, (List.forall_mem_cons.2 ⟨⟨_, (B.2.2 12 0 8 805 rfl).2⟩, (List.forall_mem_cons.2 ⟨⟨_, (B.2.2 13 0 8 806 rfl).2⟩, (List.forall_mem_cons.2 ⟨⟨_, (B.2.2 14 0 8 807 rfl).2⟩, (List.forall_mem_cons.2 ⟨⟨_, (B.2.2 15 0 9 809 rfl).2⟩, (fun q hq => absurd hq (List.not_mem_nil))⟩)⟩)⟩)⟩)⟩)⟩)⟩)⟩)⟩)⟩)⟩)⟩)⟩)⟩)⟩)
  have S : St z := by
    have eC : wCL = wCL1 ++ [(72, 12)] := rfl
    have eR : wRF = wRF1 ++ [(768, 72, 73), (769, 72, 74), (777, 72, 75), (785, 72, 76), (786, 72, 77), (787, 72, 78), (789, 72, 79), (790, 72, 80), (791, 72, 81), (802, 72, 82), (803, 72, 83), (804, 72, 84), (805, 72, 85), (806, 72, 86), (807, 72, 87), (809, 72, 88)] := rfl
    have eI : wIT = wIT1 ++ [(770, 72), (771, 72), (772, 72), (773, 72), (774, 72), (775, 72), (776, 72), (778, 72), (779, 72), (780, 72), (781, 72), (782, 72), (783, 72), (784, 72), (788, 72), (792, 72), (793, 72), (794, 72), (795, 72), (796, 72), (797, 72), (798, 72), (799, 72), (800, 72), (801, 72), (808, 72), (810, 72)] := rfl
    have eW : wRW = wRW1 ++ [(73, 4920), (75, 241), (76, 800), (77, 576), (78, 256), (79, 256), (80, 6), (81, 4), (82, 6), (83, 6), (84, 4), (85, 8), (86, 8), (87, 8), (88, 9)] := rfl
    refine ⟨?_, ?_, ?_, ?_, ⟨_, (B.2.2 1 2 3 769 rfl).2⟩, H7.ext x (by omega), H8.ext x (by omega), H9.ext x (by omega), H10.ext x (by omega)⟩
    · rw [eC]; exact List.forall_mem_append.2 ⟨fun q hq => (x.2.2.2 q.1 (by rw [H1]; exact l1 q hq)).2.trans (H3 q hq), CLs⟩
    · rw [eR]; exact List.forall_mem_append.2 ⟨fun q hq => (x.2.1 q.1 q.2.1 (by rw [H1]; exact l2 q hq)).2.trans (H4 q hq), RFs⟩
    · rw [eI]; exact List.forall_mem_append.2 ⟨fun q hq => (H5 q hq).ext x (by rw [H1]; exact l3 q hq), ITs⟩
    · rw [eW]; exact List.forall_mem_append.2 ⟨fun q hq => (H6 q hq).ext x (by rw [H1]; exact l4 q hq), RWs⟩
  obtain ⟨F, C, zz, hF, hC⟩ := zw_self z
  have a1 : zaS z (some 73) (i32 6) (i32 (-1)) = some (zw z F (zsC C 73 6 (-1))) := (congrArg (fun w => zaS w (some 73) (i32 6) (i32 (-1))) zz).trans (zw_aS (n := 4920) ⟨_, (B.2.2 0 0 4920 768 rfl).2⟩ (by unfold zK0; omega) (by omega) (by omega) (by omega) (-1))
  have e3 : zv 12 199 [zR (some 72)] (znO zTb 12 y) = some (zI 0, zw z F (zsC C 73 6 (-1))) := by
    rw [e2]
    show zoH (zaS z (some 73) (i32 6) (i32 (-1))) _ = _
    rw [a1, zoH_s]
  have fI := fun k a (ha : a < 72) => (x.2.1 k a (by omega)).1
  have kA := fun a (ha : 1000000 ≤ a) => (x.2.2.1 a (Or.inr (by omega))).trans (H17 a ha)
  have h73 : C 73 = fun _ => (0 : Int32).toInt := hC 73 0 4920 _ (B.2.2 0 0 4920 768 rfl).2
  have h74 : C 74 = fun _ => (0 : Int32).toInt := hC 74 2 3 _ (B.2.2 1 2 3 769 rfl).2
  have h4 : C 4 = fun _ => (0 : Int32).toInt := hC 4 0 3 _ ((x.2.2.1 4 (Or.inl (by omega))).trans H14)
  have z0 : (0 : Int32).toInt = 0 := by decide
  have c0 : ∀ j, j ≠ 6 → zsC C 73 6 (-1) 73 j = 0 := fun j hj => by
    show (if 73 = 73 ∧ j = 6 then (-1 : Int) else C 73 j) = 0
    rw [if_neg (fun q => hj q.2), h73]; exact z0
  have c6 : zsC C 73 6 (-1) 73 6 = -1 := if_pos ⟨rfl, rfl⟩
  have ca : ∀ a, a ≠ 73 → zsC C 73 6 (-1) a = C a := fun a ha => funext fun j => if_neg (fun q => ha q.1)
  refine ⟨y, z, F, zsC C 73 6 (-1), e1, H1, e3, ⟨S, ⟨⟨?_, ?_, ?_⟩, ?_, ?_, ?_, ?_, ?_⟩, ?_⟩, ⟨?_, ?_, ?_⟩, ?_, ?_, fun _ => none, ?_, ?_, ?_, ⟨by omega, ?_⟩, ?_⟩
  · rw [hF 581 1 _ ((fI 581 1 (by omega)).trans H11), c0 5 (by omega)]; decide
  · rw [hF 582 1 _ ((fI 582 1 (by omega)).trans H12), c6]; decide
  · rw [hF 513 (1 + 1) _ ((fI 513 2 (by omega)).trans H13), c0 4 (by omega)]; exact z0
  · rw [c0 4 (by omega)]; intro i i0 i1; omega
  · intro i i0 i1
    rw [c0 i (by omega), ca _ (by omega), h4]; exact z0
  · rw [c0 0 (by omega)]; intro d hd; omega
  · rw [c0 1 (by omega)]; intro d hd; omega
  · rw [c0 2 (by omega)]; intro d hd; omega
  · refine ⟨⟨?_, ?_, ?_⟩, ?_, ?_, ?_, ?_, ?_, ?_, ?_⟩
    · rw [c0 0 (by omega)]; omega
    · rw [c0 1 (by omega)]; omega
    · rw [c0 2 (by omega)]; omega
    · rw [c0 4 (by omega)]; omega
    · rw [c0 4 (by omega)]; intro i i0 i1; omega
    · rw [c0 0 (by omega)]; intro i i0 i1; omega
    · rw [c0 1 (by omega)]; intro i i0 i1; omega
    · rw [c0 2 (by omega)]; intro i i0 i1; omega
    · rw [c0 5 (by omega)]; omega
    · rw [c6]; omega
  · exact (kA 1000002 (by omega)).trans rfl
  · exact (kA 1000003 (by omega)).trans rfl
  · exact (kA 1000004 (by omega)).trans rfl
  · intro w hw
    rw [hF 640 _ _ ((fI 640 _ (by omega)).trans (H15 w hw).1), hF 192 _ _ ((fI 192 _ (by omega)).trans (H15 w hw).2), z0]; omega
  · exact (kA 1000001 (by omega)).trans rfl
  · exact (x.2.2.2 34 (by omega)).1.trans H16
  · intro k hk
    exact Or.inl ⟨rfl, by rw [ca 74 (by omega), h74]; exact z0⟩
  · intro k l b c _ _ _ hb _
    exact absurd hb (by simp)
  · show hN z + 33 * 3 ≤ 188
    omega
  · show hS z + 2000 * 3 ≤ 60000
    omega
end CS
