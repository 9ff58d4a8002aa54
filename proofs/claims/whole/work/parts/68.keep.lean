/-! the class reads a line: what it keeps -/
theorem t0_0 : decide (i32 0 = i32 0) = true := by decide
theorem t0_1 : decide (i32 0 = i32 1) = false := by decide
theorem t0_2 : decide (i32 0 = i32 2) = false := by decide
theorem t0_3 : decide (i32 0 = i32 3) = false := by decide
theorem t0_4 : decide (i32 0 = i32 4) = false := by decide
theorem t0_5 : decide (i32 0 = i32 5) = false := by decide
theorem t0_6 : decide (i32 0 = i32 6) = false := by decide
theorem t0_7 : decide (i32 0 = i32 7) = false := by decide
theorem t0_8 : decide (i32 0 = i32 8) = false := by decide
theorem t0_9 : decide (i32 0 = i32 9) = false := by decide
theorem t0_10 : decide (i32 0 = i32 10) = false := by decide
theorem t0_11 : decide (i32 0 = i32 11) = false := by decide
theorem t0_12 : decide (i32 0 = i32 12) = false := by decide
theorem t1_0 : decide (i32 1 = i32 0) = false := by decide
theorem t1_1 : decide (i32 1 = i32 1) = true := by decide
theorem t1_2 : decide (i32 1 = i32 2) = false := by decide
theorem t1_3 : decide (i32 1 = i32 3) = false := by decide
theorem t1_4 : decide (i32 1 = i32 4) = false := by decide
theorem t1_5 : decide (i32 1 = i32 5) = false := by decide
theorem t1_6 : decide (i32 1 = i32 6) = false := by decide
theorem t1_7 : decide (i32 1 = i32 7) = false := by decide
theorem t1_8 : decide (i32 1 = i32 8) = false := by decide
theorem t1_9 : decide (i32 1 = i32 9) = false := by decide
theorem t1_10 : decide (i32 1 = i32 10) = false := by decide
theorem t1_11 : decide (i32 1 = i32 11) = false := by decide
theorem t1_12 : decide (i32 1 = i32 12) = false := by decide
theorem t2_0 : decide (i32 2 = i32 0) = false := by decide
theorem t2_1 : decide (i32 2 = i32 1) = false := by decide
theorem t2_2 : decide (i32 2 = i32 2) = true := by decide
theorem t2_3 : decide (i32 2 = i32 3) = false := by decide
theorem t2_4 : decide (i32 2 = i32 4) = false := by decide
theorem t2_5 : decide (i32 2 = i32 5) = false := by decide
theorem t2_6 : decide (i32 2 = i32 6) = false := by decide
theorem t2_7 : decide (i32 2 = i32 7) = false := by decide
theorem t2_8 : decide (i32 2 = i32 8) = false := by decide
theorem t2_9 : decide (i32 2 = i32 9) = false := by decide
theorem t2_10 : decide (i32 2 = i32 10) = false := by decide
theorem t2_11 : decide (i32 2 = i32 11) = false := by decide
theorem t2_12 : decide (i32 2 = i32 12) = false := by decide
theorem t3_0 : decide (i32 3 = i32 0) = false := by decide
theorem t3_1 : decide (i32 3 = i32 1) = false := by decide
theorem t3_2 : decide (i32 3 = i32 2) = false := by decide
theorem t3_3 : decide (i32 3 = i32 3) = true := by decide
theorem t3_4 : decide (i32 3 = i32 4) = false := by decide
theorem t3_5 : decide (i32 3 = i32 5) = false := by decide
theorem t3_6 : decide (i32 3 = i32 6) = false := by decide
theorem t3_7 : decide (i32 3 = i32 7) = false := by decide
theorem t3_8 : decide (i32 3 = i32 8) = false := by decide
theorem t3_9 : decide (i32 3 = i32 9) = false := by decide
theorem t3_10 : decide (i32 3 = i32 10) = false := by decide
theorem t3_11 : decide (i32 3 = i32 11) = false := by decide
theorem t3_12 : decide (i32 3 = i32 12) = false := by decide
theorem t4_0 : decide (i32 4 = i32 0) = false := by decide
theorem t4_1 : decide (i32 4 = i32 1) = false := by decide
theorem t4_2 : decide (i32 4 = i32 2) = false := by decide
theorem t4_3 : decide (i32 4 = i32 3) = false := by decide
theorem t4_4 : decide (i32 4 = i32 4) = true := by decide
theorem t4_5 : decide (i32 4 = i32 5) = false := by decide
theorem t4_6 : decide (i32 4 = i32 6) = false := by decide
theorem t4_7 : decide (i32 4 = i32 7) = false := by decide
theorem t4_8 : decide (i32 4 = i32 8) = false := by decide
theorem t4_9 : decide (i32 4 = i32 9) = false := by decide
theorem t4_10 : decide (i32 4 = i32 10) = false := by decide
theorem t4_11 : decide (i32 4 = i32 11) = false := by decide
theorem t4_12 : decide (i32 4 = i32 12) = false := by decide
theorem t5_0 : decide (i32 5 = i32 0) = false := by decide
theorem t5_1 : decide (i32 5 = i32 1) = false := by decide
theorem t5_2 : decide (i32 5 = i32 2) = false := by decide
theorem t5_3 : decide (i32 5 = i32 3) = false := by decide
theorem t5_4 : decide (i32 5 = i32 4) = false := by decide
theorem t5_5 : decide (i32 5 = i32 5) = true := by decide
theorem t5_6 : decide (i32 5 = i32 6) = false := by decide
theorem t5_7 : decide (i32 5 = i32 7) = false := by decide
theorem t5_8 : decide (i32 5 = i32 8) = false := by decide
theorem t5_9 : decide (i32 5 = i32 9) = false := by decide
theorem t5_10 : decide (i32 5 = i32 10) = false := by decide
theorem t5_11 : decide (i32 5 = i32 11) = false := by decide
theorem t5_12 : decide (i32 5 = i32 12) = false := by decide
theorem t6_0 : decide (i32 6 = i32 0) = false := by decide
theorem t6_1 : decide (i32 6 = i32 1) = false := by decide
theorem t6_2 : decide (i32 6 = i32 2) = false := by decide
theorem t6_3 : decide (i32 6 = i32 3) = false := by decide
theorem t6_4 : decide (i32 6 = i32 4) = false := by decide
theorem t6_5 : decide (i32 6 = i32 5) = false := by decide
theorem t6_6 : decide (i32 6 = i32 6) = true := by decide
theorem t6_7 : decide (i32 6 = i32 7) = false := by decide
theorem t6_8 : decide (i32 6 = i32 8) = false := by decide
theorem t6_9 : decide (i32 6 = i32 9) = false := by decide
theorem t6_10 : decide (i32 6 = i32 10) = false := by decide
theorem t6_11 : decide (i32 6 = i32 11) = false := by decide
theorem t6_12 : decide (i32 6 = i32 12) = false := by decide
theorem t7_0 : decide (i32 7 = i32 0) = false := by decide
theorem t7_1 : decide (i32 7 = i32 1) = false := by decide
theorem t7_2 : decide (i32 7 = i32 2) = false := by decide
theorem t7_3 : decide (i32 7 = i32 3) = false := by decide
theorem t7_4 : decide (i32 7 = i32 4) = false := by decide
theorem t7_5 : decide (i32 7 = i32 5) = false := by decide
theorem t7_6 : decide (i32 7 = i32 6) = false := by decide
theorem t7_7 : decide (i32 7 = i32 7) = true := by decide
theorem t7_8 : decide (i32 7 = i32 8) = false := by decide
theorem t7_9 : decide (i32 7 = i32 9) = false := by decide
theorem t7_10 : decide (i32 7 = i32 10) = false := by decide
theorem t7_11 : decide (i32 7 = i32 11) = false := by decide
theorem t7_12 : decide (i32 7 = i32 12) = false := by decide
theorem t8_0 : decide (i32 8 = i32 0) = false := by decide
theorem t8_1 : decide (i32 8 = i32 1) = false := by decide
theorem t8_2 : decide (i32 8 = i32 2) = false := by decide
theorem t8_3 : decide (i32 8 = i32 3) = false := by decide
theorem t8_4 : decide (i32 8 = i32 4) = false := by decide
theorem t8_5 : decide (i32 8 = i32 5) = false := by decide
theorem t8_6 : decide (i32 8 = i32 6) = false := by decide
theorem t8_7 : decide (i32 8 = i32 7) = false := by decide
theorem t8_8 : decide (i32 8 = i32 8) = true := by decide
theorem t8_9 : decide (i32 8 = i32 9) = false := by decide
theorem t8_10 : decide (i32 8 = i32 10) = false := by decide
theorem t8_11 : decide (i32 8 = i32 11) = false := by decide
theorem t8_12 : decide (i32 8 = i32 12) = false := by decide
theorem t9_0 : decide (i32 9 = i32 0) = false := by decide
theorem t9_1 : decide (i32 9 = i32 1) = false := by decide
theorem t9_2 : decide (i32 9 = i32 2) = false := by decide
theorem t9_3 : decide (i32 9 = i32 3) = false := by decide
theorem t9_4 : decide (i32 9 = i32 4) = false := by decide
theorem t9_5 : decide (i32 9 = i32 5) = false := by decide
theorem t9_6 : decide (i32 9 = i32 6) = false := by decide
theorem t9_7 : decide (i32 9 = i32 7) = false := by decide
theorem t9_8 : decide (i32 9 = i32 8) = false := by decide
theorem t9_9 : decide (i32 9 = i32 9) = true := by decide
theorem t9_10 : decide (i32 9 = i32 10) = false := by decide
theorem t9_11 : decide (i32 9 = i32 11) = false := by decide
theorem t9_12 : decide (i32 9 = i32 12) = false := by decide
theorem t10_0 : decide (i32 10 = i32 0) = false := by decide
theorem t10_1 : decide (i32 10 = i32 1) = false := by decide
theorem t10_2 : decide (i32 10 = i32 2) = false := by decide
theorem t10_3 : decide (i32 10 = i32 3) = false := by decide
theorem t10_4 : decide (i32 10 = i32 4) = false := by decide
theorem t10_5 : decide (i32 10 = i32 5) = false := by decide
theorem t10_6 : decide (i32 10 = i32 6) = false := by decide
theorem t10_7 : decide (i32 10 = i32 7) = false := by decide
theorem t10_8 : decide (i32 10 = i32 8) = false := by decide
theorem t10_9 : decide (i32 10 = i32 9) = false := by decide
theorem t10_10 : decide (i32 10 = i32 10) = true := by decide
theorem t10_11 : decide (i32 10 = i32 11) = false := by decide
theorem t10_12 : decide (i32 10 = i32 12) = false := by decide
theorem t11_0 : decide (i32 11 = i32 0) = false := by decide
theorem t11_1 : decide (i32 11 = i32 1) = false := by decide
theorem t11_2 : decide (i32 11 = i32 2) = false := by decide
theorem t11_3 : decide (i32 11 = i32 3) = false := by decide
theorem t11_4 : decide (i32 11 = i32 4) = false := by decide
theorem t11_5 : decide (i32 11 = i32 5) = false := by decide
theorem t11_6 : decide (i32 11 = i32 6) = false := by decide
theorem t11_7 : decide (i32 11 = i32 7) = false := by decide
theorem t11_8 : decide (i32 11 = i32 8) = false := by decide
theorem t11_9 : decide (i32 11 = i32 9) = false := by decide
theorem t11_10 : decide (i32 11 = i32 10) = false := by decide
theorem t11_11 : decide (i32 11 = i32 11) = true := by decide
theorem t11_12 : decide (i32 11 = i32 12) = false := by decide
theorem t12_0 : decide (i32 12 = i32 0) = false := by decide
theorem t12_1 : decide (i32 12 = i32 1) = false := by decide
theorem t12_2 : decide (i32 12 = i32 2) = false := by decide
theorem t12_3 : decide (i32 12 = i32 3) = false := by decide
theorem t12_4 : decide (i32 12 = i32 4) = false := by decide
theorem t12_5 : decide (i32 12 = i32 5) = false := by decide
theorem t12_6 : decide (i32 12 = i32 6) = false := by decide
theorem t12_7 : decide (i32 12 = i32 7) = false := by decide
theorem t12_8 : decide (i32 12 = i32 8) = false := by decide
theorem t12_9 : decide (i32 12 = i32 9) = false := by decide
theorem t12_10 : decide (i32 12 = i32 10) = false := by decide
theorem t12_11 : decide (i32 12 = i32 11) = false := by decide
theorem t12_12 : decide (i32 12 = i32 12) = true := by decide
/-- what is read, as the class has it -/
def dtC (F : Nat → Nat → Int) (C : Nat → Int → Int) (sort f : Int) (T : Int → Int) : Prop := ((0 ≤ F 128 36 ∧ F 128 36 ≤ 6) ∧ (0 ≤ F 129 36 ∧ F 129 36 ≤ 4) ∧ (0 ≤ F 130 36 ∧ F 130 36 ≤ 8)) ∧ (0 ≤ F 640 43 ∧ F 640 43 ≤ 40) ∧ (0 ≤ F 192 45 ∧ F 192 45 ≤ 8) ∧ (f = 0 → (sort = 0 → duV F C 36 T ∧ dOK T) ∧ (sort = 1 → yeV F C 43 T ∧ yOK T) ∧ (sort = 2 → loV F C 45 T ∧ lOK T))
/-- nothing but what is read has changed -/
def kpF (F : Nat → Nat → Int) (C : Nat → Int → Int) (F' : Nat → Nat → Int) (C' : Nat → Int → Int) : Prop := ∀ a, a < 36 ∨ 49 ≤ a → (∀ k, F' k a = F k a) ∧ C' a = C a
theorem kpF.rfl (F : Nat → Nat → Int) (C : Nat → Int → Int) : kpF F C F C := fun _ _ => ⟨fun _ => Eq.refl _, Eq.refl _⟩
theorem kpF.sF {F F1 : Nat → Nat → Int} {C C1 : Nat → Int → Int} (h1 : kpF F C F1 C1) {k a : Nat} {x : Int} (ha : 36 ≤ a) (hb : a < 49) : kpF F C (zsF F1 k a x) C1 := fun a' h' => ⟨fun k' => (zsF_a (by omega)).trans ((h1 a' h').1 k'), (h1 a' h').2⟩
theorem kpF.sC {F F1 : Nat → Nat → Int} {C C1 : Nat → Int → Int} (h1 : kpF F C F1 C1) {a : Nat} {i x : Int} (ha : 36 ≤ a) (hb : a < 49) : kpF F C F1 (zsC C1 a i x) := fun a' h' => ⟨(h1 a' h').1, (zsC_a (by omega)).trans (h1 a' h').2⟩
theorem kpF.sW {F F1 : Nat → Nat → Int} {C C1 : Nat → Int → Int} (h1 : kpF F C F1 C1) {a : Nat} {f : Int → Int} (ha : 36 ≤ a) (hb : a < 49) : kpF F C F1 (zsW C1 a f) := fun a' h' => ⟨(h1 a' h').1, (zsW_a (by omega)).trans (h1 a' h').2⟩
theorem duV.same {F F' : Nat → Nat → Int} {C C' : Nat → Int → Int} {a : Nat} {D : Int → Int} (V : duV F C a D) (hF : ∀ k, F' k a = F k a) (hC : ∀ j, 1 ≤ j → j ≤ 6 → C' (a + j) = C (a + j)) : duV F' C' a D := by
  obtain ⟨⟨v1, v2, v3, v4⟩, v5, v6, v7, v8, v9, v10⟩ := V
  refine ⟨⟨?_, ?_, ?_, ?_⟩, ?_, ?_, ?_, ?_, ?_, ?_⟩
  · rw [hF, v1]
  · rw [hF, v2]
  · rw [hF, v3]
  · rw [hF, v4]
  · rw [hC 1 (by omega) (by omega)]; exact v5
  · rw [hC 2 (by omega) (by omega)]; exact v6
  · rw [hC 3 (by omega) (by omega)]; exact v7
  · rw [hC 4 (by omega) (by omega)]; exact v8
  · rw [hC 5 (by omega) (by omega)]; exact v9
  · rw [hC 6 (by omega) (by omega)]; exact v10
theorem dtC.fr {F F' : Nat → Nat → Int} {C C' : Nat → Int → Int} {sort f : Int} {T : Int → Int} (D : dtC F C sort f T) (h1 : rd2 F F') (h2 : ∀ a, a ≠ 49 → C' a = C a) : dtC F' C' sort f T := by
  obtain ⟨⟨d1, d2, d3⟩, d4, d5, d6⟩ := D
  have e := fun k a (ha : a ≠ 35) => h1 k a (fun z => ha z.1)
  refine ⟨⟨?_, ?_, ?_⟩, ?_, ?_, fun z => ⟨fun z1 => ⟨((d6 z).1 z1).1.same (fun k => e k 36 (by omega)) (fun j _ _ => h2 _ (by omega)), ((d6 z).1 z1).2⟩, fun z1 => ⟨?_, ((d6 z).2.1 z1).2⟩, fun z1 => ⟨?_, ((d6 z).2.2 z1).2⟩⟩⟩
  · rw [e 128 36 (by omega)]; exact d1
  · rw [e 129 36 (by omega)]; exact d2
  · rw [e 130 36 (by omega)]; exact d3
  · rw [e 640 43 (by omega)]; exact d4
  · rw [e 192 45 (by omega)]; exact d5
  · have y := ((d6 z).2.1 z1).1
    unfold yeV
    rw [e 640 43 (by omega), h2 (43 + 1) (by omega)]; exact y
  · have y := ((d6 z).2.2 z1).1
    unfold loV
    rw [e 192 45 (by omega), h2 (45 + 1) (by omega), h2 (45 + 2) (by omega), h2 (45 + 3) (by omega)]; exact y
theorem dtC.ff {F : Nat → Nat → Int} {C : Nat → Int → Int} {sort f : Int} {T T' : Int → Int} (D : dtC F C sort f T) {f' : Int} (h : f' ≠ 0) : dtC F C sort f' T' := ⟨D.1, D.2.1, D.2.2.1, fun z => absurd z h⟩
/-- a line's numbers v (and what it means, m) put to what is read -/
def kyw (l : Int) (v : Int → Int) (i : Int) : Int := if i < zTb0.getD l.toNat 0 then v i else -1
def kpS (l : Int) (v : Int → Int) (m : Int) (T : Int → Int) : Int → Int :=
  if l = 0 then up1 (up1 (up1 T (4 + 2 * T 0) (v 0)) (5 + 2 * T 0) (v 1)) 0 (T 0 + 1)
  else if l = 1 then up1 (up1 T (16 + T 1) (v 0)) 1 (T 1 + 1)
  else if l = 2 then up1 (up1 (up1 T (20 + 2 * T 2) (v 0)) (21 + 2 * T 2) (v 1)) 2 (T 2 + 1)
  else if l = 3 then up1 T 3 (v 0)
  else if l = 4 then up1 T (36 + v 0) m
  else if l = 11 then up1 (up1 (up1 (up1 T (1 + 3 * T 0) (v 0)) (2 + 3 * T 0) (v 1)) (3 + 3 * T 0) (v 2)) 0 (T 0 + 1)
  else if l = 12 then up1 (up1 (up1 (up1 T (1 + 3 * T 0) (v 0)) (2 + 3 * T 0) (v 1)) (3 + 3 * T 0) (-1)) 0 (T 0 + 1)
  else up1 (up1 (up1 (up1 (up1 (up1 (up1 T (1 + 6 * T 0) (l - 5)) (2 + 6 * T 0) (kyw l v 0)) (3 + 6 * T 0) (kyw l v 1)) (4 + 6 * T 0) (kyw l v 2)) (5 + 6 * T 0) (kyw l v 3)) (6 + 6 * T 0) (kyw l v 4)) 0 (T 0 + 1)
section KP
variable {h : zHeap} {F : Nat → Nat → Int} {C : Nat → Int → Int} {T : Int → Int} {v : Int → Int}
theorem H36 (S : St h) : duS h 36 := S.2.2.2.2.2.2.1
theorem H43 (S : St h) : yeS h 43 := S.2.2.2.2.2.2.2.1
theorem H45 (S : St h) : loS h 45 := S.2.2.2.2.2.2.2.2
theorem k_reed (S : St h) (V : duV F C 36 T) (O : dOK T) (hT : T 0 < 6) (a0 : C 49 0 = v 0) (a1 : C 49 1 = v 1) (b0 : 0 ≤ v 0 ∧ v 0 ≤ 9) (b1 : 0 ≤ v 1 ∧ v 1 ≤ 7) {m : Int} : ∃ F' C', zc 80 [zR (some 35), zI (i32 0), zI (i32 m)] (zw h F C) = some (zI 0, zw h F' C') ∧ kpF F C F' C' ∧ (duV F' C' 36 (kpS 0 v m T) ∧ dOK (kpS 0 v m T)) ∧ ((∀ k a, a ≠ 36 → F' k a = F k a) ∧ (0 ≤ F' 128 36 ∧ F' 128 36 ≤ 6) ∧ (0 ≤ F' 129 36 ∧ F' 129 36 ≤ 4) ∧ (0 ≤ F' 130 36 ∧ F' 130 36 ≤ 8)) := by
  have H := H36 S
  have x0 := wa_49 (F := F) (C := C) S (i := 0) (by omega) (by omega)
  rw [a0] at x0
  have x1 := wa_49 (F := F) (C := C) S (i := 1) (by omega) (by omega)
  rw [a1] at x1
  have ea : zc 36 [zR (some 36), zI (i32 (v 0)), zI (i32 (v 1))] (zw h F C) = some (zI 0, zw h (zsF F 128 36 (T 0 + 1)) (zsC (zsC C (36 + 1) (T 0) (v 0)) (36 + 2) (T 0) (v 1))) := by
    have o := O.1
    simp (disch := omega) only [if_true, if_false, not_true_eq_false, not_false_eq_true, zoI_s, zoR_s, zoH_s, zoL_s, zbI_s, zbV_s, zbR_s, zbL_s, zif_dec, i32_0, ne_eq, i32_lt, i32_le, i32_eq, i32_add, i32_mul, i32_sub, i32_neg, zrz_0, zrz_1, zif_t, zif_f, zsF_s, zsF_k, zsF_a, zsC_s, zsC_a, zsC_i, zsW_s, zsW_a, Int.add_zero, Int.zero_add, true_and, false_and, and_false, Bool.false_eq_true, decide_true, decide_false, Bool.true_and, Bool.false_and, Bool.true_or, Bool.false_or, sub1, and_true, if_pos, if_neg, dv H, dg_128 H, dp_128 H, dg_129 H, dp_129 H, dg_130 H, dp_130 H, dg_131 H, dp_131 H, dr_132 H, da_132 H, dr_133 H, da_133 H, dr_134 H, da_134 H, dr_135 H, da_135 H, dr_136 H, da_136 H, dr_137 H, da_137 H, ds_132 H, ds_133 H, ds_134 H, ds_135 H, ds_136 H, ds_137 H, e_Duchy_addReed, V.1.1]
  obtain ⟨⟨v1, v2, v3, v4⟩, v5, v6, v7, v8, v9, v10⟩ := V
  obtain ⟨o0, o1, o2, o3, o4, o5, o6, o7, o8, o9⟩ := O
  have eT : kpS 0 v m T = up1 (up1 (up1 T (4 + 2 * T 0) (v 0)) (5 + 2 * T 0) (v 1)) 0 (T 0 + 1) := by unfold kpS; rw [if_pos rfl]
  have e0 : kpS 0 v m T 0 = T 0 + 1 := by rw [eT]; simp (disch := omega) only [up1_s, up1_n]
  have e1 : kpS 0 v m T 1 = T 1 := by rw [eT]; simp (disch := omega) only [up1_s, up1_n]
  have e2 : kpS 0 v m T 2 = T 2 := by rw [eT]; simp (disch := omega) only [up1_s, up1_n]
  have e3 : kpS 0 v m T 3 = T 3 := by rw [eT]; simp (disch := omega) only [up1_s, up1_n]
  refine ⟨zsF F 128 36 (T 0 + 1), zsC (zsC C (36 + 1) (T 0) (v 0)) (36 + 2) (T 0) (v 1), ?_, (((kpF.rfl F C).sC (by omega) (by omega)).sC (by omega) (by omega)).sF (by omega) (by omega), ⟨⟨⟨?_, ?_, ?_, ?_⟩, ?_, ?_, ?_, ?_, ?_, ?_⟩, ⟨?_, ?_, ?_, ?_, ?_, ?_, ?_, ?_, ?_, ?_⟩⟩, ⟨fun k a ha => zsF_a ha, ?_, ?_, ?_⟩⟩
  · simp only [zoI_s, zoR_s, zoH_s, zoL_s, zbI_s, zbV_s, zbR_s, zbL_s, zif_t, zif_f, zrz_0, zrz_1, decide_true, decide_false, e_Reader_keep, t0_0, wr_320 S, wr_326 S, x0, x1, dv H, ea]
  · rw [e0]; rfl
  · rw [e1]; exact v2
  · rw [e2]; exact v3
  · rw [e3]; exact v4
  · intro y y0 y1
    rw [e0] at y1
    rw [eT]
    by_cases c : y = T 0
    · rw [c]; simp (disch := omega) only [up1_s, up1_n]; simp (disch := omega) only [zoI_s, zoR_s, zoH_s, zoL_s, zbI_s, zbV_s, zbR_s, zbL_s, zif_t, zif_f, zrz_0, zrz_1, i32_add, i32_mul, i32_sub, i32_neg, zsF_s, zsF_k, zsF_a, zsC_s, zsC_a, zsC_i, zsW_s, zsW_a, Int.add_zero, Int.zero_add, decide_true, decide_false]
    · simp (disch := omega) only [up1_s, up1_n]; simp (disch := omega) only [zoI_s, zoR_s, zoH_s, zoL_s, zbI_s, zbV_s, zbR_s, zbL_s, zif_t, zif_f, zrz_0, zrz_1, i32_add, i32_mul, i32_sub, i32_neg, zsF_s, zsF_k, zsF_a, zsC_s, zsC_a, zsC_i, zsW_s, zsW_a, Int.add_zero, Int.zero_add, decide_true, decide_false]; exact v5 y y0 (by omega)
  · intro y y0 y1
    rw [e0] at y1
    rw [eT]
    by_cases c : y = T 0
    · rw [c]; simp (disch := omega) only [up1_s, up1_n]; simp (disch := omega) only [zoI_s, zoR_s, zoH_s, zoL_s, zbI_s, zbV_s, zbR_s, zbL_s, zif_t, zif_f, zrz_0, zrz_1, i32_add, i32_mul, i32_sub, i32_neg, zsF_s, zsF_k, zsF_a, zsC_s, zsC_a, zsC_i, zsW_s, zsW_a, Int.add_zero, Int.zero_add, decide_true, decide_false]
    · simp (disch := omega) only [up1_s, up1_n]; simp (disch := omega) only [zoI_s, zoR_s, zoH_s, zoL_s, zbI_s, zbV_s, zbR_s, zbL_s, zif_t, zif_f, zrz_0, zrz_1, i32_add, i32_mul, i32_sub, i32_neg, zsF_s, zsF_k, zsF_a, zsC_s, zsC_a, zsC_i, zsW_s, zsW_a, Int.add_zero, Int.zero_add, decide_true, decide_false]; exact v6 y y0 (by omega)
  · intro y y0 y1
    rw [e1] at y1
    rw [eT]
    simp (disch := omega) only [up1_s, up1_n]; simp (disch := omega) only [zoI_s, zoR_s, zoH_s, zoL_s, zbI_s, zbV_s, zbR_s, zbL_s, zif_t, zif_f, zrz_0, zrz_1, i32_add, i32_mul, i32_sub, i32_neg, zsF_s, zsF_k, zsF_a, zsC_s, zsC_a, zsC_i, zsW_s, zsW_a, Int.add_zero, Int.zero_add, decide_true, decide_false]; exact v7 y y0 (by omega)
  · intro y y0 y1
    rw [e2] at y1
    rw [eT]
    simp (disch := omega) only [up1_s, up1_n]; simp (disch := omega) only [zoI_s, zoR_s, zoH_s, zoL_s, zbI_s, zbV_s, zbR_s, zbL_s, zif_t, zif_f, zrz_0, zrz_1, i32_add, i32_mul, i32_sub, i32_neg, zsF_s, zsF_k, zsF_a, zsC_s, zsC_a, zsC_i, zsW_s, zsW_a, Int.add_zero, Int.zero_add, decide_true, decide_false]; exact v8 y y0 (by omega)
  · intro y y0 y1
    rw [e2] at y1
    rw [eT]
    simp (disch := omega) only [up1_s, up1_n]; simp (disch := omega) only [zoI_s, zoR_s, zoH_s, zoL_s, zbI_s, zbV_s, zbR_s, zbL_s, zif_t, zif_f, zrz_0, zrz_1, i32_add, i32_mul, i32_sub, i32_neg, zsF_s, zsF_k, zsF_a, zsC_s, zsC_a, zsC_i, zsW_s, zsW_a, Int.add_zero, Int.zero_add, decide_true, decide_false]; exact v9 y y0 (by omega)
  · intro y y0 y1
    rw [eT]
    simp (disch := omega) only [up1_s, up1_n]; simp (disch := omega) only [zoI_s, zoR_s, zoH_s, zoL_s, zbI_s, zbV_s, zbR_s, zbL_s, zif_t, zif_f, zrz_0, zrz_1, i32_add, i32_mul, i32_sub, i32_neg, zsF_s, zsF_k, zsF_a, zsC_s, zsC_a, zsC_i, zsW_s, zsW_a, Int.add_zero, Int.zero_add, decide_true, decide_false]; exact v10 y y0 (by omega)
  · rw [e0]; omega
  · rw [e1]; exact o1
  · rw [e2]; exact o2
  · rw [e3]; exact o3
  · intro y y0 y1
    rw [e0] at y1
    rw [eT]
    by_cases c : y = T 0
    · rw [c]; simp (disch := omega) only [up1_s, up1_n]; exact b0
    · simp (disch := omega) only [up1_s, up1_n]; exact o4 y y0 (by omega)
  · intro y y0 y1
    rw [e0] at y1
    rw [eT]
    by_cases c : y = T 0
    · rw [c]; simp (disch := omega) only [up1_s, up1_n]; exact b1
    · simp (disch := omega) only [up1_s, up1_n]; exact o5 y y0 (by omega)
  · intro y y0 y1
    rw [e1] at y1
    rw [eT]
    simp (disch := omega) only [up1_s, up1_n]; exact o6 y y0 (by omega)
  · intro y y0 y1
    rw [e2] at y1
    rw [eT]
    simp (disch := omega) only [up1_s, up1_n]; exact o7 y y0 (by omega)
  · intro y y0 y1
    rw [e2] at y1
    rw [eT]
    simp (disch := omega) only [up1_s, up1_n]; exact o8 y y0 (by omega)
  · intro y y0 y1
    rw [eT]
    simp (disch := omega) only [up1_s, up1_n]; exact o9 y y0 (by omega)
  · show 0 ≤ T 0 + 1 ∧ T 0 + 1 ≤ 6
    omega
  · show 0 ≤ F 129 36 ∧ F 129 36 ≤ 4
    rw [v2]; exact o1
  · show 0 ≤ F 130 36 ∧ F 130 36 ≤ 8
    rw [v3]; exact o2
theorem k_player (S : St h) (V : duV F C 36 T) (O : dOK T) (hT : T 1 < 4) (a0 : C 49 0 = v 0) (b0 : 1 ≤ v 0 ∧ v 0 ≤ 9) {m : Int} : ∃ F' C', zc 80 [zR (some 35), zI (i32 1), zI (i32 m)] (zw h F C) = some (zI 0, zw h F' C') ∧ kpF F C F' C' ∧ (duV F' C' 36 (kpS 1 v m T) ∧ dOK (kpS 1 v m T)) ∧ ((∀ k a, a ≠ 36 → F' k a = F k a) ∧ (0 ≤ F' 128 36 ∧ F' 128 36 ≤ 6) ∧ (0 ≤ F' 129 36 ∧ F' 129 36 ≤ 4) ∧ (0 ≤ F' 130 36 ∧ F' 130 36 ≤ 8)) := by
  have H := H36 S
  have x0 := wa_49 (F := F) (C := C) S (i := 0) (by omega) (by omega)
  rw [a0] at x0
  have ea : zc 37 [zR (some 36), zI (i32 (v 0))] (zw h F C) = some (zI 0, zw h (zsF F 129 36 (T 1 + 1)) (zsC C (36 + 3) (T 1) (v 0))) := by
    have o := O.2.1
    simp (disch := omega) only [if_true, if_false, not_true_eq_false, not_false_eq_true, zoI_s, zoR_s, zoH_s, zoL_s, zbI_s, zbV_s, zbR_s, zbL_s, zif_dec, i32_0, ne_eq, i32_lt, i32_le, i32_eq, i32_add, i32_mul, i32_sub, i32_neg, zrz_0, zrz_1, zif_t, zif_f, zsF_s, zsF_k, zsF_a, zsC_s, zsC_a, zsC_i, zsW_s, zsW_a, Int.add_zero, Int.zero_add, true_and, false_and, and_false, Bool.false_eq_true, decide_true, decide_false, Bool.true_and, Bool.false_and, Bool.true_or, Bool.false_or, sub1, and_true, if_pos, if_neg, dv H, dg_128 H, dp_128 H, dg_129 H, dp_129 H, dg_130 H, dp_130 H, dg_131 H, dp_131 H, dr_132 H, da_132 H, dr_133 H, da_133 H, dr_134 H, da_134 H, dr_135 H, da_135 H, dr_136 H, da_136 H, dr_137 H, da_137 H, ds_132 H, ds_133 H, ds_134 H, ds_135 H, ds_136 H, ds_137 H, e_Duchy_addPlayer, V.1.2.1]
  obtain ⟨⟨v1, v2, v3, v4⟩, v5, v6, v7, v8, v9, v10⟩ := V
  obtain ⟨o0, o1, o2, o3, o4, o5, o6, o7, o8, o9⟩ := O
  have eT : kpS 1 v m T = up1 (up1 T (16 + T 1) (v 0)) 1 (T 1 + 1) := by unfold kpS; rw [if_neg (by omega), if_pos rfl]
  have e0 : kpS 1 v m T 0 = T 0 := by rw [eT]; simp (disch := omega) only [up1_s, up1_n]
  have e1 : kpS 1 v m T 1 = T 1 + 1 := by rw [eT]; simp (disch := omega) only [up1_s, up1_n]
  have e2 : kpS 1 v m T 2 = T 2 := by rw [eT]; simp (disch := omega) only [up1_s, up1_n]
  have e3 : kpS 1 v m T 3 = T 3 := by rw [eT]; simp (disch := omega) only [up1_s, up1_n]
  refine ⟨zsF F 129 36 (T 1 + 1), zsC C (36 + 3) (T 1) (v 0), ?_, ((kpF.rfl F C).sC (by omega) (by omega)).sF (by omega) (by omega), ⟨⟨⟨?_, ?_, ?_, ?_⟩, ?_, ?_, ?_, ?_, ?_, ?_⟩, ⟨?_, ?_, ?_, ?_, ?_, ?_, ?_, ?_, ?_, ?_⟩⟩, ⟨fun k a ha => zsF_a ha, ?_, ?_, ?_⟩⟩
  · simp only [zoI_s, zoR_s, zoH_s, zoL_s, zbI_s, zbV_s, zbR_s, zbL_s, zif_t, zif_f, zrz_0, zrz_1, decide_true, decide_false, e_Reader_keep, t1_0, t1_1, wr_320 S, wr_326 S, x0, dv H, ea]
  · rw [e0]; exact v1
  · rw [e1]; rfl
  · rw [e2]; exact v3
  · rw [e3]; exact v4
  · intro y y0 y1
    rw [e0] at y1
    rw [eT]
    simp (disch := omega) only [up1_s, up1_n]; simp (disch := omega) only [zoI_s, zoR_s, zoH_s, zoL_s, zbI_s, zbV_s, zbR_s, zbL_s, zif_t, zif_f, zrz_0, zrz_1, i32_add, i32_mul, i32_sub, i32_neg, zsF_s, zsF_k, zsF_a, zsC_s, zsC_a, zsC_i, zsW_s, zsW_a, Int.add_zero, Int.zero_add, decide_true, decide_false]; exact v5 y y0 (by omega)
  · intro y y0 y1
    rw [e0] at y1
    rw [eT]
    simp (disch := omega) only [up1_s, up1_n]; simp (disch := omega) only [zoI_s, zoR_s, zoH_s, zoL_s, zbI_s, zbV_s, zbR_s, zbL_s, zif_t, zif_f, zrz_0, zrz_1, i32_add, i32_mul, i32_sub, i32_neg, zsF_s, zsF_k, zsF_a, zsC_s, zsC_a, zsC_i, zsW_s, zsW_a, Int.add_zero, Int.zero_add, decide_true, decide_false]; exact v6 y y0 (by omega)
  · intro y y0 y1
    rw [e1] at y1
    rw [eT]
    by_cases c : y = T 1
    · rw [c]; simp (disch := omega) only [up1_s, up1_n]; simp (disch := omega) only [zoI_s, zoR_s, zoH_s, zoL_s, zbI_s, zbV_s, zbR_s, zbL_s, zif_t, zif_f, zrz_0, zrz_1, i32_add, i32_mul, i32_sub, i32_neg, zsF_s, zsF_k, zsF_a, zsC_s, zsC_a, zsC_i, zsW_s, zsW_a, Int.add_zero, Int.zero_add, decide_true, decide_false]
    · simp (disch := omega) only [up1_s, up1_n]; simp (disch := omega) only [zoI_s, zoR_s, zoH_s, zoL_s, zbI_s, zbV_s, zbR_s, zbL_s, zif_t, zif_f, zrz_0, zrz_1, i32_add, i32_mul, i32_sub, i32_neg, zsF_s, zsF_k, zsF_a, zsC_s, zsC_a, zsC_i, zsW_s, zsW_a, Int.add_zero, Int.zero_add, decide_true, decide_false]; exact v7 y y0 (by omega)
  · intro y y0 y1
    rw [e2] at y1
    rw [eT]
    simp (disch := omega) only [up1_s, up1_n]; simp (disch := omega) only [zoI_s, zoR_s, zoH_s, zoL_s, zbI_s, zbV_s, zbR_s, zbL_s, zif_t, zif_f, zrz_0, zrz_1, i32_add, i32_mul, i32_sub, i32_neg, zsF_s, zsF_k, zsF_a, zsC_s, zsC_a, zsC_i, zsW_s, zsW_a, Int.add_zero, Int.zero_add, decide_true, decide_false]; exact v8 y y0 (by omega)
  · intro y y0 y1
    rw [e2] at y1
    rw [eT]
    simp (disch := omega) only [up1_s, up1_n]; simp (disch := omega) only [zoI_s, zoR_s, zoH_s, zoL_s, zbI_s, zbV_s, zbR_s, zbL_s, zif_t, zif_f, zrz_0, zrz_1, i32_add, i32_mul, i32_sub, i32_neg, zsF_s, zsF_k, zsF_a, zsC_s, zsC_a, zsC_i, zsW_s, zsW_a, Int.add_zero, Int.zero_add, decide_true, decide_false]; exact v9 y y0 (by omega)
  · intro y y0 y1
    rw [eT]
    simp (disch := omega) only [up1_s, up1_n]; simp (disch := omega) only [zoI_s, zoR_s, zoH_s, zoL_s, zbI_s, zbV_s, zbR_s, zbL_s, zif_t, zif_f, zrz_0, zrz_1, i32_add, i32_mul, i32_sub, i32_neg, zsF_s, zsF_k, zsF_a, zsC_s, zsC_a, zsC_i, zsW_s, zsW_a, Int.add_zero, Int.zero_add, decide_true, decide_false]; exact v10 y y0 (by omega)
  · rw [e0]; exact o0
  · rw [e1]; omega
  · rw [e2]; exact o2
  · rw [e3]; exact o3
  · intro y y0 y1
    rw [e0] at y1
    rw [eT]
    simp (disch := omega) only [up1_s, up1_n]; exact o4 y y0 (by omega)
  · intro y y0 y1
    rw [e0] at y1
    rw [eT]
    simp (disch := omega) only [up1_s, up1_n]; exact o5 y y0 (by omega)
  · intro y y0 y1
    rw [e1] at y1
    rw [eT]
    by_cases c : y = T 1
    · rw [c]; simp (disch := omega) only [up1_s, up1_n]; exact b0
    · simp (disch := omega) only [up1_s, up1_n]; exact o6 y y0 (by omega)
  · intro y y0 y1
    rw [e2] at y1
    rw [eT]
    simp (disch := omega) only [up1_s, up1_n]; exact o7 y y0 (by omega)
  · intro y y0 y1
    rw [e2] at y1
    rw [eT]
    simp (disch := omega) only [up1_s, up1_n]; exact o8 y y0 (by omega)
  · intro y y0 y1
    rw [eT]
    simp (disch := omega) only [up1_s, up1_n]; exact o9 y y0 (by omega)
  · show 0 ≤ F 128 36 ∧ F 128 36 ≤ 6
    rw [v1]; exact o0
  · show 0 ≤ T 1 + 1 ∧ T 1 + 1 ≤ 4
    omega
  · show 0 ≤ F 130 36 ∧ F 130 36 ≤ 8
    rw [v3]; exact o2
theorem k_question (S : St h) (V : duV F C 36 T) (O : dOK T) (hT : T 2 < 8) (a0 : C 49 0 = v 0) (a1 : C 49 1 = v 1) (b0 : 1 ≤ v 0 ∧ v 0 ≤ 15) (b1 : 0 ≤ v 1 ∧ v 1 ≤ 3) {m : Int} : ∃ F' C', zc 80 [zR (some 35), zI (i32 2), zI (i32 m)] (zw h F C) = some (zI 0, zw h F' C') ∧ kpF F C F' C' ∧ (duV F' C' 36 (kpS 2 v m T) ∧ dOK (kpS 2 v m T)) ∧ ((∀ k a, a ≠ 36 → F' k a = F k a) ∧ (0 ≤ F' 128 36 ∧ F' 128 36 ≤ 6) ∧ (0 ≤ F' 129 36 ∧ F' 129 36 ≤ 4) ∧ (0 ≤ F' 130 36 ∧ F' 130 36 ≤ 8)) := by
  have H := H36 S
  have x0 := wa_49 (F := F) (C := C) S (i := 0) (by omega) (by omega)
  rw [a0] at x0
  have x1 := wa_49 (F := F) (C := C) S (i := 1) (by omega) (by omega)
  rw [a1] at x1
  have ea : zc 38 [zR (some 36), zI (i32 (v 0)), zI (i32 (v 1))] (zw h F C) = some (zI 0, zw h (zsF F 130 36 (T 2 + 1)) (zsC (zsC C (36 + 4) (T 2) (v 0)) (36 + 5) (T 2) (v 1))) := by
    have o := O.2.2.1
    simp (disch := omega) only [if_true, if_false, not_true_eq_false, not_false_eq_true, zoI_s, zoR_s, zoH_s, zoL_s, zbI_s, zbV_s, zbR_s, zbL_s, zif_dec, i32_0, ne_eq, i32_lt, i32_le, i32_eq, i32_add, i32_mul, i32_sub, i32_neg, zrz_0, zrz_1, zif_t, zif_f, zsF_s, zsF_k, zsF_a, zsC_s, zsC_a, zsC_i, zsW_s, zsW_a, Int.add_zero, Int.zero_add, true_and, false_and, and_false, Bool.false_eq_true, decide_true, decide_false, Bool.true_and, Bool.false_and, Bool.true_or, Bool.false_or, sub1, and_true, if_pos, if_neg, dv H, dg_128 H, dp_128 H, dg_129 H, dp_129 H, dg_130 H, dp_130 H, dg_131 H, dp_131 H, dr_132 H, da_132 H, dr_133 H, da_133 H, dr_134 H, da_134 H, dr_135 H, da_135 H, dr_136 H, da_136 H, dr_137 H, da_137 H, ds_132 H, ds_133 H, ds_134 H, ds_135 H, ds_136 H, ds_137 H, e_Duchy_addQuestion, V.1.2.2.1]
  obtain ⟨⟨v1, v2, v3, v4⟩, v5, v6, v7, v8, v9, v10⟩ := V
  obtain ⟨o0, o1, o2, o3, o4, o5, o6, o7, o8, o9⟩ := O
  have eT : kpS 2 v m T = up1 (up1 (up1 T (20 + 2 * T 2) (v 0)) (21 + 2 * T 2) (v 1)) 2 (T 2 + 1) := by unfold kpS; rw [if_neg (by omega), if_neg (by omega), if_pos rfl]
  have e0 : kpS 2 v m T 0 = T 0 := by rw [eT]; simp (disch := omega) only [up1_s, up1_n]
  have e1 : kpS 2 v m T 1 = T 1 := by rw [eT]; simp (disch := omega) only [up1_s, up1_n]
  have e2 : kpS 2 v m T 2 = T 2 + 1 := by rw [eT]; simp (disch := omega) only [up1_s, up1_n]
  have e3 : kpS 2 v m T 3 = T 3 := by rw [eT]; simp (disch := omega) only [up1_s, up1_n]
  refine ⟨zsF F 130 36 (T 2 + 1), zsC (zsC C (36 + 4) (T 2) (v 0)) (36 + 5) (T 2) (v 1), ?_, (((kpF.rfl F C).sC (by omega) (by omega)).sC (by omega) (by omega)).sF (by omega) (by omega), ⟨⟨⟨?_, ?_, ?_, ?_⟩, ?_, ?_, ?_, ?_, ?_, ?_⟩, ⟨?_, ?_, ?_, ?_, ?_, ?_, ?_, ?_, ?_, ?_⟩⟩, ⟨fun k a ha => zsF_a ha, ?_, ?_, ?_⟩⟩
  · simp only [zoI_s, zoR_s, zoH_s, zoL_s, zbI_s, zbV_s, zbR_s, zbL_s, zif_t, zif_f, zrz_0, zrz_1, decide_true, decide_false, e_Reader_keep, t2_0, t2_1, t2_2, wr_320 S, wr_326 S, x0, x1, dv H, ea]
  · rw [e0]; exact v1
  · rw [e1]; exact v2
  · rw [e2]; rfl
  · rw [e3]; exact v4
  · intro y y0 y1
    rw [e0] at y1
    rw [eT]
    simp (disch := omega) only [up1_s, up1_n]; simp (disch := omega) only [zoI_s, zoR_s, zoH_s, zoL_s, zbI_s, zbV_s, zbR_s, zbL_s, zif_t, zif_f, zrz_0, zrz_1, i32_add, i32_mul, i32_sub, i32_neg, zsF_s, zsF_k, zsF_a, zsC_s, zsC_a, zsC_i, zsW_s, zsW_a, Int.add_zero, Int.zero_add, decide_true, decide_false]; exact v5 y y0 (by omega)
  · intro y y0 y1
    rw [e0] at y1
    rw [eT]
    simp (disch := omega) only [up1_s, up1_n]; simp (disch := omega) only [zoI_s, zoR_s, zoH_s, zoL_s, zbI_s, zbV_s, zbR_s, zbL_s, zif_t, zif_f, zrz_0, zrz_1, i32_add, i32_mul, i32_sub, i32_neg, zsF_s, zsF_k, zsF_a, zsC_s, zsC_a, zsC_i, zsW_s, zsW_a, Int.add_zero, Int.zero_add, decide_true, decide_false]; exact v6 y y0 (by omega)
  · intro y y0 y1
    rw [e1] at y1
    rw [eT]
    simp (disch := omega) only [up1_s, up1_n]; simp (disch := omega) only [zoI_s, zoR_s, zoH_s, zoL_s, zbI_s, zbV_s, zbR_s, zbL_s, zif_t, zif_f, zrz_0, zrz_1, i32_add, i32_mul, i32_sub, i32_neg, zsF_s, zsF_k, zsF_a, zsC_s, zsC_a, zsC_i, zsW_s, zsW_a, Int.add_zero, Int.zero_add, decide_true, decide_false]; exact v7 y y0 (by omega)
  · intro y y0 y1
    rw [e2] at y1
    rw [eT]
    by_cases c : y = T 2
    · rw [c]; simp (disch := omega) only [up1_s, up1_n]; simp (disch := omega) only [zoI_s, zoR_s, zoH_s, zoL_s, zbI_s, zbV_s, zbR_s, zbL_s, zif_t, zif_f, zrz_0, zrz_1, i32_add, i32_mul, i32_sub, i32_neg, zsF_s, zsF_k, zsF_a, zsC_s, zsC_a, zsC_i, zsW_s, zsW_a, Int.add_zero, Int.zero_add, decide_true, decide_false]
    · simp (disch := omega) only [up1_s, up1_n]; simp (disch := omega) only [zoI_s, zoR_s, zoH_s, zoL_s, zbI_s, zbV_s, zbR_s, zbL_s, zif_t, zif_f, zrz_0, zrz_1, i32_add, i32_mul, i32_sub, i32_neg, zsF_s, zsF_k, zsF_a, zsC_s, zsC_a, zsC_i, zsW_s, zsW_a, Int.add_zero, Int.zero_add, decide_true, decide_false]; exact v8 y y0 (by omega)
  · intro y y0 y1
    rw [e2] at y1
    rw [eT]
    by_cases c : y = T 2
    · rw [c]; simp (disch := omega) only [up1_s, up1_n]; simp (disch := omega) only [zoI_s, zoR_s, zoH_s, zoL_s, zbI_s, zbV_s, zbR_s, zbL_s, zif_t, zif_f, zrz_0, zrz_1, i32_add, i32_mul, i32_sub, i32_neg, zsF_s, zsF_k, zsF_a, zsC_s, zsC_a, zsC_i, zsW_s, zsW_a, Int.add_zero, Int.zero_add, decide_true, decide_false]
    · simp (disch := omega) only [up1_s, up1_n]; simp (disch := omega) only [zoI_s, zoR_s, zoH_s, zoL_s, zbI_s, zbV_s, zbR_s, zbL_s, zif_t, zif_f, zrz_0, zrz_1, i32_add, i32_mul, i32_sub, i32_neg, zsF_s, zsF_k, zsF_a, zsC_s, zsC_a, zsC_i, zsW_s, zsW_a, Int.add_zero, Int.zero_add, decide_true, decide_false]; exact v9 y y0 (by omega)
  · intro y y0 y1
    rw [eT]
    simp (disch := omega) only [up1_s, up1_n]; simp (disch := omega) only [zoI_s, zoR_s, zoH_s, zoL_s, zbI_s, zbV_s, zbR_s, zbL_s, zif_t, zif_f, zrz_0, zrz_1, i32_add, i32_mul, i32_sub, i32_neg, zsF_s, zsF_k, zsF_a, zsC_s, zsC_a, zsC_i, zsW_s, zsW_a, Int.add_zero, Int.zero_add, decide_true, decide_false]; exact v10 y y0 (by omega)
  · rw [e0]; exact o0
  · rw [e1]; exact o1
  · rw [e2]; omega
  · rw [e3]; exact o3
  · intro y y0 y1
    rw [e0] at y1
    rw [eT]
    simp (disch := omega) only [up1_s, up1_n]; exact o4 y y0 (by omega)
  · intro y y0 y1
    rw [e0] at y1
    rw [eT]
    simp (disch := omega) only [up1_s, up1_n]; exact o5 y y0 (by omega)
  · intro y y0 y1
    rw [e1] at y1
    rw [eT]
    simp (disch := omega) only [up1_s, up1_n]; exact o6 y y0 (by omega)
  · intro y y0 y1
    rw [e2] at y1
    rw [eT]
    by_cases c : y = T 2
    · rw [c]; simp (disch := omega) only [up1_s, up1_n]; exact b0
    · simp (disch := omega) only [up1_s, up1_n]; exact o7 y y0 (by omega)
  · intro y y0 y1
    rw [e2] at y1
    rw [eT]
    by_cases c : y = T 2
    · rw [c]; simp (disch := omega) only [up1_s, up1_n]; exact b1
    · simp (disch := omega) only [up1_s, up1_n]; exact o8 y y0 (by omega)
  · intro y y0 y1
    rw [eT]
    simp (disch := omega) only [up1_s, up1_n]; exact o9 y y0 (by omega)
  · show 0 ≤ F 128 36 ∧ F 128 36 ≤ 6
    rw [v1]; exact o0
  · show 0 ≤ F 129 36 ∧ F 129 36 ≤ 4
    rw [v2]; exact o1
  · show 0 ≤ T 2 + 1 ∧ T 2 + 1 ≤ 8
    omega
theorem k_cold (S : St h) (V : duV F C 36 T) (O : dOK T) (a0 : C 49 0 = v 0) (b0 : 0 ≤ v 0 ∧ v 0 ≤ 9) {m : Int} : ∃ F' C', zc 80 [zR (some 35), zI (i32 3), zI (i32 m)] (zw h F C) = some (zI 0, zw h F' C') ∧ kpF F C F' C' ∧ (duV F' C' 36 (kpS 3 v m T) ∧ dOK (kpS 3 v m T)) ∧ ((∀ k a, a ≠ 36 → F' k a = F k a) ∧ (0 ≤ F' 128 36 ∧ F' 128 36 ≤ 6) ∧ (0 ≤ F' 129 36 ∧ F' 129 36 ≤ 4) ∧ (0 ≤ F' 130 36 ∧ F' 130 36 ≤ 8)) := by
  have H := H36 S
  have x0 := wa_49 (F := F) (C := C) S (i := 0) (by omega) (by omega)
  rw [a0] at x0
  obtain ⟨⟨v1, v2, v3, v4⟩, v5, v6, v7, v8, v9, v10⟩ := V
  obtain ⟨o0, o1, o2, o3, o4, o5, o6, o7, o8, o9⟩ := O
  have eT : kpS 3 v m T = up1 T 3 (v 0) := by unfold kpS; rw [if_neg (by omega), if_neg (by omega), if_neg (by omega), if_pos rfl]
  have e0 : kpS 3 v m T 0 = T 0 := by rw [eT]; simp (disch := omega) only [up1_s, up1_n]
  have e1 : kpS 3 v m T 1 = T 1 := by rw [eT]; simp (disch := omega) only [up1_s, up1_n]
  have e2 : kpS 3 v m T 2 = T 2 := by rw [eT]; simp (disch := omega) only [up1_s, up1_n]
  have e3 : kpS 3 v m T 3 = v 0 := by rw [eT]; simp (disch := omega) only [up1_s, up1_n]
  refine ⟨zsF F 131 36 (v 0), C, ?_, (kpF.rfl F C).sF (by omega) (by omega), ⟨⟨⟨?_, ?_, ?_, ?_⟩, ?_, ?_, ?_, ?_, ?_, ?_⟩, ⟨?_, ?_, ?_, ?_, ?_, ?_, ?_, ?_, ?_, ?_⟩⟩, ⟨fun k a ha => zsF_a ha, ?_, ?_, ?_⟩⟩
  · simp only [zoI_s, zoR_s, zoH_s, zoL_s, zbI_s, zbV_s, zbR_s, zbL_s, zif_t, zif_f, zrz_0, zrz_1, decide_true, decide_false, e_Reader_keep, t3_0, t3_1, t3_2, t3_3, wr_320 S, wr_326 S, x0, dp_131 H]
  · rw [e0]; exact v1
  · rw [e1]; exact v2
  · rw [e2]; exact v3
  · rw [e3]; rfl
  · intro y y0 y1
    rw [e0] at y1
    rw [eT]
    simp (disch := omega) only [up1_s, up1_n]; exact v5 y y0 (by omega)
  · intro y y0 y1
    rw [e0] at y1
    rw [eT]
    simp (disch := omega) only [up1_s, up1_n]; exact v6 y y0 (by omega)
  · intro y y0 y1
    rw [e1] at y1
    rw [eT]
    simp (disch := omega) only [up1_s, up1_n]; exact v7 y y0 (by omega)
  · intro y y0 y1
    rw [e2] at y1
    rw [eT]
    simp (disch := omega) only [up1_s, up1_n]; exact v8 y y0 (by omega)
  · intro y y0 y1
    rw [e2] at y1
    rw [eT]
    simp (disch := omega) only [up1_s, up1_n]; exact v9 y y0 (by omega)
  · intro y y0 y1
    rw [eT]
    simp (disch := omega) only [up1_s, up1_n]; exact v10 y y0 (by omega)
  · rw [e0]; exact o0
  · rw [e1]; exact o1
  · rw [e2]; exact o2
  · rw [e3]; omega
  · intro y y0 y1
    rw [e0] at y1
    rw [eT]
    simp (disch := omega) only [up1_s, up1_n]; exact o4 y y0 (by omega)
  · intro y y0 y1
    rw [e0] at y1
    rw [eT]
    simp (disch := omega) only [up1_s, up1_n]; exact o5 y y0 (by omega)
  · intro y y0 y1
    rw [e1] at y1
    rw [eT]
    simp (disch := omega) only [up1_s, up1_n]; exact o6 y y0 (by omega)
  · intro y y0 y1
    rw [e2] at y1
    rw [eT]
    simp (disch := omega) only [up1_s, up1_n]; exact o7 y y0 (by omega)
  · intro y y0 y1
    rw [e2] at y1
    rw [eT]
    simp (disch := omega) only [up1_s, up1_n]; exact o8 y y0 (by omega)
  · intro y y0 y1
    rw [eT]
    simp (disch := omega) only [up1_s, up1_n]; exact o9 y y0 (by omega)
  · show 0 ≤ F 128 36 ∧ F 128 36 ≤ 6
    rw [v1]; exact o0
  · show 0 ≤ F 129 36 ∧ F 129 36 ≤ 4
    rw [v2]; exact o1
  · show 0 ≤ F 130 36 ∧ F 130 36 ≤ 8
    rw [v3]; exact o2
theorem k_means (S : St h) (V : duV F C 36 T) (O : dOK T) (a0 : C 49 0 = v 0) (b0 : 0 ≤ v 0 ∧ v 0 ≤ 7) {m : Int} (b1 : 0 ≤ m ∧ m ≤ 2) : ∃ F' C', zc 80 [zR (some 35), zI (i32 4), zI (i32 m)] (zw h F C) = some (zI 0, zw h F' C') ∧ kpF F C F' C' ∧ (duV F' C' 36 (kpS 4 v m T) ∧ dOK (kpS 4 v m T)) ∧ ((∀ k a, a ≠ 36 → F' k a = F k a) ∧ (0 ≤ F' 128 36 ∧ F' 128 36 ≤ 6) ∧ (0 ≤ F' 129 36 ∧ F' 129 36 ≤ 4) ∧ (0 ≤ F' 130 36 ∧ F' 130 36 ≤ 8)) := by
  have H := H36 S
  have x0 := wa_49 (F := F) (C := C) S (i := 0) (by omega) (by omega)
  rw [a0] at x0
  have ds := ds_137 (F := F) (C := C) H (i := v 0) (by omega) (by omega) m
  obtain ⟨⟨v1, v2, v3, v4⟩, v5, v6, v7, v8, v9, v10⟩ := V
  obtain ⟨o0, o1, o2, o3, o4, o5, o6, o7, o8, o9⟩ := O
  have eT : kpS 4 v m T = up1 T (36 + v 0) m := by unfold kpS; rw [if_neg (by omega), if_neg (by omega), if_neg (by omega), if_neg (by omega), if_pos rfl]
  have e0 : kpS 4 v m T 0 = T 0 := by rw [eT]; simp (disch := omega) only [up1_s, up1_n]
  have e1 : kpS 4 v m T 1 = T 1 := by rw [eT]; simp (disch := omega) only [up1_s, up1_n]
  have e2 : kpS 4 v m T 2 = T 2 := by rw [eT]; simp (disch := omega) only [up1_s, up1_n]
  have e3 : kpS 4 v m T 3 = T 3 := by rw [eT]; simp (disch := omega) only [up1_s, up1_n]
  refine ⟨F, zsC C (36 + 6) (v 0) m, ?_, (kpF.rfl F C).sC (by omega) (by omega), ⟨⟨⟨?_, ?_, ?_, ?_⟩, ?_, ?_, ?_, ?_, ?_, ?_⟩, ⟨?_, ?_, ?_, ?_, ?_, ?_, ?_, ?_, ?_, ?_⟩⟩, ⟨fun k a ha => rfl, ?_, ?_, ?_⟩⟩
  · simp only [zoI_s, zoR_s, zoH_s, zoL_s, zbI_s, zbV_s, zbR_s, zbL_s, zif_t, zif_f, zrz_0, zrz_1, decide_true, decide_false, e_Reader_keep, t4_0, t4_1, t4_2, t4_3, t4_4, wr_320 S, dr_137 H, wr_326 S, x0, ds]
  · rw [e0]; exact v1
  · rw [e1]; exact v2
  · rw [e2]; exact v3
  · rw [e3]; exact v4
  · intro y y0 y1
    rw [e0] at y1
    rw [eT]
    simp (disch := omega) only [up1_s, up1_n]; simp (disch := omega) only [zoI_s, zoR_s, zoH_s, zoL_s, zbI_s, zbV_s, zbR_s, zbL_s, zif_t, zif_f, zrz_0, zrz_1, i32_add, i32_mul, i32_sub, i32_neg, zsF_s, zsF_k, zsF_a, zsC_s, zsC_a, zsC_i, zsW_s, zsW_a, Int.add_zero, Int.zero_add, decide_true, decide_false]; exact v5 y y0 (by omega)
  · intro y y0 y1
    rw [e0] at y1
    rw [eT]
    simp (disch := omega) only [up1_s, up1_n]; simp (disch := omega) only [zoI_s, zoR_s, zoH_s, zoL_s, zbI_s, zbV_s, zbR_s, zbL_s, zif_t, zif_f, zrz_0, zrz_1, i32_add, i32_mul, i32_sub, i32_neg, zsF_s, zsF_k, zsF_a, zsC_s, zsC_a, zsC_i, zsW_s, zsW_a, Int.add_zero, Int.zero_add, decide_true, decide_false]; exact v6 y y0 (by omega)
  · intro y y0 y1
    rw [e1] at y1
    rw [eT]
    simp (disch := omega) only [up1_s, up1_n]; simp (disch := omega) only [zoI_s, zoR_s, zoH_s, zoL_s, zbI_s, zbV_s, zbR_s, zbL_s, zif_t, zif_f, zrz_0, zrz_1, i32_add, i32_mul, i32_sub, i32_neg, zsF_s, zsF_k, zsF_a, zsC_s, zsC_a, zsC_i, zsW_s, zsW_a, Int.add_zero, Int.zero_add, decide_true, decide_false]; exact v7 y y0 (by omega)
  · intro y y0 y1
    rw [e2] at y1
    rw [eT]
    simp (disch := omega) only [up1_s, up1_n]; simp (disch := omega) only [zoI_s, zoR_s, zoH_s, zoL_s, zbI_s, zbV_s, zbR_s, zbL_s, zif_t, zif_f, zrz_0, zrz_1, i32_add, i32_mul, i32_sub, i32_neg, zsF_s, zsF_k, zsF_a, zsC_s, zsC_a, zsC_i, zsW_s, zsW_a, Int.add_zero, Int.zero_add, decide_true, decide_false]; exact v8 y y0 (by omega)
  · intro y y0 y1
    rw [e2] at y1
    rw [eT]
    simp (disch := omega) only [up1_s, up1_n]; simp (disch := omega) only [zoI_s, zoR_s, zoH_s, zoL_s, zbI_s, zbV_s, zbR_s, zbL_s, zif_t, zif_f, zrz_0, zrz_1, i32_add, i32_mul, i32_sub, i32_neg, zsF_s, zsF_k, zsF_a, zsC_s, zsC_a, zsC_i, zsW_s, zsW_a, Int.add_zero, Int.zero_add, decide_true, decide_false]; exact v9 y y0 (by omega)
  · intro y y0 y1
    rw [eT]
    by_cases c : y = v 0
    · rw [c]; simp (disch := omega) only [up1_s, up1_n]; simp (disch := omega) only [zoI_s, zoR_s, zoH_s, zoL_s, zbI_s, zbV_s, zbR_s, zbL_s, zif_t, zif_f, zrz_0, zrz_1, i32_add, i32_mul, i32_sub, i32_neg, zsF_s, zsF_k, zsF_a, zsC_s, zsC_a, zsC_i, zsW_s, zsW_a, Int.add_zero, Int.zero_add, decide_true, decide_false]
    · simp (disch := omega) only [up1_s, up1_n]; simp (disch := omega) only [zoI_s, zoR_s, zoH_s, zoL_s, zbI_s, zbV_s, zbR_s, zbL_s, zif_t, zif_f, zrz_0, zrz_1, i32_add, i32_mul, i32_sub, i32_neg, zsF_s, zsF_k, zsF_a, zsC_s, zsC_a, zsC_i, zsW_s, zsW_a, Int.add_zero, Int.zero_add, decide_true, decide_false]; exact v10 y y0 (by omega)
  · rw [e0]; exact o0
  · rw [e1]; exact o1
  · rw [e2]; exact o2
  · rw [e3]; exact o3
  · intro y y0 y1
    rw [e0] at y1
    rw [eT]
    simp (disch := omega) only [up1_s, up1_n]; exact o4 y y0 (by omega)
  · intro y y0 y1
    rw [e0] at y1
    rw [eT]
    simp (disch := omega) only [up1_s, up1_n]; exact o5 y y0 (by omega)
  · intro y y0 y1
    rw [e1] at y1
    rw [eT]
    simp (disch := omega) only [up1_s, up1_n]; exact o6 y y0 (by omega)
  · intro y y0 y1
    rw [e2] at y1
    rw [eT]
    simp (disch := omega) only [up1_s, up1_n]; exact o7 y y0 (by omega)
  · intro y y0 y1
    rw [e2] at y1
    rw [eT]
    simp (disch := omega) only [up1_s, up1_n]; exact o8 y y0 (by omega)
  · intro y y0 y1
    rw [eT]
    by_cases c : y = v 0
    · rw [c]; simp (disch := omega) only [up1_s, up1_n]; exact b1
    · simp (disch := omega) only [up1_s, up1_n]; exact o9 y y0 (by omega)
  · show 0 ≤ F 128 36 ∧ F 128 36 ≤ 6
    rw [v1]; exact o0
  · show 0 ≤ F 129 36 ∧ F 129 36 ≤ 4
    rw [v2]; exact o1
  · show 0 ≤ F 130 36 ∧ F 130 36 ≤ 8
    rw [v3]; exact o2
end KP
