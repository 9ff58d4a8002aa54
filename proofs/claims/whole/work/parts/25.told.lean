/-! what is told: A, 1230 numbers as the reference lays them -/
def yOK (Y : Int → Int) : Prop := (0 ≤ Y 0 ∧ Y 0 ≤ 40) ∧ ∀ i, 0 ≤ i → i < Y 0 → (0 ≤ Y (1 + 6 * i) ∧ Y (1 + 6 * i) ≤ 5) ∧ (-1 ≤ Y (2 + 6 * i) ∧ Y (2 + 6 * i) ≤ 9) ∧ (-1 ≤ Y (3 + 6 * i) ∧ Y (3 + 6 * i) ≤ 7) ∧ (-1 ≤ Y (4 + 6 * i) ∧ Y (4 + 6 * i) ≤ 7) ∧ (-1 ≤ Y (5 + 6 * i) ∧ Y (5 + 6 * i) ≤ 7) ∧ (-1 ≤ Y (6 + 6 * i) ∧ Y (6 + 6 * i) ≤ 7) ∧
  (Y (1 + 6 * i) = 4 → 0 ≤ Y (2 + 6 * i)) ∧ (Y (1 + 6 * i) = 1 → Y (2 + 6 * i) ≠ Y (3 + 6 * i) ∧ Y (4 + 6 * i) ≠ Y (5 + 6 * i))
def lOK (L : Int → Int) : Prop := (0 ≤ L 0 ∧ L 0 ≤ 8) ∧ ∀ i, 0 ≤ i → i < L 0 → (0 ≤ L (1 + 3 * i) ∧ L (1 + 3 * i) ≤ 3) ∧ (0 ≤ L (2 + 3 * i) ∧ L (2 + 3 * i) ≤ 7) ∧ (-1 ≤ L (3 + 3 * i) ∧ L (3 + 3 * i) ≤ 7)
def aOK (A : Int → Int) : Prop := ((0 ≤ A 0 ∧ A 0 ≤ 2) ∧ (0 ≤ A 1 ∧ A 1 ≤ 2) ∧ (0 ≤ A 2 ∧ A 2 ≤ 2)) ∧ (0 ≤ A 4 ∧ A 4 ≤ 600) ∧ (∀ i, 0 ≤ i → i < A 4 → 0 ≤ A (10 + i) ∧ A (10 + i) ≤ 255) ∧ (∀ d, 0 ≤ d → d < A 0 → dOK (fun j => A (610 + 44 * d + j))) ∧ (∀ y, 0 ≤ y → y < A 1 → yOK (fun j => A (698 + 241 * y + j))) ∧ (∀ l, 0 ≤ l → l < A 2 → lOK (fun j => A (1180 + 25 * l + j))) ∧ ((0 ≤ A 5 ∧ A 5 ≤ 3) ∧ -1 ≤ A 6 ∧ A 6 ≤ 600)
/-- a byte with its sign -/
def sgn (x : Int) : Int := if x < 128 then x else x - 256
def yeV (F : Nat → Nat → Int) (C : Nat → Int → Int) (a : Nat) (Y : Int → Int) : Prop := F 640 a = Y 0 ∧ ∀ j, 0 ≤ j → j < 6 * Y 0 → C (a + 1) j = Y (1 + j)
def loV (F : Nat → Nat → Int) (C : Nat → Int → Int) (a : Nat) (L : Int → Int) : Prop := F 192 a = L 0 ∧ ∀ i, 0 ≤ i → i < L 0 → C (a + 1) i = L (1 + 3 * i) ∧ C (a + 2) i = L (2 + 3 * i) ∧ C (a + 3) i = L (3 + 3 * i)
/-- the class's Told at b -/
def toV (F : Nat → Nat → Int) (C : Nat → Int → Int) (b : Nat) (A : Int → Int) : Prop := (F 581 b = A 5 ∧ F 582 b = A 6 ∧ F 513 (b + 1) = A 4) ∧ (∀ i, 0 ≤ i → i < A 4 → C (b + 2) i = sgn (A (10 + i))) ∧ (∀ i, 0 ≤ i → i < 3 → C (b + 3) i = A i) ∧ (∀ d : Nat, (d : Int) < A 0 → duV F C (b + 7 + 13 * d) (fun j => A (610 + 44 * (d : Int) + j))) ∧ (∀ y : Nat, (y : Int) < A 1 → yeV F C (b + 14 + 13 * y) (fun j => A (698 + 241 * (y : Int) + j))) ∧ (∀ l : Nat, (l : Int) < A 2 → loV F C (b + 16 + 13 * l) (fun j => A (1180 + 25 * (l : Int) + j)))
def qOK (h : zHeap) (F : Nat → Nat → Int) (C : Nat → Int → Int) : Prop := St h ∧ toV F C 1 (C 73) ∧ aOK (C 73)
def dOf (A : Int → Int) (d : Int) : Int → Int := fun j => A (610 + 44 * d + j)
def yOf (A : Int → Int) (d : Int) : Int → Int := fun j => A (698 + 241 * d + j)
def lOf (A : Int → Int) (d : Int) : Int → Int := fun j => A (1180 + 25 * d + j)
theorem yeV.tq {F F' : Nat → Nat → Int} {C C' : Nat → Int → Int} {a : Nat} {D : Int → Int} (V : yeV F C a D) (ht : tq F C F' C') (ha : a ≤ 33) : yeV F' C' a D := by
  unfold yeV
  rw [(ht a (by omega)).1, (ht (a + 1) (by omega)).2]; exact V
theorem loV.tq {F F' : Nat → Nat → Int} {C C' : Nat → Int → Int} {a : Nat} {D : Int → Int} (V : loV F C a D) (ht : tq F C F' C') (ha : a ≤ 31) : loV F' C' a D := by
  unfold loV
  rw [(ht a (by omega)).1, (ht (a + 1) (by omega)).2, (ht (a + 2) (by omega)).2, (ht (a + 3) (by omega)).2]; exact V
theorem qOK.tq {h : zHeap} {F F' : Nat → Nat → Int} {C C' : Nat → Int → Int} (Q : qOK h F C) (ht : tq F C F' C') : qOK h F' C' := by
  obtain ⟨S, ⟨⟨t1, t2, t3⟩, t4, t5, t6, t7, t8⟩, O⟩ := Q
  refine ⟨S, ?_, ?_⟩
  · rw [(ht 73 (by omega)).2]
    have o := O.1
    refine ⟨⟨?_, ?_, ?_⟩, ?_, ?_, fun d hd => (t6 d hd).tq ht (by omega), fun d hd => (t7 d hd).tq ht (by omega), fun d hd => (t8 d hd).tq ht (by omega)⟩
    · rw [(ht 1 (by omega)).1, t1]
    · rw [(ht 1 (by omega)).1, t2]
    · rw [(ht (1 + 1) (by omega)).1, t3]
    · rw [(ht (1 + 2) (by omega)).2]; exact t4
    · rw [(ht (1 + 3) (by omega)).2]; exact t5
  · rw [(ht 73 (by omega)).2]; exact O
section Q
variable {h : zHeap} {F : Nat → Nat → Int} {C : Nat → Int → Int}
theorem qOK.c0 (Q : qOK h F C) : C 4 0 = C 73 0 := Q.2.1.2.2.1 0 (by omega) (by omega)
theorem qOK.c1 (Q : qOK h F C) : C 4 1 = C 73 1 := Q.2.1.2.2.1 1 (by omega) (by omega)
theorem qOK.c2 (Q : qOK h F C) : C 4 2 = C 73 2 := Q.2.1.2.2.1 2 (by omega) (by omega)
theorem qOK.dO (Q : qOK h F C) {d : Int} (h0 : 0 ≤ d) (h1 : d < C 73 0) : dOK (dOf (C 73) d) := Q.2.2.2.2.2.1 d h0 h1
theorem qOK.yO (Q : qOK h F C) {d : Int} (h0 : 0 ≤ d) (h1 : d < C 73 1) : yOK (yOf (C 73) d) := Q.2.2.2.2.2.2.1 d h0 h1
theorem qOK.lO (Q : qOK h F C) {d : Int} (h0 : 0 ≤ d) (h1 : d < C 73 2) : lOK (lOf (C 73) d) := Q.2.2.2.2.2.2.2.1 d h0 h1
theorem qOK.dV (Q : qOK h F C) {d : Int} (h0 : 0 ≤ d) (h1 : d < C 73 0) : duV F C (8 + 13 * d.toNat) (dOf (C 73) d) := by
  have := Q.2.1.2.2.2.1 d.toNat (by omega)
  rwa [Int.toNat_of_nonneg h0] at this
theorem qOK.yV (Q : qOK h F C) {d : Int} (h0 : 0 ≤ d) (h1 : d < C 73 1) : yeV F C (15 + 13 * d.toNat) (yOf (C 73) d) := by
  have := Q.2.1.2.2.2.2.1 d.toNat (by omega)
  rwa [Int.toNat_of_nonneg h0] at this
theorem qOK.lV (Q : qOK h F C) {d : Int} (h0 : 0 ≤ d) (h1 : d < C 73 2) : loV F C (17 + 13 * d.toNat) (lOf (C 73) d) := by
  have := Q.2.1.2.2.2.2.2 d.toNat (by omega)
  rwa [Int.toNat_of_nonneg h0] at this
theorem qOK.dS (Q : qOK h F C) {d : Int} (h0 : 0 ≤ d) (h1 : d < C 73 0) : duS h (8 + 13 * d.toNat) := by
  have o := Q.2.2.1.1
  have s := Q.1.2.2.2.2.2.1
  rcases (show d = 0 ∨ d = 1 by omega) with rfl | rfl
  · exact s.2.2.2.2.2.2.2.2.1.1
  · exact s.2.2.2.2.2.2.2.2.2.1.1
theorem qOK.yS (Q : qOK h F C) {d : Int} (h0 : 0 ≤ d) (h1 : d < C 73 1) : yeS h (15 + 13 * d.toNat) := by
  have o := Q.2.2.1.2.1
  have s := Q.1.2.2.2.2.2.1
  rcases (show d = 0 ∨ d = 1 by omega) with rfl | rfl
  · exact s.2.2.2.2.2.2.2.2.1.2.1
  · exact s.2.2.2.2.2.2.2.2.2.1.2.1
theorem qOK.lS (Q : qOK h F C) {d : Int} (h0 : 0 ≤ d) (h1 : d < C 73 2) : loS h (17 + 13 * d.toNat) := by
  have o := Q.2.2.1.2.2
  have s := Q.1.2.2.2.2.2.1
  rcases (show d = 0 ∨ d = 1 by omega) with rfl | rfl
  · exact s.2.2.2.2.2.2.2.2.1.2.2
  · exact s.2.2.2.2.2.2.2.2.2.1.2.2
theorem aR_2 {k a b : Nat} {n : Nat} (H : ∃ f, hAR h n = some (k, 2, f) ∧ f 0 = some a ∧ f 1 = some b) {d : Int} (d0 : 0 ≤ d) (d1 : d < 2) : zaR (zw h F C) (some n) (i32 d) = some (some (if d = 0 then a else b)) := by
  obtain ⟨f, g1, g2, g3⟩ := H
  show (match hAR h n with | some (_, n, f) => _ | none => none) = _
  rw [g1]
  dsimp only
  rw [if_pos ⟨by rw [i32_0, i32_le (by omega) (by omega) (by omega) (by omega)]; exact d0, by rw [i32_nat d0 (by omega)]; omega⟩, i32_nat d0 (by omega)]
  rcases (show d = 0 ∨ d = 1 by omega) with rfl | rfl
  · exact congrArg some g2
  · exact congrArg some g3
theorem c_dAt (Q : qOK h F C) {d : Int} (h0 : 0 ≤ d) (h1 : d < C 73 0) : zc 141 [zR (some 1), zI (i32 d)] (zw h F C) = some (zR (some (8 + 13 * d.toNat)), zw h F C) := by
  have o := Q.2.2.1.1
  rw [c_duchyAt Q.1 (by rw [Q.c0]; omega) (by rw [Q.c0]; omega) (by omega) (by omega), Q.c0, if_pos ⟨h0, h1⟩]
theorem c_dAt0 (Q : qOK h F C) {d : Int} (h2 : -2147483648 ≤ d) (h3 : d < 2147483648) (hn : ¬ (0 ≤ d ∧ d < C 73 0)) : zc 141 [zR (some 1), zI (i32 d)] (zw h F C) = some (zR none, zw h F C) := by
  have o := Q.2.2.1.1
  rw [c_duchyAt Q.1 (by rw [Q.c0]; omega) (by rw [Q.c0]; omega) h2 h3, Q.c0, if_neg hn]
theorem c_yAt (Q : qOK h F C) {d : Int} (h0 : 0 ≤ d) (h1 : d < C 73 1) : zc 142 [zR (some 1), zI (i32 d)] (zw h F C) = some (zR (some (15 + 13 * d.toNat)), zw h F C) := by
  have o := Q.2.2.1.2.1
  have S := Q.1
  have g := fun {d : Int} => @aR_2 h F C 10 (1 + 14) (1 + 27) (1 + 5) S.2.2.2.2.2.1.2.2.2.2.2.2.1 d
  simp (disch := omega) only [if_true, if_false, not_true_eq_false, not_false_eq_true, zoI_s, zoR_s, zoH_s, zoL_s, zbI_s, zbV_s, zbR_s, zbL_s, zif_dec, i32_0, ne_eq, i32_lt, i32_le, i32_eq, i32_add, i32_mul, i32_sub, i32_neg, zrz_0, zrz_1, zif_t, zif_f, zsF_s, zsF_k, zsF_a, zsC_s, zsC_a, zsC_i, zsW_s, zsW_a, Int.add_zero, Int.zero_add, if_pos, if_neg, tv_1 S, tr_577 S, tr_579 S, ta_4 S, e_Told_yearAt, Q.c1]
  rw [g h0 (by omega), zoR_s]
  rcases (show d = 0 ∨ d = 1 by omega) with rfl | rfl <;> rfl
theorem c_yAt0 (Q : qOK h F C) {d : Int} (h2 : -2147483648 ≤ d) (h3 : d < 2147483648) (hn : ¬ (0 ≤ d ∧ d < C 73 1)) : zc 142 [zR (some 1), zI (i32 d)] (zw h F C) = some (zR none, zw h F C) := by
  have o := Q.2.2.1.2.1
  have S := Q.1
  by_cases c : d < 0
  · simp (disch := omega) only [if_true, if_false, not_true_eq_false, not_false_eq_true, zoI_s, zoR_s, zoH_s, zoL_s, zbI_s, zbV_s, zbR_s, zbL_s, zif_dec, i32_0, ne_eq, i32_lt, i32_le, i32_eq, i32_add, i32_mul, i32_sub, i32_neg, zrz_0, zrz_1, zif_t, zif_f, zsF_s, zsF_k, zsF_a, zsC_s, zsC_a, zsC_i, zsW_s, zsW_a, Int.add_zero, Int.zero_add, if_pos, if_neg, tv_1 S, e_Told_yearAt]
  · simp (disch := omega) only [if_true, if_false, not_true_eq_false, not_false_eq_true, zoI_s, zoR_s, zoH_s, zoL_s, zbI_s, zbV_s, zbR_s, zbL_s, zif_dec, i32_0, ne_eq, i32_lt, i32_le, i32_eq, i32_add, i32_mul, i32_sub, i32_neg, zrz_0, zrz_1, zif_t, zif_f, zsF_s, zsF_k, zsF_a, zsC_s, zsC_a, zsC_i, zsW_s, zsW_a, Int.add_zero, Int.zero_add, if_pos, if_neg, tv_1 S, tr_577 S, tr_579 S, ta_4 S, e_Told_yearAt, Q.c1]
theorem c_lAt (Q : qOK h F C) {d : Int} (h0 : 0 ≤ d) (h1 : d < C 73 2) : zc 143 [zR (some 1), zI (i32 d)] (zw h F C) = some (zR (some (17 + 13 * d.toNat)), zw h F C) := by
  have o := Q.2.2.1.2.2
  have S := Q.1
  have g := fun {d : Int} => @aR_2 h F C 3 (1 + 16) (1 + 29) (1 + 6) S.2.2.2.2.2.1.2.2.2.2.2.2.2.1 d
  simp (disch := omega) only [if_true, if_false, not_true_eq_false, not_false_eq_true, zoI_s, zoR_s, zoH_s, zoL_s, zbI_s, zbV_s, zbR_s, zbL_s, zif_dec, i32_0, ne_eq, i32_lt, i32_le, i32_eq, i32_add, i32_mul, i32_sub, i32_neg, zrz_0, zrz_1, zif_t, zif_f, zsF_s, zsF_k, zsF_a, zsC_s, zsC_a, zsC_i, zsW_s, zsW_a, Int.add_zero, Int.zero_add, if_pos, if_neg, tv_1 S, tr_577 S, tr_580 S, ta_4 S, e_Told_logAt, Q.c2]
  rw [g h0 (by omega), zoR_s]
  rcases (show d = 0 ∨ d = 1 by omega) with rfl | rfl <;> rfl
theorem c_lAt0 (Q : qOK h F C) {d : Int} (h2 : -2147483648 ≤ d) (h3 : d < 2147483648) (hn : ¬ (0 ≤ d ∧ d < C 73 2)) : zc 143 [zR (some 1), zI (i32 d)] (zw h F C) = some (zR none, zw h F C) := by
  have o := Q.2.2.1.2.2
  have S := Q.1
  by_cases c : d < 0
  · simp (disch := omega) only [if_true, if_false, not_true_eq_false, not_false_eq_true, zoI_s, zoR_s, zoH_s, zoL_s, zbI_s, zbV_s, zbR_s, zbL_s, zif_dec, i32_0, ne_eq, i32_lt, i32_le, i32_eq, i32_add, i32_mul, i32_sub, i32_neg, zrz_0, zrz_1, zif_t, zif_f, zsF_s, zsF_k, zsF_a, zsC_s, zsC_a, zsC_i, zsW_s, zsW_a, Int.add_zero, Int.zero_add, if_pos, if_neg, tv_1 S, e_Told_logAt]
  · simp (disch := omega) only [if_true, if_false, not_true_eq_false, not_false_eq_true, zoI_s, zoR_s, zoH_s, zoL_s, zbI_s, zbV_s, zbR_s, zbL_s, zif_dec, i32_0, ne_eq, i32_lt, i32_le, i32_eq, i32_add, i32_mul, i32_sub, i32_neg, zrz_0, zrz_1, zif_t, zif_f, zsF_s, zsF_k, zsF_a, zsC_s, zsC_a, zsC_i, zsW_s, zsW_a, Int.add_zero, Int.zero_add, if_pos, if_neg, tv_1 S, tr_577 S, tr_580 S, ta_4 S, e_Told_logAt, Q.c2]
/-! the reference -/
theorem m_isOf (Q : qOK h F C) {s d : Int} (h0 : 0 ≤ s) (h1 : s < 3) (h2 : -2147483648 ≤ d) (h3 : d < 2147483648) : zc 223 [zR (some 72), zI (i32 s), zI (i32 d)] (zw h F C) = some (zI (i32 (if 0 ≤ d ∧ d ≤ C 73 s - 1 then 1 else 0)), zw h F C) := by
  have o := Q.2.2.1
  have S := Q.1
  have o2 : 0 ≤ C 73 s ∧ C 73 s ≤ 2 := by
    rcases (show s = 0 ∨ s = 1 ∨ s = 2 by omega) with rfl | rfl | rfl
    · exact o.1
    · exact o.2.1
    · exact o.2.2
  simp (disch := omega) only [if_true, if_false, not_true_eq_false, not_false_eq_true, zoI_s, zoR_s, zoH_s, zoL_s, zbI_s, zbV_s, zbR_s, zbL_s, zif_dec, i32_0, ne_eq, i32_lt, i32_le, i32_eq, i32_add, i32_mul, i32_sub, i32_neg, zrz_0, zrz_1, zif_t, zif_f, zsF_s, zsF_k, zsF_a, zsC_s, zsC_a, zsC_i, zsW_s, zsW_a, Int.add_zero, Int.zero_add, wv_72 S, wr_768 S, wr_769 S, wr_777 S, wr_785 S, wr_786 S, wr_787 S, wr_789 S, wr_790 S, wr_791 S, wr_802 S, wr_803 S, wr_804 S, wr_805 S, wr_806 S, wr_807 S, wr_809 S, wg_770 S, wp_770 S, wg_771 S, wp_771 S, wg_772 S, wp_772 S, wg_773 S, wp_773 S, wg_774 S, wp_774 S, wg_775 S, wp_775 S, wg_776 S, wp_776 S, wg_778 S, wp_778 S, wg_779 S, wp_779 S, wg_780 S, wp_780 S, wg_781 S, wp_781 S, wg_782 S, wp_782 S, wg_783 S, wp_783 S, wg_784 S, wp_784 S, wg_788 S, wp_788 S, wg_792 S, wp_792 S, wg_793 S, wp_793 S, wg_794 S, wp_794 S, wg_795 S, wp_795 S, wg_796 S, wp_796 S, wg_797 S, wp_797 S, wg_798 S, wp_798 S, wg_799 S, wp_799 S, wg_800 S, wp_800 S, wg_801 S, wp_801 S, wg_808 S, wp_808 S, wg_810 S, wp_810 S, wa_73 S, ws_73 S, e_Model_isOf, m_isIn, zrz_b]
def miF (F : Nat → Nat → Int) (C : Nat → Int → Int) (d : Int) : Nat → Nat → Int := zsF (zsF (zsF (zsF F 778 72 (610 + 44 * d)) 779 72 (dOf (C 73) d 0)) 780 72 (dOf (C 73) d 1)) 781 72 (dOf (C 73) d 2)
theorem miF_V (Q : qOK h F C) {d : Int} (h0 : 0 ≤ d) (h1 : d < C 73 0) : moV (miF F C d) C (dOf (C 73) d) := by
  have o := Q.2.2.1.1
  exact ⟨⟨show 0 ≤ 610 + 44 * d by omega, show 610 + 44 * d ≤ 1000 by omega⟩, ⟨rfl, rfl, rfl⟩, fun j _ _ => rfl⟩
theorem miF_tq (d : Int) : tq F C (miF F C d) C := (((tq.rfl.sF (by omega) (by omega)).sF (by omega) (by omega)).sF (by omega) (by omega)).sF (by omega) (by omega)
theorem m_isD (Q : qOK h F C) {d : Int} (h0 : 0 ≤ d) (h1 : d < C 73 0) : zc 226 [zR (some 72), zI (i32 d)] (zw h F C) = some (zI (i32 1), zw h (miF F C d) C) := by
  have o := Q.2.2.1.1
  have S := Q.1
  have e0 : C 73 (610 + 44 * d) = dOf (C 73) d 0 := by unfold dOf; rw [Int.add_zero]
  simp (disch := omega) only [if_true, if_false, not_true_eq_false, not_false_eq_true, zoI_s, zoR_s, zoH_s, zoL_s, zbI_s, zbV_s, zbR_s, zbL_s, zif_dec, i32_0, ne_eq, i32_lt, i32_le, i32_eq, i32_add, i32_mul, i32_sub, i32_neg, zrz_0, zrz_1, zif_t, zif_f, zsF_s, zsF_k, zsF_a, zsC_s, zsC_a, zsC_i, zsW_s, zsW_a, Int.add_zero, Int.zero_add, if_pos, if_neg, wv_72 S, wr_768 S, wr_769 S, wr_777 S, wr_785 S, wr_786 S, wr_787 S, wr_789 S, wr_790 S, wr_791 S, wr_802 S, wr_803 S, wr_804 S, wr_805 S, wr_806 S, wr_807 S, wr_809 S, wg_770 S, wp_770 S, wg_771 S, wp_771 S, wg_772 S, wp_772 S, wg_773 S, wp_773 S, wg_774 S, wp_774 S, wg_775 S, wp_775 S, wg_776 S, wp_776 S, wg_778 S, wp_778 S, wg_779 S, wp_779 S, wg_780 S, wp_780 S, wg_781 S, wp_781 S, wg_782 S, wp_782 S, wg_783 S, wp_783 S, wg_784 S, wp_784 S, wg_788 S, wp_788 S, wg_792 S, wp_792 S, wg_793 S, wp_793 S, wg_794 S, wp_794 S, wg_795 S, wp_795 S, wg_796 S, wp_796 S, wg_797 S, wp_797 S, wg_798 S, wp_798 S, wg_799 S, wp_799 S, wg_800 S, wp_800 S, wg_801 S, wp_801 S, wg_808 S, wp_808 S, wg_810 S, wp_810 S, wa_73 S, ws_73 S, e_Model_isDuchy, m_isOf Q, e_Model_placeOf, e0]
  rfl
theorem m_isD0 (Q : qOK h F C) {d : Int} (h2 : -2147483648 ≤ d) (h3 : d < 2147483648) (hn : ¬ (0 ≤ d ∧ d < C 73 0)) : zc 226 [zR (some 72), zI (i32 d)] (zw h F C) = some (zI (i32 0), zw h F C) := by
  have o := Q.2.2.1.1
  have S := Q.1
  simp (disch := omega) only [if_true, if_false, not_true_eq_false, not_false_eq_true, zoI_s, zoR_s, zoH_s, zoL_s, zbI_s, zbV_s, zbR_s, zbL_s, zif_dec, i32_0, ne_eq, i32_lt, i32_le, i32_eq, i32_add, i32_mul, i32_sub, i32_neg, zrz_0, zrz_1, zif_t, zif_f, zsF_s, zsF_k, zsF_a, zsC_s, zsC_a, zsC_i, zsW_s, zsW_a, Int.add_zero, Int.zero_add, if_pos, if_neg, wv_72 S, wr_768 S, wr_769 S, wr_777 S, wr_785 S, wr_786 S, wr_787 S, wr_789 S, wr_790 S, wr_791 S, wr_802 S, wr_803 S, wr_804 S, wr_805 S, wr_806 S, wr_807 S, wr_809 S, wg_770 S, wp_770 S, wg_771 S, wp_771 S, wg_772 S, wp_772 S, wg_773 S, wp_773 S, wg_774 S, wp_774 S, wg_775 S, wp_775 S, wg_776 S, wp_776 S, wg_778 S, wp_778 S, wg_779 S, wp_779 S, wg_780 S, wp_780 S, wg_781 S, wp_781 S, wg_782 S, wp_782 S, wg_783 S, wp_783 S, wg_784 S, wp_784 S, wg_788 S, wp_788 S, wg_792 S, wp_792 S, wg_793 S, wp_793 S, wg_794 S, wp_794 S, wg_795 S, wp_795 S, wg_796 S, wp_796 S, wg_797 S, wp_797 S, wg_798 S, wp_798 S, wg_799 S, wp_799 S, wg_800 S, wp_800 S, wg_801 S, wp_801 S, wg_808 S, wp_808 S, wg_810 S, wp_810 S, wa_73 S, ws_73 S, e_Model_isDuchy, m_isOf Q, e_Model_placeOf]
theorem m_isY (Q : qOK h F C) {d : Int} (h0 : 0 ≤ d) (h1 : d < C 73 1) : zc 286 [zR (some 72), zI (i32 d)] (zw h F C) = some (zI (i32 1), zw h (zsF F 792 72 (698 + 241 * d)) C) := by
  have o := Q.2.2.1.2.1
  have S := Q.1
  simp (disch := omega) only [if_true, if_false, not_true_eq_false, not_false_eq_true, zoI_s, zoR_s, zoH_s, zoL_s, zbI_s, zbV_s, zbR_s, zbL_s, zif_dec, i32_0, ne_eq, i32_lt, i32_le, i32_eq, i32_add, i32_mul, i32_sub, i32_neg, zrz_0, zrz_1, zif_t, zif_f, zsF_s, zsF_k, zsF_a, zsC_s, zsC_a, zsC_i, zsW_s, zsW_a, Int.add_zero, Int.zero_add, if_pos, if_neg, wv_72 S, wr_768 S, wr_769 S, wr_777 S, wr_785 S, wr_786 S, wr_787 S, wr_789 S, wr_790 S, wr_791 S, wr_802 S, wr_803 S, wr_804 S, wr_805 S, wr_806 S, wr_807 S, wr_809 S, wg_770 S, wp_770 S, wg_771 S, wp_771 S, wg_772 S, wp_772 S, wg_773 S, wp_773 S, wg_774 S, wp_774 S, wg_775 S, wp_775 S, wg_776 S, wp_776 S, wg_778 S, wp_778 S, wg_779 S, wp_779 S, wg_780 S, wp_780 S, wg_781 S, wp_781 S, wg_782 S, wp_782 S, wg_783 S, wp_783 S, wg_784 S, wp_784 S, wg_788 S, wp_788 S, wg_792 S, wp_792 S, wg_793 S, wp_793 S, wg_794 S, wp_794 S, wg_795 S, wp_795 S, wg_796 S, wp_796 S, wg_797 S, wp_797 S, wg_798 S, wp_798 S, wg_799 S, wp_799 S, wg_800 S, wp_800 S, wg_801 S, wp_801 S, wg_808 S, wp_808 S, wg_810 S, wp_810 S, wa_73 S, ws_73 S, e_Model_isYear, m_isOf Q, e_Model_placeOf]
theorem m_isY0 (Q : qOK h F C) {d : Int} (h2 : -2147483648 ≤ d) (h3 : d < 2147483648) (hn : ¬ (0 ≤ d ∧ d < C 73 1)) : zc 286 [zR (some 72), zI (i32 d)] (zw h F C) = some (zI (i32 0), zw h F C) := by
  have o := Q.2.2.1.2.1
  have S := Q.1
  simp (disch := omega) only [if_true, if_false, not_true_eq_false, not_false_eq_true, zoI_s, zoR_s, zoH_s, zoL_s, zbI_s, zbV_s, zbR_s, zbL_s, zif_dec, i32_0, ne_eq, i32_lt, i32_le, i32_eq, i32_add, i32_mul, i32_sub, i32_neg, zrz_0, zrz_1, zif_t, zif_f, zsF_s, zsF_k, zsF_a, zsC_s, zsC_a, zsC_i, zsW_s, zsW_a, Int.add_zero, Int.zero_add, if_pos, if_neg, wv_72 S, wr_768 S, wr_769 S, wr_777 S, wr_785 S, wr_786 S, wr_787 S, wr_789 S, wr_790 S, wr_791 S, wr_802 S, wr_803 S, wr_804 S, wr_805 S, wr_806 S, wr_807 S, wr_809 S, wg_770 S, wp_770 S, wg_771 S, wp_771 S, wg_772 S, wp_772 S, wg_773 S, wp_773 S, wg_774 S, wp_774 S, wg_775 S, wp_775 S, wg_776 S, wp_776 S, wg_778 S, wp_778 S, wg_779 S, wp_779 S, wg_780 S, wp_780 S, wg_781 S, wp_781 S, wg_782 S, wp_782 S, wg_783 S, wp_783 S, wg_784 S, wp_784 S, wg_788 S, wp_788 S, wg_792 S, wp_792 S, wg_793 S, wp_793 S, wg_794 S, wp_794 S, wg_795 S, wp_795 S, wg_796 S, wp_796 S, wg_797 S, wp_797 S, wg_798 S, wp_798 S, wg_799 S, wp_799 S, wg_800 S, wp_800 S, wg_801 S, wp_801 S, wg_808 S, wp_808 S, wg_810 S, wp_810 S, wa_73 S, ws_73 S, e_Model_isYear, m_isOf Q, e_Model_placeOf]
theorem m_isL (Q : qOK h F C) {d : Int} (h0 : 0 ≤ d) (h1 : d < C 73 2) : zc 304 [zR (some 72), zI (i32 d)] (zw h F C) = some (zI (i32 1), zw h (zsF F 808 72 (1180 + 25 * d)) C) := by
  have o := Q.2.2.1.2.2
  have S := Q.1
  simp (disch := omega) only [if_true, if_false, not_true_eq_false, not_false_eq_true, zoI_s, zoR_s, zoH_s, zoL_s, zbI_s, zbV_s, zbR_s, zbL_s, zif_dec, i32_0, ne_eq, i32_lt, i32_le, i32_eq, i32_add, i32_mul, i32_sub, i32_neg, zrz_0, zrz_1, zif_t, zif_f, zsF_s, zsF_k, zsF_a, zsC_s, zsC_a, zsC_i, zsW_s, zsW_a, Int.add_zero, Int.zero_add, if_pos, if_neg, wv_72 S, wr_768 S, wr_769 S, wr_777 S, wr_785 S, wr_786 S, wr_787 S, wr_789 S, wr_790 S, wr_791 S, wr_802 S, wr_803 S, wr_804 S, wr_805 S, wr_806 S, wr_807 S, wr_809 S, wg_770 S, wp_770 S, wg_771 S, wp_771 S, wg_772 S, wp_772 S, wg_773 S, wp_773 S, wg_774 S, wp_774 S, wg_775 S, wp_775 S, wg_776 S, wp_776 S, wg_778 S, wp_778 S, wg_779 S, wp_779 S, wg_780 S, wp_780 S, wg_781 S, wp_781 S, wg_782 S, wp_782 S, wg_783 S, wp_783 S, wg_784 S, wp_784 S, wg_788 S, wp_788 S, wg_792 S, wp_792 S, wg_793 S, wp_793 S, wg_794 S, wp_794 S, wg_795 S, wp_795 S, wg_796 S, wp_796 S, wg_797 S, wp_797 S, wg_798 S, wp_798 S, wg_799 S, wp_799 S, wg_800 S, wp_800 S, wg_801 S, wp_801 S, wg_808 S, wp_808 S, wg_810 S, wp_810 S, wa_73 S, ws_73 S, e_Model_isLog, m_isOf Q, e_Model_placeOf]
theorem m_isL0 (Q : qOK h F C) {d : Int} (h2 : -2147483648 ≤ d) (h3 : d < 2147483648) (hn : ¬ (0 ≤ d ∧ d < C 73 2)) : zc 304 [zR (some 72), zI (i32 d)] (zw h F C) = some (zI (i32 0), zw h F C) := by
  have o := Q.2.2.1.2.2
  have S := Q.1
  simp (disch := omega) only [if_true, if_false, not_true_eq_false, not_false_eq_true, zoI_s, zoR_s, zoH_s, zoL_s, zbI_s, zbV_s, zbR_s, zbL_s, zif_dec, i32_0, ne_eq, i32_lt, i32_le, i32_eq, i32_add, i32_mul, i32_sub, i32_neg, zrz_0, zrz_1, zif_t, zif_f, zsF_s, zsF_k, zsF_a, zsC_s, zsC_a, zsC_i, zsW_s, zsW_a, Int.add_zero, Int.zero_add, if_pos, if_neg, wv_72 S, wr_768 S, wr_769 S, wr_777 S, wr_785 S, wr_786 S, wr_787 S, wr_789 S, wr_790 S, wr_791 S, wr_802 S, wr_803 S, wr_804 S, wr_805 S, wr_806 S, wr_807 S, wr_809 S, wg_770 S, wp_770 S, wg_771 S, wp_771 S, wg_772 S, wp_772 S, wg_773 S, wp_773 S, wg_774 S, wp_774 S, wg_775 S, wp_775 S, wg_776 S, wp_776 S, wg_778 S, wp_778 S, wg_779 S, wp_779 S, wg_780 S, wp_780 S, wg_781 S, wp_781 S, wg_782 S, wp_782 S, wg_783 S, wp_783 S, wg_784 S, wp_784 S, wg_788 S, wp_788 S, wg_792 S, wp_792 S, wg_793 S, wp_793 S, wg_794 S, wp_794 S, wg_795 S, wp_795 S, wg_796 S, wp_796 S, wg_797 S, wp_797 S, wg_798 S, wp_798 S, wg_799 S, wp_799 S, wg_800 S, wp_800 S, wg_801 S, wp_801 S, wg_808 S, wp_808 S, wg_810 S, wp_810 S, wa_73 S, ws_73 S, e_Model_isLog, m_isOf Q, e_Model_placeOf]
end Q
