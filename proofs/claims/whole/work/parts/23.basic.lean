/-! truth as numbers -/
theorem ib_0 (P : Prop) [Decidable P] : (i32 (if P then 1 else 0) = i32 0) = ¬ P := by
  by_cases c : P
  · rw [if_pos c, i32_eq (by omega) (by omega) (by omega) (by omega)]; simp [c]
  · rw [if_neg c]; simp [c]
theorem zrz_b (p : Prop) [Decidable p] (h : zHeap) : zrz (i32 (if p then 1 else 0)) h = some (zI (i32 (if p then 1 else 0)), h) := by
  by_cases c : p
  · rw [if_pos c]; exact zrz_1 h
  · rw [if_neg c]; exact zrz_0 h
/-- max(0, w - n) -/
def driS (w n : Int) : Int := if w < n then 0 else w - n
def wetS (w : Int) : Int := if 6 < w then 9 else w + 3
theorem driS_rng {w n : Int} (h0 : 0 ≤ w) (h1 : w ≤ 9) (h2 : 0 ≤ n) : 0 ≤ driS w n ∧ driS w n ≤ 9 := by unfold driS; split <;> omega
theorem wetS_rng {w : Int} (h0 : 0 ≤ w) (h1 : w ≤ 9) : 0 ≤ wetS w ∧ wetS w ≤ 9 := by unfold wetS; split <;> omega
theorem c_dried {h : zHeap} {w n : Int} (h0 : 0 ≤ w) (h1 : w ≤ 9) (h2 : 0 ≤ n) (h3 : n ≤ 1000) : zc 193 [zI (i32 w), zI (i32 n)] h = some (zI (i32 (driS w n)), h) := by
  rw [e_Main_dried, i32_sub, i32_max (by omega) (by omega) (by omega) (by omega)]
  unfold driS
  by_cases c : w < n
  · rw [if_neg (by omega), if_pos c]
  · by_cases c2 : 0 < w - n
    · rw [if_pos c2, if_neg c]
    · rw [if_neg c2, if_neg c, show w - n = 0 by omega]
theorem c_wetted {h : zHeap} {w : Int} (h0 : 0 ≤ w) (h1 : w ≤ 9) : zc 194 [zI (i32 w)] h = some (zI (i32 (wetS w)), h) := by
  rw [e_Main_wetted, i32_add, i32_min (by omega) (by omega) (by omega) (by omega)]
  unfold wetS
  by_cases c : 6 < w
  · rw [if_neg (by omega), if_pos c]
  · by_cases c2 : w + 3 < 9
    · rw [if_pos c2, if_neg c]
    · rw [if_neg c2, if_neg c, show w + 3 = 9 by omega]
theorem c_isAnswer {h : zHeap} {x : Int} (h1 : -2147483648 ≤ x) (h2 : x < 2147483648) : zc 191 [zI (i32 x)] h = some (zI (i32 (if 0 ≤ x ∧ x < 3 then 1 else 0)), h) := by
  simp (disch := omega) only [if_true, if_false, not_true_eq_false, not_false_eq_true, zoI_s, zoR_s, zoH_s, zoL_s, zbI_s, zbV_s, zbR_s, zbL_s, zif_dec, i32_0, ne_eq, i32_lt, i32_le, i32_eq, i32_add, i32_mul, i32_sub, i32_neg, zrz_0, zrz_1, zif_t, zif_f, zsF_s, zsF_k, zsF_a, zsC_s, zsC_a, zsC_i, Int.add_zero, Int.zero_add, e_Main_isAnswer]
  by_cases c1 : x < 0
  · simp (disch := omega) only [if_true, if_false, not_true_eq_false, not_false_eq_true, zoI_s, zoR_s, zoH_s, zoL_s, zbI_s, zbV_s, zbR_s, zbL_s, zif_dec, i32_0, ne_eq, i32_lt, i32_le, i32_eq, i32_add, i32_mul, i32_sub, i32_neg, zrz_0, zrz_1, zif_t, zif_f, zsF_s, zsF_k, zsF_a, zsC_s, zsC_a, zsC_i, Int.add_zero, Int.zero_add, if_pos, if_neg]
  · by_cases c2 : 3 ≤ x
    · simp (disch := omega) only [if_true, if_false, not_true_eq_false, not_false_eq_true, zoI_s, zoR_s, zoH_s, zoL_s, zbI_s, zbV_s, zbR_s, zbL_s, zif_dec, i32_0, ne_eq, i32_lt, i32_le, i32_eq, i32_add, i32_mul, i32_sub, i32_neg, zrz_0, zrz_1, zif_t, zif_f, zsF_s, zsF_k, zsF_a, zsC_s, zsC_a, zsC_i, Int.add_zero, Int.zero_add, if_pos, if_neg]
    · simp (disch := omega) only [if_true, if_false, not_true_eq_false, not_false_eq_true, zoI_s, zoR_s, zoH_s, zoL_s, zbI_s, zbV_s, zbR_s, zbL_s, zif_dec, i32_0, ne_eq, i32_lt, i32_le, i32_eq, i32_add, i32_mul, i32_sub, i32_neg, zrz_0, zrz_1, zif_t, zif_f, zsF_s, zsF_k, zsF_a, zsC_s, zsC_a, zsC_i, Int.add_zero, Int.zero_add, if_pos, if_neg]
theorem c_within {h : zHeap} {x m : Int} (h1 : -2147483648 ≤ x) (h2 : x < 2147483648) (h3 : 0 ≤ m) (h4 : m ≤ 1000) : zc 192 [zI (i32 x), zI (i32 m)] h = some (zI (i32 (if 0 ≤ x ∧ x ≤ m then 1 else 0)), h) := by
  simp (disch := omega) only [if_true, if_false, not_true_eq_false, not_false_eq_true, zoI_s, zoR_s, zoH_s, zoL_s, zbI_s, zbV_s, zbR_s, zbL_s, zif_dec, i32_0, ne_eq, i32_lt, i32_le, i32_eq, i32_add, i32_mul, i32_sub, i32_neg, zrz_0, zrz_1, zif_t, zif_f, zsF_s, zsF_k, zsF_a, zsC_s, zsC_a, zsC_i, Int.add_zero, Int.zero_add, e_Main_within]
  by_cases c1 : x < 0
  · simp (disch := omega) only [if_true, if_false, not_true_eq_false, not_false_eq_true, zoI_s, zoR_s, zoH_s, zoL_s, zbI_s, zbV_s, zbR_s, zbL_s, zif_dec, i32_0, ne_eq, i32_lt, i32_le, i32_eq, i32_add, i32_mul, i32_sub, i32_neg, zrz_0, zrz_1, zif_t, zif_f, zsF_s, zsF_k, zsF_a, zsC_s, zsC_a, zsC_i, Int.add_zero, Int.zero_add, if_pos, if_neg]
  · by_cases c2 : m < x
    · simp (disch := omega) only [if_true, if_false, not_true_eq_false, not_false_eq_true, zoI_s, zoR_s, zoH_s, zoL_s, zbI_s, zbV_s, zbR_s, zbL_s, zif_dec, i32_0, ne_eq, i32_lt, i32_le, i32_eq, i32_add, i32_mul, i32_sub, i32_neg, zrz_0, zrz_1, zif_t, zif_f, zsF_s, zsF_k, zsF_a, zsC_s, zsC_a, zsC_i, Int.add_zero, Int.zero_add, if_pos, if_neg]
    · simp (disch := omega) only [if_true, if_false, not_true_eq_false, not_false_eq_true, zoI_s, zoR_s, zoH_s, zoL_s, zbI_s, zbV_s, zbR_s, zbL_s, zif_dec, i32_0, ne_eq, i32_lt, i32_le, i32_eq, i32_add, i32_mul, i32_sub, i32_neg, zrz_0, zrz_1, zif_t, zif_f, zsF_s, zsF_k, zsF_a, zsC_s, zsC_a, zsC_i, Int.add_zero, Int.zero_add, if_pos, if_neg]
theorem c_areOpposed {h : zHeap} {x y : Int} (h1 : -5 ≤ x) (h2 : x ≤ 5) (h3 : -5 ≤ y) (h4 : y ≤ 5) : zc 195 [zI (i32 x), zI (i32 y)] h = some (zI (i32 (if 0 ≤ x ∧ x ≤ 1 ∧ y = 1 - x then 1 else 0)), h) := by
  simp (disch := omega) only [if_true, if_false, not_true_eq_false, not_false_eq_true, zoI_s, zoR_s, zoH_s, zoL_s, zbI_s, zbV_s, zbR_s, zbL_s, zif_dec, i32_0, ne_eq, i32_lt, i32_le, i32_eq, i32_add, i32_mul, i32_sub, i32_neg, zrz_0, zrz_1, zif_t, zif_f, zsF_s, zsF_k, zsF_a, zsC_s, zsC_a, zsC_i, Int.add_zero, Int.zero_add, e_Main_areOpposed]
  by_cases c1 : x = 1
  · by_cases c2 : y = 0
    · simp (disch := omega) only [if_true, if_false, not_true_eq_false, not_false_eq_true, zoI_s, zoR_s, zoH_s, zoL_s, zbI_s, zbV_s, zbR_s, zbL_s, zif_dec, i32_0, ne_eq, i32_lt, i32_le, i32_eq, i32_add, i32_mul, i32_sub, i32_neg, zrz_0, zrz_1, zif_t, zif_f, zsF_s, zsF_k, zsF_a, zsC_s, zsC_a, zsC_i, Int.add_zero, Int.zero_add, if_pos, if_neg]
    · simp (disch := omega) only [if_true, if_false, not_true_eq_false, not_false_eq_true, zoI_s, zoR_s, zoH_s, zoL_s, zbI_s, zbV_s, zbR_s, zbL_s, zif_dec, i32_0, ne_eq, i32_lt, i32_le, i32_eq, i32_add, i32_mul, i32_sub, i32_neg, zrz_0, zrz_1, zif_t, zif_f, zsF_s, zsF_k, zsF_a, zsC_s, zsC_a, zsC_i, Int.add_zero, Int.zero_add, if_pos, if_neg]
  · by_cases c2 : x = 0
    · by_cases c3 : y = 1
      · simp (disch := omega) only [if_true, if_false, not_true_eq_false, not_false_eq_true, zoI_s, zoR_s, zoH_s, zoL_s, zbI_s, zbV_s, zbR_s, zbL_s, zif_dec, i32_0, ne_eq, i32_lt, i32_le, i32_eq, i32_add, i32_mul, i32_sub, i32_neg, zrz_0, zrz_1, zif_t, zif_f, zsF_s, zsF_k, zsF_a, zsC_s, zsC_a, zsC_i, Int.add_zero, Int.zero_add, if_pos, if_neg]
      · simp (disch := omega) only [if_true, if_false, not_true_eq_false, not_false_eq_true, zoI_s, zoR_s, zoH_s, zoL_s, zbI_s, zbV_s, zbR_s, zbL_s, zif_dec, i32_0, ne_eq, i32_lt, i32_le, i32_eq, i32_add, i32_mul, i32_sub, i32_neg, zrz_0, zrz_1, zif_t, zif_f, zsF_s, zsF_k, zsF_a, zsC_s, zsC_a, zsC_i, Int.add_zero, Int.zero_add, if_pos, if_neg]
    · simp (disch := omega) only [if_true, if_false, not_true_eq_false, not_false_eq_true, zoI_s, zoR_s, zoH_s, zoL_s, zbI_s, zbV_s, zbR_s, zbL_s, zif_dec, i32_0, ne_eq, i32_lt, i32_le, i32_eq, i32_add, i32_mul, i32_sub, i32_neg, zrz_0, zrz_1, zif_t, zif_f, zsF_s, zsF_k, zsF_a, zsC_s, zsC_a, zsC_i, Int.add_zero, Int.zero_add, if_pos, if_neg]
section DU
variable {h : zHeap} {F : Nat → Nat → Int} {C : Nat → Int → Int} {a : Nat} {D : Int → Int}
theorem c_hasAll (H : duS h a) (V : duV F C a D) (O : dOK D) {r p q : Int} (h1 : -2147483648 ≤ r) (h2 : r < 2147483648) (h3 : -2147483648 ≤ p) (h4 : p < 2147483648) (h5 : -2147483648 ≤ q) (h6 : q < 2147483648) : zc 42 [zR (some a), zI (i32 r), zI (i32 p), zI (i32 q)] (zw h F C) = some (zI (i32 (if (0 ≤ r ∧ r < D 0) ∧ (0 ≤ p ∧ p < D 1) ∧ (0 ≤ q ∧ q < D 2) then 1 else 0)), zw h F C) := by
  simp (disch := omega) only [if_true, if_false, not_true_eq_false, not_false_eq_true, zoI_s, zoR_s, zoH_s, zoL_s, zbI_s, zbV_s, zbR_s, zbL_s, zif_dec, i32_0, ne_eq, i32_lt, i32_le, i32_eq, i32_add, i32_mul, i32_sub, i32_neg, zrz_0, zrz_1, zif_t, zif_f, zsF_s, zsF_k, zsF_a, zsC_s, zsC_a, zsC_i, Int.add_zero, Int.zero_add, dv H, dg_128 H, dp_128 H, dg_129 H, dp_129 H, dg_130 H, dp_130 H, dg_131 H, dp_131 H, dr_132 H, da_132 H, dr_133 H, da_133 H, dr_134 H, da_134 H, dr_135 H, da_135 H, dr_136 H, da_136 H, dr_137 H, da_137 H, e_Duchy_hasAll, c_hasReed H V O h1 h2, c_hasPlayer H V O h3 h4, c_hasQuestion H V O h5 h6, ib_0]
  by_cases c1 : 0 ≤ r ∧ r < D 0
  · by_cases c2 : 0 ≤ p ∧ p < D 1
    · by_cases c3 : 0 ≤ q ∧ q < D 2
      · simp (disch := omega) only [if_true, if_false, not_true_eq_false, not_false_eq_true, zoI_s, zoR_s, zoH_s, zoL_s, zbI_s, zbV_s, zbR_s, zbL_s, zif_dec, i32_0, ne_eq, i32_lt, i32_le, i32_eq, i32_add, i32_mul, i32_sub, i32_neg, zrz_0, zrz_1, zif_t, zif_f, zsF_s, zsF_k, zsF_a, zsC_s, zsC_a, zsC_i, Int.add_zero, Int.zero_add, if_pos, if_neg]
      · simp (disch := omega) only [if_true, if_false, not_true_eq_false, not_false_eq_true, zoI_s, zoR_s, zoH_s, zoL_s, zbI_s, zbV_s, zbR_s, zbL_s, zif_dec, i32_0, ne_eq, i32_lt, i32_le, i32_eq, i32_add, i32_mul, i32_sub, i32_neg, zrz_0, zrz_1, zif_t, zif_f, zsF_s, zsF_k, zsF_a, zsC_s, zsC_a, zsC_i, Int.add_zero, Int.zero_add, if_pos, if_neg]
    · simp (disch := omega) only [if_true, if_false, not_true_eq_false, not_false_eq_true, zoI_s, zoR_s, zoH_s, zoL_s, zbI_s, zbV_s, zbR_s, zbL_s, zif_dec, i32_0, ne_eq, i32_lt, i32_le, i32_eq, i32_add, i32_mul, i32_sub, i32_neg, zrz_0, zrz_1, zif_t, zif_f, zsF_s, zsF_k, zsF_a, zsC_s, zsC_a, zsC_i, Int.add_zero, Int.zero_add, if_pos, if_neg]
  · simp (disch := omega) only [if_true, if_false, not_true_eq_false, not_false_eq_true, zoI_s, zoR_s, zoH_s, zoL_s, zbI_s, zbV_s, zbR_s, zbL_s, zif_dec, i32_0, ne_eq, i32_lt, i32_le, i32_eq, i32_add, i32_mul, i32_sub, i32_neg, zrz_0, zrz_1, zif_t, zif_f, zsF_s, zsF_k, zsF_a, zsC_s, zsC_a, zsC_i, Int.add_zero, Int.zero_add, if_pos, if_neg]
theorem c_noteAt (H : duS h a) (V : duV F C a D) (O : dOK D) {w k c p q : Int} (h1 : 0 ≤ w) (h2 : w ≤ 9) (h3 : 0 ≤ k) (h4 : k ≤ 7) (h5 : 0 ≤ c) (h6 : c ≤ 9) (p0 : 0 ≤ p) (p1 : p < D 1) (q0 : 0 ≤ q) (q1 : q < D 2) : zc 47 [zR (some a), zI (i32 w), zI (i32 k), zI (i32 c), zI (i32 p), zI (i32 q)] (zw h F C) = some (zI (i32 (noteS D w k c p q)), zw h F C) := by
  have b1 := O.2.1
  have b2 := O.2.2.1
  have b3 := O.2.2.2.2.2.2.1 p p0 p1
  have b4 := O.2.2.2.2.2.2.2.1 q q0 q1
  have b5 := O.2.2.2.2.2.2.2.2.1 q q0 q1
  simp (disch := omega) only [if_true, if_false, not_true_eq_false, not_false_eq_true, zoI_s, zoR_s, zoH_s, zoL_s, zbI_s, zbV_s, zbR_s, zbL_s, zif_dec, i32_0, ne_eq, i32_lt, i32_le, i32_eq, i32_add, i32_mul, i32_sub, i32_neg, zrz_0, zrz_1, zif_t, zif_f, zsF_s, zsF_k, zsF_a, zsC_s, zsC_a, zsC_i, Int.add_zero, Int.zero_add, dv H, dg_128 H, dp_128 H, dg_129 H, dp_129 H, dg_130 H, dp_130 H, dg_131 H, dp_131 H, dr_132 H, da_132 H, dr_133 H, da_133 H, dr_134 H, da_134 H, dr_135 H, da_135 H, dr_136 H, da_136 H, dr_137 H, da_137 H, e_Duchy_noteAt, c_coughs H V O h1 h2 p0 p1 q0 q1, ib_0, V.2.2.2.1 p p0 p1, V.2.2.2.2.1 q q0 q1, V.2.2.2.2.2.1 q q0 q1, i32_and7]
  unfold noteS
  by_cases c1 : w + D (16 + p) < D (20 + 2 * q)
  · simp (disch := omega) only [if_true, if_false, not_true_eq_false, not_false_eq_true, zoI_s, zoR_s, zoH_s, zoL_s, zbI_s, zbV_s, zbR_s, zbL_s, zif_dec, i32_0, ne_eq, i32_lt, i32_le, i32_eq, i32_add, i32_mul, i32_sub, i32_neg, zrz_0, zrz_1, zif_t, zif_f, zsF_s, zsF_k, zsF_a, zsC_s, zsC_a, zsC_i, Int.add_zero, Int.zero_add, if_pos, if_neg]
  · simp (disch := omega) only [if_true, if_false, not_true_eq_false, not_false_eq_true, zoI_s, zoR_s, zoH_s, zoL_s, zbI_s, zbV_s, zbR_s, zbL_s, zif_dec, i32_0, ne_eq, i32_lt, i32_le, i32_eq, i32_add, i32_mul, i32_sub, i32_neg, zrz_0, zrz_1, zif_t, zif_f, zsF_s, zsF_k, zsF_a, zsC_s, zsC_a, zsC_i, Int.add_zero, Int.zero_add, if_pos, if_neg]
theorem c_noteOf (H : duS h a) (V : duV F C a D) (O : dOK D) {r p q : Int} (r0 : 0 ≤ r) (r1 : r < D 0) (p0 : 0 ≤ p) (p1 : p < D 1) (q0 : 0 ≤ q) (q1 : q < D 2) : zc 48 [zR (some a), zI (i32 r), zI (i32 p), zI (i32 q)] (zw h F C) = some (zI (i32 (nteS D r p q)), zw h F C) := by
  have b0 := O.1
  have b1 := O.2.2.2.2.1 r r0 r1
  have b2 := O.2.2.2.2.2.1 r r0 r1
  simp (disch := omega) only [if_true, if_false, not_true_eq_false, not_false_eq_true, zoI_s, zoR_s, zoH_s, zoL_s, zbI_s, zbV_s, zbR_s, zbL_s, zif_dec, i32_0, ne_eq, i32_lt, i32_le, i32_eq, i32_add, i32_mul, i32_sub, i32_neg, zrz_0, zrz_1, zif_t, zif_f, zsF_s, zsF_k, zsF_a, zsC_s, zsC_a, zsC_i, Int.add_zero, Int.zero_add, dv H, dg_128 H, dp_128 H, dg_129 H, dp_129 H, dg_130 H, dp_130 H, dg_131 H, dp_131 H, dr_132 H, da_132 H, dr_133 H, da_133 H, dr_134 H, da_134 H, dr_135 H, da_135 H, dr_136 H, da_136 H, dr_137 H, da_137 H, e_Duchy_noteOf, V.2.1 r r0 r1, V.2.2.1 r r0 r1, V.1.2.2.2, c_noteAt H V O b1.1 b1.2 b2.1 b2.2 O.2.2.2.1.1 O.2.2.2.1.2 p0 p1 q0 q1]
  rfl
theorem c_noteDried (H : duS h a) (V : duV F C a D) (O : dOK D) {r n p q : Int} (r0 : 0 ≤ r) (r1 : r < D 0) (n0 : 0 ≤ n) (n1 : n ≤ 1000) (p0 : 0 ≤ p) (p1 : p < D 1) (q0 : 0 ≤ q) (q1 : q < D 2) : zc 49 [zR (some a), zI (i32 r), zI (i32 n), zI (i32 p), zI (i32 q)] (zw h F C) = some (zI (i32 (noteS D (driS (D (4 + 2 * r)) n) (D (5 + 2 * r)) (D 3) p q)), zw h F C) := by
  have b0 := O.1
  have b1 := O.2.2.2.2.1 r r0 r1
  have b2 := O.2.2.2.2.2.1 r r0 r1
  have b3 := driS_rng b1.1 b1.2 n0
  simp (disch := omega) only [if_true, if_false, not_true_eq_false, not_false_eq_true, zoI_s, zoR_s, zoH_s, zoL_s, zbI_s, zbV_s, zbR_s, zbL_s, zif_dec, i32_0, ne_eq, i32_lt, i32_le, i32_eq, i32_add, i32_mul, i32_sub, i32_neg, zrz_0, zrz_1, zif_t, zif_f, zsF_s, zsF_k, zsF_a, zsC_s, zsC_a, zsC_i, Int.add_zero, Int.zero_add, dv H, dg_128 H, dp_128 H, dg_129 H, dp_129 H, dg_130 H, dp_130 H, dg_131 H, dp_131 H, dr_132 H, da_132 H, dr_133 H, da_133 H, dr_134 H, da_134 H, dr_135 H, da_135 H, dr_136 H, da_136 H, dr_137 H, da_137 H, e_Duchy_noteDried, V.2.1 r r0 r1, V.2.2.1 r r0 r1, V.1.2.2.2, c_dried b1.1 b1.2 n0 n1, c_noteAt H V O b3.1 b3.2 b2.1 b2.2 O.2.2.2.1.1 O.2.2.2.1.2 p0 p1 q0 q1]
theorem c_meaning (H : duS h a) (V : duV F C a D) {n : Int} (h1 : -1 ≤ n) (h2 : n ≤ 7) : zc 50 [zR (some a), zI (i32 n)] (zw h F C) = some (zI (i32 (meanS D n)), zw h F C) := by
  unfold meanS
  by_cases c : n < 0
  · simp (disch := omega) only [if_true, if_false, not_true_eq_false, not_false_eq_true, zoI_s, zoR_s, zoH_s, zoL_s, zbI_s, zbV_s, zbR_s, zbL_s, zif_dec, i32_0, ne_eq, i32_lt, i32_le, i32_eq, i32_add, i32_mul, i32_sub, i32_neg, zrz_0, zrz_1, zif_t, zif_f, zsF_s, zsF_k, zsF_a, zsC_s, zsC_a, zsC_i, Int.add_zero, Int.zero_add, if_pos, if_neg, dv H, dg_128 H, dp_128 H, dg_129 H, dp_129 H, dg_130 H, dp_130 H, dg_131 H, dp_131 H, dr_132 H, da_132 H, dr_133 H, da_133 H, dr_134 H, da_134 H, dr_135 H, da_135 H, dr_136 H, da_136 H, dr_137 H, da_137 H, e_Duchy_meaning]
  · simp (disch := omega) only [if_true, if_false, not_true_eq_false, not_false_eq_true, zoI_s, zoR_s, zoH_s, zoL_s, zbI_s, zbV_s, zbR_s, zbL_s, zif_dec, i32_0, ne_eq, i32_lt, i32_le, i32_eq, i32_add, i32_mul, i32_sub, i32_neg, zrz_0, zrz_1, zif_t, zif_f, zsF_s, zsF_k, zsF_a, zsC_s, zsC_a, zsC_i, Int.add_zero, Int.zero_add, if_pos, if_neg, dv H, dg_128 H, dp_128 H, dg_129 H, dp_129 H, dg_130 H, dp_130 H, dg_131 H, dp_131 H, dr_132 H, da_132 H, dr_133 H, da_133 H, dr_134 H, da_134 H, dr_135 H, da_135 H, dr_136 H, da_136 H, dr_137 H, da_137 H, e_Duchy_meaning, V.2.2.2.2.2.2]
theorem c_answerOf (H : duS h a) (V : duV F C a D) (O : dOK D) {r p q : Int} (r0 : 0 ≤ r) (r1 : r < D 0) (p0 : 0 ≤ p) (p1 : p < D 1) (q0 : 0 ≤ q) (q1 : q < D 2) : zc 51 [zR (some a), zI (i32 r), zI (i32 p), zI (i32 q)] (zw h F C) = some (zI (i32 (ansS D r p q)), zw h F C) := by
  have b := nteS_rng (D := D) r p q
  simp (disch := omega) only [if_true, if_false, not_true_eq_false, not_false_eq_true, zoI_s, zoR_s, zoH_s, zoL_s, zbI_s, zbV_s, zbR_s, zbL_s, zif_dec, i32_0, ne_eq, i32_lt, i32_le, i32_eq, i32_add, i32_mul, i32_sub, i32_neg, zrz_0, zrz_1, zif_t, zif_f, zsF_s, zsF_k, zsF_a, zsC_s, zsC_a, zsC_i, Int.add_zero, Int.zero_add, dv H, dg_128 H, dp_128 H, dg_129 H, dp_129 H, dg_130 H, dp_130 H, dg_131 H, dp_131 H, dr_132 H, da_132 H, dr_133 H, da_133 H, dr_134 H, da_134 H, dr_135 H, da_135 H, dr_136 H, da_136 H, dr_137 H, da_137 H, e_Duchy_answerOf, c_noteOf H V O r0 r1 p0 p1 q0 q1, c_meaning H V b.1 b.2]
  rfl
end DU
/-! the duchy that is told: in the class and in the reference -/
theorem c_duchyAt {h : zHeap} {F : Nat → Nat → Int} {C : Nat → Int → Int} (S : St h) (h0 : 0 ≤ C 4 0) (h1 : C 4 0 ≤ 2) {d : Int} (h2 : -2147483648 ≤ d) (h3 : d < 2147483648) : zc 141 [zR (some 1), zI (i32 d)] (zw h F C) = some (zR (if 0 ≤ d ∧ d < C 4 0 then some (8 + 13 * d.toNat) else none), zw h F C) := by
  obtain ⟨f, g1, g2, g3⟩ := S.2.2.2.2.2.1.2.2.2.2.2.1
  have g4 : ∀ d : Int, 0 ≤ d → d < 2 → zaR (zw h F C) (some 5) (i32 d) = some (some (8 + 13 * d.toNat)) := by
    intro d d0 d1
    show (match hAR h 5 with | some (_, n, f) => _ | none => none) = _
    rw [g1]
    dsimp only
    rw [if_pos ⟨by rw [i32_0, i32_le (by omega) (by omega) (by omega) (by omega)]; exact d0, by rw [i32_nat d0 (by omega)]; omega⟩, i32_nat d0 (by omega)]
    rcases (show d = 0 ∨ d = 1 by omega) with rfl | rfl
    · exact congrArg some g2
    · exact congrArg some g3
  by_cases c1 : d < 0
  · simp (disch := omega) only [if_true, if_false, not_true_eq_false, not_false_eq_true, zoI_s, zoR_s, zoH_s, zoL_s, zbI_s, zbV_s, zbR_s, zbL_s, zif_dec, i32_0, ne_eq, i32_lt, i32_le, i32_eq, i32_add, i32_mul, i32_sub, i32_neg, zrz_0, zrz_1, zif_t, zif_f, zsF_s, zsF_k, zsF_a, zsC_s, zsC_a, zsC_i, Int.add_zero, Int.zero_add, if_pos, if_neg, tv_1 S, e_Told_duchyAt]
  · by_cases c2 : C 4 0 ≤ d
    · simp (disch := omega) only [if_true, if_false, not_true_eq_false, not_false_eq_true, zoI_s, zoR_s, zoH_s, zoL_s, zbI_s, zbV_s, zbR_s, zbL_s, zif_dec, i32_0, ne_eq, i32_lt, i32_le, i32_eq, i32_add, i32_mul, i32_sub, i32_neg, zrz_0, zrz_1, zif_t, zif_f, zsF_s, zsF_k, zsF_a, zsC_s, zsC_a, zsC_i, Int.add_zero, Int.zero_add, if_pos, if_neg, tv_1 S, tr_577 S, tr_578 S, ta_4 S, e_Told_duchyAt]
    · simp (disch := omega) only [if_true, if_false, not_true_eq_false, not_false_eq_true, zoI_s, zoR_s, zoH_s, zoL_s, zbI_s, zbV_s, zbR_s, zbL_s, zif_dec, i32_0, ne_eq, i32_lt, i32_le, i32_eq, i32_add, i32_mul, i32_sub, i32_neg, zrz_0, zrz_1, zif_t, zif_f, zsF_s, zsF_k, zsF_a, zsC_s, zsC_a, zsC_i, Int.add_zero, Int.zero_add, if_pos, if_neg, tv_1 S, tr_577 S, tr_578 S, ta_4 S, e_Told_duchyAt, g4]
/-- the reference: the duchy D is taken -/
def moV (F : Nat → Nat → Int) (C : Nat → Int → Int) (D : Int → Int) : Prop := (0 ≤ F 778 72 ∧ F 778 72 ≤ 1000) ∧ (F 779 72 = D 0 ∧ F 780 72 = D 1 ∧ F 781 72 = D 2) ∧ ∀ j, 0 ≤ j → j < 44 → C 73 (F 778 72 + j) = D j
def mlF (F : Nat → Nat → Int) (w k c : Int) : Nat → Nat → Int := zsF (zsF (zsF F 782 72 w) 783 72 k) 784 72 c
theorem zsF_sw (F : Nat → Nat → Int) {k a k' a' : Nat} (x y : Int) (hk : k ≠ k' ∨ a ≠ a') : zsF (zsF F k a x) k' a' y = zsF (zsF F k' a' y) k a x := by
  funext k2 a2
  unfold zsF
  by_cases c1 : k2 = k ∧ a2 = a
  · by_cases c2 : k2 = k' ∧ a2 = a'
    · omega
    · simp only [c1, c2, and_self, if_true, if_false]
      rw [if_neg (by omega)]
  · simp only [c1, if_false]
theorem zsF_ss (F : Nat → Nat → Int) (k a : Nat) (x y : Int) : zsF (zsF F k a x) k a y = zsF F k a y := by
  funext k2 a2
  unfold zsF
  by_cases c1 : k2 = k ∧ a2 = a
  · simp only [c1, and_self, if_true]
  · simp only [c1, if_false]
theorem zsF_id (F : Nat → Nat → Int) (k a : Nat) : zsF F k a (F k a) = F := by
  funext k2 a2
  unfold zsF
  by_cases c1 : k2 = k ∧ a2 = a
  · simp only [c1, and_self, if_true]
  · simp only [c1, if_false]
theorem mlF_2 (F : Nat → Nat → Int) (w k c x : Int) : zsF (mlF F w k c) 784 72 x = mlF F w k x := zsF_ss _ _ _ _ _
theorem mlF_1 (F : Nat → Nat → Int) (w k c x : Int) : zsF (mlF F w k c) 783 72 x = mlF F w x c := by
  unfold mlF
  rw [zsF_sw _ _ _ (by omega), zsF_ss]
theorem mlF_0 (F : Nat → Nat → Int) (w k c x : Int) : zsF (mlF F w k c) 782 72 x = mlF F x k c := by
  unfold mlF
  rw [zsF_sw _ _ _ (by omega), zsF_sw (zsF F 782 72 w) _ _ (by omega), zsF_ss]
theorem mlF_id (F : Nat → Nat → Int) : mlF F (F 782 72) (F 783 72) (F 784 72) = F := by
  unfold mlF
  rw [zsF_id, zsF_id, zsF_id]
theorem mlF_w (F : Nat → Nat → Int) (w k c : Int) : mlF F w k c 782 72 = w := rfl
theorem mlF_k (F : Nat → Nat → Int) (w k c : Int) : mlF F w k c 783 72 = k := rfl
theorem mlF_c (F : Nat → Nat → Int) (w k c : Int) : mlF F w k c 784 72 = c := rfl
theorem mlF_o {F : Nat → Nat → Int} {w k c : Int} {k' a' : Nat} (hk : k' < 782 ∨ 784 < k' ∨ a' ≠ 72) : mlF F w k c k' a' = F k' a' := by
  unfold mlF zsF
  rw [if_neg (by omega), if_neg (by omega), if_neg (by omega)]
theorem moV.ml {F : Nat → Nat → Int} {C : Nat → Int → Int} {D : Int → Int} (M : moV F C D) (w k c : Int) : moV (mlF F w k c) C D := M
theorem tq.ml {F F1 : Nat → Nat → Int} {C C1 : Nat → Int → Int} (h1 : tq F C F1 C1) (w k c : Int) : tq F C (mlF F1 w k c) C1 := ((h1.sF (by omega) (by omega)).sF (by omega) (by omega)).sF (by omega) (by omega)
section MO
variable {h : zHeap} {F : Nat → Nat → Int} {C : Nat → Int → Int} {D : Int → Int}
theorem m_isIn {h : zHeap} {x a b : Int} (h1 : -2147483648 ≤ x) (h2 : x < 2147483648) (h3 : -2147483648 ≤ a) (h4 : a < 2147483648) (h5 : -2147483648 ≤ b) (h6 : b < 2147483648) : zc 200 [zI (i32 x), zI (i32 a), zI (i32 b)] h = some (zI (i32 (if a ≤ x ∧ x ≤ b then 1 else 0)), h) := by
  simp (disch := omega) only [if_true, if_false, not_true_eq_false, not_false_eq_true, zoI_s, zoR_s, zoH_s, zoL_s, zbI_s, zbV_s, zbR_s, zbL_s, zif_dec, i32_0, ne_eq, i32_lt, i32_le, i32_eq, i32_add, i32_mul, i32_sub, i32_neg, zrz_0, zrz_1, zif_t, zif_f, zsF_s, zsF_k, zsF_a, zsC_s, zsC_a, zsC_i, Int.add_zero, Int.zero_add, e_Model_isIn]
  by_cases c1 : x < a
  · simp (disch := omega) only [if_true, if_false, not_true_eq_false, not_false_eq_true, zoI_s, zoR_s, zoH_s, zoL_s, zbI_s, zbV_s, zbR_s, zbL_s, zif_dec, i32_0, ne_eq, i32_lt, i32_le, i32_eq, i32_add, i32_mul, i32_sub, i32_neg, zrz_0, zrz_1, zif_t, zif_f, zsF_s, zsF_k, zsF_a, zsC_s, zsC_a, zsC_i, Int.add_zero, Int.zero_add, if_pos, if_neg]
  · by_cases c2 : b < x
    · simp (disch := omega) only [if_true, if_false, not_true_eq_false, not_false_eq_true, zoI_s, zoR_s, zoH_s, zoL_s, zbI_s, zbV_s, zbR_s, zbL_s, zif_dec, i32_0, ne_eq, i32_lt, i32_le, i32_eq, i32_add, i32_mul, i32_sub, i32_neg, zrz_0, zrz_1, zif_t, zif_f, zsF_s, zsF_k, zsF_a, zsC_s, zsC_a, zsC_i, Int.add_zero, Int.zero_add, if_pos, if_neg]
    · simp (disch := omega) only [if_true, if_false, not_true_eq_false, not_false_eq_true, zoI_s, zoR_s, zoH_s, zoL_s, zbI_s, zbV_s, zbR_s, zbL_s, zif_dec, i32_0, ne_eq, i32_lt, i32_le, i32_eq, i32_add, i32_mul, i32_sub, i32_neg, zrz_0, zrz_1, zif_t, zif_f, zsF_s, zsF_k, zsF_a, zsC_s, zsC_a, zsC_i, Int.add_zero, Int.zero_add, if_pos, if_neg]
theorem moV.at (M : moV F C D) {i j : Int} (h0 : 0 ≤ j) (h1 : j < 44) (hi : i = F 778 72 + j) : C 73 i = D j := by rw [hi]; exact M.2.2 j h0 h1
theorem m_isReed (S : St h) (M : moV F C D) (O : dOK D) {x : Int} (h1 : -2147483648 ≤ x) (h2 : x < 2147483648) : zc 227 [zR (some 72), zI (i32 x)] (zw h F C) = some (zI (i32 (if 0 ≤ x ∧ x ≤ D 0 - 1 then 1 else 0)), zw h F C) := by
  have b := O.1
  simp (disch := omega) only [if_true, if_false, not_true_eq_false, not_false_eq_true, zoI_s, zoR_s, zoH_s, zoL_s, zbI_s, zbV_s, zbR_s, zbL_s, zif_dec, i32_0, ne_eq, i32_lt, i32_le, i32_eq, i32_add, i32_mul, i32_sub, i32_neg, zrz_0, zrz_1, zif_t, zif_f, zsF_s, zsF_k, zsF_a, zsC_s, zsC_a, zsC_i, Int.add_zero, Int.zero_add, wv_72 S, wr_768 S, wr_769 S, wr_777 S, wr_785 S, wr_786 S, wr_787 S, wr_789 S, wr_790 S, wr_791 S, wr_802 S, wr_803 S, wr_804 S, wr_805 S, wr_806 S, wr_807 S, wr_809 S, wg_770 S, wp_770 S, wg_771 S, wp_771 S, wg_772 S, wp_772 S, wg_773 S, wp_773 S, wg_774 S, wp_774 S, wg_775 S, wp_775 S, wg_776 S, wp_776 S, wg_778 S, wp_778 S, wg_779 S, wp_779 S, wg_780 S, wp_780 S, wg_781 S, wp_781 S, wg_782 S, wp_782 S, wg_783 S, wp_783 S, wg_784 S, wp_784 S, wg_788 S, wp_788 S, wg_792 S, wp_792 S, wg_793 S, wp_793 S, wg_794 S, wp_794 S, wg_795 S, wp_795 S, wg_796 S, wp_796 S, wg_797 S, wp_797 S, wg_798 S, wp_798 S, wg_799 S, wp_799 S, wg_800 S, wp_800 S, wg_801 S, wp_801 S, wg_808 S, wp_808 S, wg_810 S, wp_810 S, e_Model_isReed, M.2.1.1, m_isIn, zrz_b]
theorem m_isPlayer (S : St h) (M : moV F C D) (O : dOK D) {x : Int} (h1 : -2147483648 ≤ x) (h2 : x < 2147483648) : zc 228 [zR (some 72), zI (i32 x)] (zw h F C) = some (zI (i32 (if 0 ≤ x ∧ x ≤ D 1 - 1 then 1 else 0)), zw h F C) := by
  have b := O.2.1
  simp (disch := omega) only [if_true, if_false, not_true_eq_false, not_false_eq_true, zoI_s, zoR_s, zoH_s, zoL_s, zbI_s, zbV_s, zbR_s, zbL_s, zif_dec, i32_0, ne_eq, i32_lt, i32_le, i32_eq, i32_add, i32_mul, i32_sub, i32_neg, zrz_0, zrz_1, zif_t, zif_f, zsF_s, zsF_k, zsF_a, zsC_s, zsC_a, zsC_i, Int.add_zero, Int.zero_add, wv_72 S, wr_768 S, wr_769 S, wr_777 S, wr_785 S, wr_786 S, wr_787 S, wr_789 S, wr_790 S, wr_791 S, wr_802 S, wr_803 S, wr_804 S, wr_805 S, wr_806 S, wr_807 S, wr_809 S, wg_770 S, wp_770 S, wg_771 S, wp_771 S, wg_772 S, wp_772 S, wg_773 S, wp_773 S, wg_774 S, wp_774 S, wg_775 S, wp_775 S, wg_776 S, wp_776 S, wg_778 S, wp_778 S, wg_779 S, wp_779 S, wg_780 S, wp_780 S, wg_781 S, wp_781 S, wg_782 S, wp_782 S, wg_783 S, wp_783 S, wg_784 S, wp_784 S, wg_788 S, wp_788 S, wg_792 S, wp_792 S, wg_793 S, wp_793 S, wg_794 S, wp_794 S, wg_795 S, wp_795 S, wg_796 S, wp_796 S, wg_797 S, wp_797 S, wg_798 S, wp_798 S, wg_799 S, wp_799 S, wg_800 S, wp_800 S, wg_801 S, wp_801 S, wg_808 S, wp_808 S, wg_810 S, wp_810 S, e_Model_isPlayer, M.2.1.2.1, m_isIn, zrz_b]
theorem m_isQuestion (S : St h) (M : moV F C D) (O : dOK D) {x : Int} (h1 : -2147483648 ≤ x) (h2 : x < 2147483648) : zc 229 [zR (some 72), zI (i32 x)] (zw h F C) = some (zI (i32 (if 0 ≤ x ∧ x ≤ D 2 - 1 then 1 else 0)), zw h F C) := by
  have b := O.2.2.1
  simp (disch := omega) only [if_true, if_false, not_true_eq_false, not_false_eq_true, zoI_s, zoR_s, zoH_s, zoL_s, zbI_s, zbV_s, zbR_s, zbL_s, zif_dec, i32_0, ne_eq, i32_lt, i32_le, i32_eq, i32_add, i32_mul, i32_sub, i32_neg, zrz_0, zrz_1, zif_t, zif_f, zsF_s, zsF_k, zsF_a, zsC_s, zsC_a, zsC_i, Int.add_zero, Int.zero_add, wv_72 S, wr_768 S, wr_769 S, wr_777 S, wr_785 S, wr_786 S, wr_787 S, wr_789 S, wr_790 S, wr_791 S, wr_802 S, wr_803 S, wr_804 S, wr_805 S, wr_806 S, wr_807 S, wr_809 S, wg_770 S, wp_770 S, wg_771 S, wp_771 S, wg_772 S, wp_772 S, wg_773 S, wp_773 S, wg_774 S, wp_774 S, wg_775 S, wp_775 S, wg_776 S, wp_776 S, wg_778 S, wp_778 S, wg_779 S, wp_779 S, wg_780 S, wp_780 S, wg_781 S, wp_781 S, wg_782 S, wp_782 S, wg_783 S, wp_783 S, wg_784 S, wp_784 S, wg_788 S, wp_788 S, wg_792 S, wp_792 S, wg_793 S, wp_793 S, wg_794 S, wp_794 S, wg_795 S, wp_795 S, wg_796 S, wp_796 S, wg_797 S, wp_797 S, wg_798 S, wp_798 S, wg_799 S, wp_799 S, wg_800 S, wp_800 S, wg_801 S, wp_801 S, wg_808 S, wp_808 S, wg_810 S, wp_810 S, e_Model_isQuestion, M.2.1.2.2, m_isIn, zrz_b]
theorem m_wetOf (S : St h) (M : moV F C D) (O : dOK D) {r : Int} (r0 : 0 ≤ r) (r1 : r < D 0) : zc 230 [zR (some 72), zI (i32 r)] (zw h F C) = some (zI (i32 (D (4 + 2 * r))), zw h F C) := by
  have b := O.1
  have m := M.1
  simp (disch := omega) only [if_true, if_false, not_true_eq_false, not_false_eq_true, zoI_s, zoR_s, zoH_s, zoL_s, zbI_s, zbV_s, zbR_s, zbL_s, zif_dec, i32_0, ne_eq, i32_lt, i32_le, i32_eq, i32_add, i32_mul, i32_sub, i32_neg, zrz_0, zrz_1, zif_t, zif_f, zsF_s, zsF_k, zsF_a, zsC_s, zsC_a, zsC_i, Int.add_zero, Int.zero_add, wv_72 S, wr_768 S, wr_769 S, wr_777 S, wr_785 S, wr_786 S, wr_787 S, wr_789 S, wr_790 S, wr_791 S, wr_802 S, wr_803 S, wr_804 S, wr_805 S, wr_806 S, wr_807 S, wr_809 S, wg_770 S, wp_770 S, wg_771 S, wp_771 S, wg_772 S, wp_772 S, wg_773 S, wp_773 S, wg_774 S, wp_774 S, wg_775 S, wp_775 S, wg_776 S, wp_776 S, wg_778 S, wp_778 S, wg_779 S, wp_779 S, wg_780 S, wp_780 S, wg_781 S, wp_781 S, wg_782 S, wp_782 S, wg_783 S, wp_783 S, wg_784 S, wp_784 S, wg_788 S, wp_788 S, wg_792 S, wp_792 S, wg_793 S, wp_793 S, wg_794 S, wp_794 S, wg_795 S, wp_795 S, wg_796 S, wp_796 S, wg_797 S, wp_797 S, wg_798 S, wp_798 S, wg_799 S, wp_799 S, wg_800 S, wp_800 S, wg_801 S, wp_801 S, wg_808 S, wp_808 S, wg_810 S, wp_810 S, wa_73 S, ws_73 S, e_Model_wetOf]
  rw [M.at (j := 4 + 2 * r) (by omega) (by omega) (by omega)]
theorem m_keyOf (S : St h) (M : moV F C D) (O : dOK D) {r : Int} (r0 : 0 ≤ r) (r1 : r < D 0) : zc 231 [zR (some 72), zI (i32 r)] (zw h F C) = some (zI (i32 (D (5 + 2 * r))), zw h F C) := by
  have b := O.1
  have m := M.1
  simp (disch := omega) only [if_true, if_false, not_true_eq_false, not_false_eq_true, zoI_s, zoR_s, zoH_s, zoL_s, zbI_s, zbV_s, zbR_s, zbL_s, zif_dec, i32_0, ne_eq, i32_lt, i32_le, i32_eq, i32_add, i32_mul, i32_sub, i32_neg, zrz_0, zrz_1, zif_t, zif_f, zsF_s, zsF_k, zsF_a, zsC_s, zsC_a, zsC_i, Int.add_zero, Int.zero_add, wv_72 S, wr_768 S, wr_769 S, wr_777 S, wr_785 S, wr_786 S, wr_787 S, wr_789 S, wr_790 S, wr_791 S, wr_802 S, wr_803 S, wr_804 S, wr_805 S, wr_806 S, wr_807 S, wr_809 S, wg_770 S, wp_770 S, wg_771 S, wp_771 S, wg_772 S, wp_772 S, wg_773 S, wp_773 S, wg_774 S, wp_774 S, wg_775 S, wp_775 S, wg_776 S, wp_776 S, wg_778 S, wp_778 S, wg_779 S, wp_779 S, wg_780 S, wp_780 S, wg_781 S, wp_781 S, wg_782 S, wp_782 S, wg_783 S, wp_783 S, wg_784 S, wp_784 S, wg_788 S, wp_788 S, wg_792 S, wp_792 S, wg_793 S, wp_793 S, wg_794 S, wp_794 S, wg_795 S, wp_795 S, wg_796 S, wp_796 S, wg_797 S, wp_797 S, wg_798 S, wp_798 S, wg_799 S, wp_799 S, wg_800 S, wp_800 S, wg_801 S, wp_801 S, wg_808 S, wp_808 S, wg_810 S, wp_810 S, wa_73 S, ws_73 S, e_Model_keyOf]
  rw [M.at (j := 5 + 2 * r) (by omega) (by omega) (by omega)]
theorem m_breathOf (S : St h) (M : moV F C D) (O : dOK D) {p : Int} (p0 : 0 ≤ p) (p1 : p < D 1) : zc 232 [zR (some 72), zI (i32 p)] (zw h F C) = some (zI (i32 (D (16 + p))), zw h F C) := by
  have b := O.2.1
  have m := M.1
  simp (disch := omega) only [if_true, if_false, not_true_eq_false, not_false_eq_true, zoI_s, zoR_s, zoH_s, zoL_s, zbI_s, zbV_s, zbR_s, zbL_s, zif_dec, i32_0, ne_eq, i32_lt, i32_le, i32_eq, i32_add, i32_mul, i32_sub, i32_neg, zrz_0, zrz_1, zif_t, zif_f, zsF_s, zsF_k, zsF_a, zsC_s, zsC_a, zsC_i, Int.add_zero, Int.zero_add, wv_72 S, wr_768 S, wr_769 S, wr_777 S, wr_785 S, wr_786 S, wr_787 S, wr_789 S, wr_790 S, wr_791 S, wr_802 S, wr_803 S, wr_804 S, wr_805 S, wr_806 S, wr_807 S, wr_809 S, wg_770 S, wp_770 S, wg_771 S, wp_771 S, wg_772 S, wp_772 S, wg_773 S, wp_773 S, wg_774 S, wp_774 S, wg_775 S, wp_775 S, wg_776 S, wp_776 S, wg_778 S, wp_778 S, wg_779 S, wp_779 S, wg_780 S, wp_780 S, wg_781 S, wp_781 S, wg_782 S, wp_782 S, wg_783 S, wp_783 S, wg_784 S, wp_784 S, wg_788 S, wp_788 S, wg_792 S, wp_792 S, wg_793 S, wp_793 S, wg_794 S, wp_794 S, wg_795 S, wp_795 S, wg_796 S, wp_796 S, wg_797 S, wp_797 S, wg_798 S, wp_798 S, wg_799 S, wp_799 S, wg_800 S, wp_800 S, wg_801 S, wp_801 S, wg_808 S, wp_808 S, wg_810 S, wp_810 S, wa_73 S, ws_73 S, e_Model_breathOf]
  rw [M.at (j := 16 + p) (by omega) (by omega) (by omega)]
theorem m_depthOf (S : St h) (M : moV F C D) (O : dOK D) {q : Int} (q0 : 0 ≤ q) (q1 : q < D 2) : zc 233 [zR (some 72), zI (i32 q)] (zw h F C) = some (zI (i32 (D (20 + 2 * q))), zw h F C) := by
  have b := O.2.2.1
  have m := M.1
  simp (disch := omega) only [if_true, if_false, not_true_eq_false, not_false_eq_true, zoI_s, zoR_s, zoH_s, zoL_s, zbI_s, zbV_s, zbR_s, zbL_s, zif_dec, i32_0, ne_eq, i32_lt, i32_le, i32_eq, i32_add, i32_mul, i32_sub, i32_neg, zrz_0, zrz_1, zif_t, zif_f, zsF_s, zsF_k, zsF_a, zsC_s, zsC_a, zsC_i, Int.add_zero, Int.zero_add, wv_72 S, wr_768 S, wr_769 S, wr_777 S, wr_785 S, wr_786 S, wr_787 S, wr_789 S, wr_790 S, wr_791 S, wr_802 S, wr_803 S, wr_804 S, wr_805 S, wr_806 S, wr_807 S, wr_809 S, wg_770 S, wp_770 S, wg_771 S, wp_771 S, wg_772 S, wp_772 S, wg_773 S, wp_773 S, wg_774 S, wp_774 S, wg_775 S, wp_775 S, wg_776 S, wp_776 S, wg_778 S, wp_778 S, wg_779 S, wp_779 S, wg_780 S, wp_780 S, wg_781 S, wp_781 S, wg_782 S, wp_782 S, wg_783 S, wp_783 S, wg_784 S, wp_784 S, wg_788 S, wp_788 S, wg_792 S, wp_792 S, wg_793 S, wp_793 S, wg_794 S, wp_794 S, wg_795 S, wp_795 S, wg_796 S, wp_796 S, wg_797 S, wp_797 S, wg_798 S, wp_798 S, wg_799 S, wp_799 S, wg_800 S, wp_800 S, wg_801 S, wp_801 S, wg_808 S, wp_808 S, wg_810 S, wp_810 S, wa_73 S, ws_73 S, e_Model_depthOf]
  rw [M.at (j := 20 + 2 * q) (by omega) (by omega) (by omega)]
theorem m_kindOf (S : St h) (M : moV F C D) (O : dOK D) {q : Int} (q0 : 0 ≤ q) (q1 : q < D 2) : zc 234 [zR (some 72), zI (i32 q)] (zw h F C) = some (zI (i32 (D (21 + 2 * q))), zw h F C) := by
  have b := O.2.2.1
  have m := M.1
  simp (disch := omega) only [if_true, if_false, not_true_eq_false, not_false_eq_true, zoI_s, zoR_s, zoH_s, zoL_s, zbI_s, zbV_s, zbR_s, zbL_s, zif_dec, i32_0, ne_eq, i32_lt, i32_le, i32_eq, i32_add, i32_mul, i32_sub, i32_neg, zrz_0, zrz_1, zif_t, zif_f, zsF_s, zsF_k, zsF_a, zsC_s, zsC_a, zsC_i, Int.add_zero, Int.zero_add, wv_72 S, wr_768 S, wr_769 S, wr_777 S, wr_785 S, wr_786 S, wr_787 S, wr_789 S, wr_790 S, wr_791 S, wr_802 S, wr_803 S, wr_804 S, wr_805 S, wr_806 S, wr_807 S, wr_809 S, wg_770 S, wp_770 S, wg_771 S, wp_771 S, wg_772 S, wp_772 S, wg_773 S, wp_773 S, wg_774 S, wp_774 S, wg_775 S, wp_775 S, wg_776 S, wp_776 S, wg_778 S, wp_778 S, wg_779 S, wp_779 S, wg_780 S, wp_780 S, wg_781 S, wp_781 S, wg_782 S, wp_782 S, wg_783 S, wp_783 S, wg_784 S, wp_784 S, wg_788 S, wp_788 S, wg_792 S, wp_792 S, wg_793 S, wp_793 S, wg_794 S, wp_794 S, wg_795 S, wp_795 S, wg_796 S, wp_796 S, wg_797 S, wp_797 S, wg_798 S, wp_798 S, wg_799 S, wp_799 S, wg_800 S, wp_800 S, wg_801 S, wp_801 S, wg_808 S, wp_808 S, wg_810 S, wp_810 S, wa_73 S, ws_73 S, e_Model_kindOf]
  rw [M.at (j := 21 + 2 * q) (by omega) (by omega) (by omega)]
theorem m_cold (M : moV F C D) : C 73 (F 778 72 + 3) = D 3 := M.2.2 3 (by omega) (by omega)
theorem m_lays (S : St h) (M : moV F C D) (O : dOK D) {r : Int} (r0 : 0 ≤ r) (r1 : r < D 0) : zc 236 [zR (some 72), zI (i32 r)] (zw h F C) = some (zI 0, zw h (mlF F (D (4 + 2 * r)) (D (5 + 2 * r)) (D 3)) C) := by
  have m := M.1
  have M1 : moV (zsF F 782 72 (D (4 + 2 * r))) C D := M
  have M2 : moV (zsF (zsF F 782 72 (D (4 + 2 * r))) 783 72 (D (5 + 2 * r))) C D := M
  simp (disch := omega) only [if_true, if_false, not_true_eq_false, not_false_eq_true, zoI_s, zoR_s, zoH_s, zoL_s, zbI_s, zbV_s, zbR_s, zbL_s, zif_dec, i32_0, ne_eq, i32_lt, i32_le, i32_eq, i32_add, i32_mul, i32_sub, i32_neg, zrz_0, zrz_1, zif_t, zif_f, zsF_s, zsF_k, zsF_a, zsC_s, zsC_a, zsC_i, Int.add_zero, Int.zero_add, wv_72 S, wr_768 S, wr_769 S, wr_777 S, wr_785 S, wr_786 S, wr_787 S, wr_789 S, wr_790 S, wr_791 S, wr_802 S, wr_803 S, wr_804 S, wr_805 S, wr_806 S, wr_807 S, wr_809 S, wg_770 S, wp_770 S, wg_771 S, wp_771 S, wg_772 S, wp_772 S, wg_773 S, wp_773 S, wg_774 S, wp_774 S, wg_775 S, wp_775 S, wg_776 S, wp_776 S, wg_778 S, wp_778 S, wg_779 S, wp_779 S, wg_780 S, wp_780 S, wg_781 S, wp_781 S, wg_782 S, wp_782 S, wg_783 S, wp_783 S, wg_784 S, wp_784 S, wg_788 S, wp_788 S, wg_792 S, wp_792 S, wg_793 S, wp_793 S, wg_794 S, wp_794 S, wg_795 S, wp_795 S, wg_796 S, wp_796 S, wg_797 S, wp_797 S, wg_798 S, wp_798 S, wg_799 S, wp_799 S, wg_800 S, wp_800 S, wg_801 S, wp_801 S, wg_808 S, wp_808 S, wg_810 S, wp_810 S, wa_73 S, ws_73 S, e_Model_lays, m_wetOf S M O r0 r1, m_keyOf S M1 O r0 r1, m_cold M]
  rfl
theorem m_noteOf (S : St h) (M : moV F C D) (O : dOK D) {p q : Int} (h1 : 0 ≤ F 782 72) (h2 : F 782 72 ≤ 9) (h3 : 0 ≤ F 783 72) (h4 : F 783 72 ≤ 7) (h5 : 0 ≤ F 784 72) (h6 : F 784 72 ≤ 9) (p0 : 0 ≤ p) (p1 : p < D 1) (q0 : 0 ≤ q) (q1 : q < D 2) : zc 237 [zR (some 72), zI (i32 p), zI (i32 q)] (zw h F C) = some (zI (i32 (noteS D (F 782 72) (F 783 72) (F 784 72) p q)), zw h F C) := by
  have b3 := O.2.2.2.2.2.2.1 p p0 p1
  have b4 := O.2.2.2.2.2.2.2.1 q q0 q1
  have b5 := O.2.2.2.2.2.2.2.2.1 q q0 q1
  unfold noteS
  by_cases c1 : F 782 72 + D (16 + p) < D (20 + 2 * q)
  · simp (disch := omega) only [if_true, if_false, not_true_eq_false, not_false_eq_true, zoI_s, zoR_s, zoH_s, zoL_s, zbI_s, zbV_s, zbR_s, zbL_s, zif_dec, i32_0, ne_eq, i32_lt, i32_le, i32_eq, i32_add, i32_mul, i32_sub, i32_neg, zrz_0, zrz_1, zif_t, zif_f, zsF_s, zsF_k, zsF_a, zsC_s, zsC_a, zsC_i, Int.add_zero, Int.zero_add, if_pos, if_neg, wv_72 S, wr_768 S, wr_769 S, wr_777 S, wr_785 S, wr_786 S, wr_787 S, wr_789 S, wr_790 S, wr_791 S, wr_802 S, wr_803 S, wr_804 S, wr_805 S, wr_806 S, wr_807 S, wr_809 S, wg_770 S, wp_770 S, wg_771 S, wp_771 S, wg_772 S, wp_772 S, wg_773 S, wp_773 S, wg_774 S, wp_774 S, wg_775 S, wp_775 S, wg_776 S, wp_776 S, wg_778 S, wp_778 S, wg_779 S, wp_779 S, wg_780 S, wp_780 S, wg_781 S, wp_781 S, wg_782 S, wp_782 S, wg_783 S, wp_783 S, wg_784 S, wp_784 S, wg_788 S, wp_788 S, wg_792 S, wp_792 S, wg_793 S, wp_793 S, wg_794 S, wp_794 S, wg_795 S, wp_795 S, wg_796 S, wp_796 S, wg_797 S, wp_797 S, wg_798 S, wp_798 S, wg_799 S, wp_799 S, wg_800 S, wp_800 S, wg_801 S, wp_801 S, wg_808 S, wp_808 S, wg_810 S, wp_810 S, e_Model_noteOf, m_depthOf S M O q0 q1, m_breathOf S M O p0 p1, m_kindOf S M O q0 q1, i32_rem]
  · simp (disch := omega) only [if_true, if_false, not_true_eq_false, not_false_eq_true, zoI_s, zoR_s, zoH_s, zoL_s, zbI_s, zbV_s, zbR_s, zbL_s, zif_dec, i32_0, ne_eq, i32_lt, i32_le, i32_eq, i32_add, i32_mul, i32_sub, i32_neg, zrz_0, zrz_1, zif_t, zif_f, zsF_s, zsF_k, zsF_a, zsC_s, zsC_a, zsC_i, Int.add_zero, Int.zero_add, if_pos, if_neg, wv_72 S, wr_768 S, wr_769 S, wr_777 S, wr_785 S, wr_786 S, wr_787 S, wr_789 S, wr_790 S, wr_791 S, wr_802 S, wr_803 S, wr_804 S, wr_805 S, wr_806 S, wr_807 S, wr_809 S, wg_770 S, wp_770 S, wg_771 S, wp_771 S, wg_772 S, wp_772 S, wg_773 S, wp_773 S, wg_774 S, wp_774 S, wg_775 S, wp_775 S, wg_776 S, wp_776 S, wg_778 S, wp_778 S, wg_779 S, wp_779 S, wg_780 S, wp_780 S, wg_781 S, wp_781 S, wg_782 S, wp_782 S, wg_783 S, wp_783 S, wg_784 S, wp_784 S, wg_788 S, wp_788 S, wg_792 S, wp_792 S, wg_793 S, wp_793 S, wg_794 S, wp_794 S, wg_795 S, wp_795 S, wg_796 S, wp_796 S, wg_797 S, wp_797 S, wg_798 S, wp_798 S, wg_799 S, wp_799 S, wg_800 S, wp_800 S, wg_801 S, wp_801 S, wg_808 S, wp_808 S, wg_810 S, wp_810 S, e_Model_noteOf, m_depthOf S M O q0 q1, m_breathOf S M O p0 p1, m_kindOf S M O q0 q1, i32_rem]
theorem m_meant (S : St h) (M : moV F C D) {n : Int} (h1 : -1 ≤ n) (h2 : n ≤ 7) : zc 238 [zR (some 72), zI (i32 n)] (zw h F C) = some (zI (i32 (meanS D n)), zw h F C) := by
  have m := M.1
  unfold meanS
  by_cases c : n < 0
  · simp (disch := omega) only [if_true, if_false, not_true_eq_false, not_false_eq_true, zoI_s, zoR_s, zoH_s, zoL_s, zbI_s, zbV_s, zbR_s, zbL_s, zif_dec, i32_0, ne_eq, i32_lt, i32_le, i32_eq, i32_add, i32_mul, i32_sub, i32_neg, zrz_0, zrz_1, zif_t, zif_f, zsF_s, zsF_k, zsF_a, zsC_s, zsC_a, zsC_i, Int.add_zero, Int.zero_add, if_pos, if_neg, wv_72 S, wr_768 S, wr_769 S, wr_777 S, wr_785 S, wr_786 S, wr_787 S, wr_789 S, wr_790 S, wr_791 S, wr_802 S, wr_803 S, wr_804 S, wr_805 S, wr_806 S, wr_807 S, wr_809 S, wg_770 S, wp_770 S, wg_771 S, wp_771 S, wg_772 S, wp_772 S, wg_773 S, wp_773 S, wg_774 S, wp_774 S, wg_775 S, wp_775 S, wg_776 S, wp_776 S, wg_778 S, wp_778 S, wg_779 S, wp_779 S, wg_780 S, wp_780 S, wg_781 S, wp_781 S, wg_782 S, wp_782 S, wg_783 S, wp_783 S, wg_784 S, wp_784 S, wg_788 S, wp_788 S, wg_792 S, wp_792 S, wg_793 S, wp_793 S, wg_794 S, wp_794 S, wg_795 S, wp_795 S, wg_796 S, wp_796 S, wg_797 S, wp_797 S, wg_798 S, wp_798 S, wg_799 S, wp_799 S, wg_800 S, wp_800 S, wg_801 S, wp_801 S, wg_808 S, wp_808 S, wg_810 S, wp_810 S, e_Model_meant]
  · simp (disch := omega) only [if_true, if_false, not_true_eq_false, not_false_eq_true, zoI_s, zoR_s, zoH_s, zoL_s, zbI_s, zbV_s, zbR_s, zbL_s, zif_dec, i32_0, ne_eq, i32_lt, i32_le, i32_eq, i32_add, i32_mul, i32_sub, i32_neg, zrz_0, zrz_1, zif_t, zif_f, zsF_s, zsF_k, zsF_a, zsC_s, zsC_a, zsC_i, Int.add_zero, Int.zero_add, if_pos, if_neg, wv_72 S, wr_768 S, wr_769 S, wr_777 S, wr_785 S, wr_786 S, wr_787 S, wr_789 S, wr_790 S, wr_791 S, wr_802 S, wr_803 S, wr_804 S, wr_805 S, wr_806 S, wr_807 S, wr_809 S, wg_770 S, wp_770 S, wg_771 S, wp_771 S, wg_772 S, wp_772 S, wg_773 S, wp_773 S, wg_774 S, wp_774 S, wg_775 S, wp_775 S, wg_776 S, wp_776 S, wg_778 S, wp_778 S, wg_779 S, wp_779 S, wg_780 S, wp_780 S, wg_781 S, wp_781 S, wg_782 S, wp_782 S, wg_783 S, wp_783 S, wg_784 S, wp_784 S, wg_788 S, wp_788 S, wg_792 S, wp_792 S, wg_793 S, wp_793 S, wg_794 S, wp_794 S, wg_795 S, wp_795 S, wg_796 S, wp_796 S, wg_797 S, wp_797 S, wg_798 S, wp_798 S, wg_799 S, wp_799 S, wg_800 S, wp_800 S, wg_801 S, wp_801 S, wg_808 S, wp_808 S, wg_810 S, wp_810 S, wa_73 S, ws_73 S, e_Model_meant]
    rw [M.at (j := 36 + n) (by omega) (by omega) (by omega)]
theorem m_answerOf (S : St h) (M : moV F C D) (O : dOK D) {p q : Int} (h1 : 0 ≤ F 782 72) (h2 : F 782 72 ≤ 9) (h3 : 0 ≤ F 783 72) (h4 : F 783 72 ≤ 7) (h5 : 0 ≤ F 784 72) (h6 : F 784 72 ≤ 9) (p0 : 0 ≤ p) (p1 : p < D 1) (q0 : 0 ≤ q) (q1 : q < D 2) : zc 239 [zR (some 72), zI (i32 p), zI (i32 q)] (zw h F C) = some (zI (i32 (meanS D (noteS D (F 782 72) (F 783 72) (F 784 72) p q))), zw h F C) := by
  simp (disch := omega) only [if_true, if_false, not_true_eq_false, not_false_eq_true, zoI_s, zoR_s, zoH_s, zoL_s, zbI_s, zbV_s, zbR_s, zbL_s, zif_dec, i32_0, ne_eq, i32_lt, i32_le, i32_eq, i32_add, i32_mul, i32_sub, i32_neg, zrz_0, zrz_1, zif_t, zif_f, zsF_s, zsF_k, zsF_a, zsC_s, zsC_a, zsC_i, Int.add_zero, Int.zero_add, wv_72 S, wr_768 S, wr_769 S, wr_777 S, wr_785 S, wr_786 S, wr_787 S, wr_789 S, wr_790 S, wr_791 S, wr_802 S, wr_803 S, wr_804 S, wr_805 S, wr_806 S, wr_807 S, wr_809 S, wg_770 S, wp_770 S, wg_771 S, wp_771 S, wg_772 S, wp_772 S, wg_773 S, wp_773 S, wg_774 S, wp_774 S, wg_775 S, wp_775 S, wg_776 S, wp_776 S, wg_778 S, wp_778 S, wg_779 S, wp_779 S, wg_780 S, wp_780 S, wg_781 S, wp_781 S, wg_782 S, wp_782 S, wg_783 S, wp_783 S, wg_784 S, wp_784 S, wg_788 S, wp_788 S, wg_792 S, wp_792 S, wg_793 S, wp_793 S, wg_794 S, wp_794 S, wg_795 S, wp_795 S, wg_796 S, wp_796 S, wg_797 S, wp_797 S, wg_798 S, wp_798 S, wg_799 S, wp_799 S, wg_800 S, wp_800 S, wg_801 S, wp_801 S, wg_808 S, wp_808 S, wg_810 S, wp_810 S, e_Model_answerOf, m_noteOf S M O h1 h2 h3 h4 h5 h6 p0 p1 q0 q1, m_meant S M noteS_rng.1 noteS_rng.2]
/-- as the reed r is laid out -/
theorem m_nte (S : St h) (M : moV F C D) (O : dOK D) {r p q : Int} (r0 : 0 ≤ r) (r1 : r < D 0) (p0 : 0 ≤ p) (p1 : p < D 1) (q0 : 0 ≤ q) (q1 : q < D 2) : zc 237 [zR (some 72), zI (i32 p), zI (i32 q)] (zw h (mlF F (D (4 + 2 * r)) (D (5 + 2 * r)) (D 3)) C) = some (zI (i32 (nteS D r p q)), zw h (mlF F (D (4 + 2 * r)) (D (5 + 2 * r)) (D 3)) C) :=
  m_noteOf S (M.ml _ _ _) O (O.2.2.2.2.1 r r0 r1).1 (O.2.2.2.2.1 r r0 r1).2 (O.2.2.2.2.2.1 r r0 r1).1 (O.2.2.2.2.2.1 r r0 r1).2 O.2.2.2.1.1 O.2.2.2.1.2 p0 p1 q0 q1
theorem m_ans (S : St h) (M : moV F C D) (O : dOK D) {r p q : Int} (r0 : 0 ≤ r) (r1 : r < D 0) (p0 : 0 ≤ p) (p1 : p < D 1) (q0 : 0 ≤ q) (q1 : q < D 2) : zc 239 [zR (some 72), zI (i32 p), zI (i32 q)] (zw h (mlF F (D (4 + 2 * r)) (D (5 + 2 * r)) (D 3)) C) = some (zI (i32 (ansS D r p q)), zw h (mlF F (D (4 + 2 * r)) (D (5 + 2 * r)) (D 3)) C) :=
  m_answerOf S (M.ml _ _ _) O (O.2.2.2.2.1 r r0 r1).1 (O.2.2.2.2.1 r r0 r1).2 (O.2.2.2.2.2.1 r r0 r1).1 (O.2.2.2.2.2.1 r r0 r1).2 O.2.2.2.1.1 O.2.2.2.1.2 p0 p1 q0 q1
end MO
