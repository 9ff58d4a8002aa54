/-! the class's deeds, one by one and all of a year -/
theorem zif_p {p : Prop} [Decidable p] {a b : Option zRes} (hp : p) : zif (decide p) a b = a := by rw [zif_dec, if_pos hp]
theorem zif_n {p : Prop} [Decidable p] {a b : Option zRes} (hp : ¬ p) : zif (decide p) a b = b := by rw [zif_dec, if_neg hp]
theorem nz1 : ¬ (i32 1 = (0 : Int32)) := by decide
theorem z00 : i32 0 = (0 : Int32) := rfl
section C2
variable {h : zHeap} {F0 F : Nat → Nat → Int} {C0 C X : Nat → Int → Int} {a y : Nat} {D Y : Int → Int} {B : Int}
theorem c_cell (Hy : yeS h y) (Vy : yeV F C y Y) (Oy : yOK Y) {k w j : Int} (k0 : 0 ≤ k) (k1 : k < Y 0) (w0 : 0 ≤ w) (w1 : w < 6) (hj : j = 1 + w + 6 * k) : zc 147 [zR (some y), zI (i32 k), zI (i32 w)] (zw h F C) = some (zI (i32 (Y j)), zw h F C) := by
  have b := Oy.1
  have e := Vy.2 (k * 6 + w) (by omega) (by omega)
  simp (disch := omega) only [if_true, if_false, not_true_eq_false, not_false_eq_true, zoI_s, zoR_s, zoH_s, zoL_s, zbI_s, zbV_s, zbR_s, zbL_s, zif_dec, i32_0, ne_eq, i32_lt, i32_le, i32_eq, i32_add, i32_mul, i32_sub, i32_neg, zrz_0, zrz_1, zif_t, zif_f, zsF_s, zsF_k, zsF_a, zsC_s, zsC_a, zsC_i, zsW_s, zsW_a, Int.add_zero, Int.zero_add, true_and, false_and, and_false, Bool.false_eq_true, decide_true, decide_false, Bool.true_and, Bool.false_and, Bool.true_or, Bool.false_or, sub1, and_true, if_pos, if_neg, yv Hy, yg_640 Hy, yr_641 Hy, ya_641 Hy, e_Year_cell, e]
  rw [show 1 + (k * 6 + w) = j by omega]
theorem c_ask0 (S : St h) (H : duS h a) (V : duV F0 C0 a D) (O : dOK D) (ha : a ≤ 28) (R : crC F0 C0 D F C X) (K : cOK D X B) {r p q : Int} (r0 : -5 ≤ r) (r1 : r ≤ 1000) (p0 : -5 ≤ p) (p1 : p ≤ 1000) (q0 : -5 ≤ q) (q1 : q ≤ 1000) (hn : ¬ (sndP D X r ∧ mayP D X p ∧ (0 ≤ q ∧ q < D 2))) : zc 17 [zR (some 50), zR (some a), zI (i32 r), zI (i32 p), zI (i32 q)] (zw h F C) = some (zI (i32 0), zw h F C) := by
  have V1 := V.tq R.1 ha
  unfold sndP mayP at hn
  rw [e_Course_ask]
  by_cases c1 : (0 ≤ r ∧ r < D 0) ∧ bitI (X 0 1) r = 0
  · by_cases c2 : (0 ≤ p ∧ p < D 1) ∧ X 3 p < 3
    · have c3 : ¬ (0 ≤ q ∧ q < D 2) := fun z => hn ⟨c1, c2, z⟩
      simp (disch := omega) only [if_true, if_false, not_true_eq_false, not_false_eq_true, zoI_s, zoR_s, zoH_s, zoL_s, zbI_s, zbV_s, zbR_s, zbL_s, zif_dec, i32_0, ne_eq, i32_lt, i32_le, i32_eq, i32_add, i32_mul, i32_sub, i32_neg, zrz_0, zrz_1, zif_t, zif_f, zsF_s, zsF_k, zsF_a, zsC_s, zsC_a, zsC_i, zsW_s, zsW_a, Int.add_zero, Int.zero_add, true_and, false_and, and_false, Bool.false_eq_true, decide_true, decide_false, Bool.true_and, Bool.false_and, Bool.true_or, Bool.false_or, sub1, and_true, if_pos, if_neg, wv_50 S, wr_66 S, wr_67 S, wr_68 S, wr_69 S, wr_70 S, wr_71 S, wg_64 S, wp_64 S, wg_65 S, wp_65 S, wg_72 S, wp_72 S, wg_73 S, wp_73 S, wg_74 S, wp_74 S, wg_75 S, wp_75 S, wg_76 S, wp_76 S, wg_77 S, wp_77 S, wg_78 S, wp_78 S, wg_79 S, wp_79 S, wg_80 S, wp_80 S, c_isSound S H V O ha R K, c_mayPlay S H V O ha R K, dv H, dg_128 H, dp_128 H, dg_129 H, dp_129 H, dg_130 H, dp_130 H, dg_131 H, dp_131 H, dr_132 H, da_132 H, dr_133 H, da_133 H, dr_134 H, da_134 H, dr_135 H, da_135 H, dr_136 H, da_136 H, dr_137 H, da_137 H, c_hasQuestion H V1 O, ib_0]
    · simp (disch := omega) only [if_true, if_false, not_true_eq_false, not_false_eq_true, zoI_s, zoR_s, zoH_s, zoL_s, zbI_s, zbV_s, zbR_s, zbL_s, zif_dec, i32_0, ne_eq, i32_lt, i32_le, i32_eq, i32_add, i32_mul, i32_sub, i32_neg, zrz_0, zrz_1, zif_t, zif_f, zsF_s, zsF_k, zsF_a, zsC_s, zsC_a, zsC_i, zsW_s, zsW_a, Int.add_zero, Int.zero_add, true_and, false_and, and_false, Bool.false_eq_true, decide_true, decide_false, Bool.true_and, Bool.false_and, Bool.true_or, Bool.false_or, sub1, and_true, if_pos, if_neg, wv_50 S, wr_66 S, wr_67 S, wr_68 S, wr_69 S, wr_70 S, wr_71 S, wg_64 S, wp_64 S, wg_65 S, wp_65 S, wg_72 S, wp_72 S, wg_73 S, wp_73 S, wg_74 S, wp_74 S, wg_75 S, wp_75 S, wg_76 S, wp_76 S, wg_77 S, wp_77 S, wg_78 S, wp_78 S, wg_79 S, wp_79 S, wg_80 S, wp_80 S, c_isSound S H V O ha R K, c_mayPlay S H V O ha R K, dv H, dg_128 H, dp_128 H, dg_129 H, dp_129 H, dg_130 H, dp_130 H, dg_131 H, dp_131 H, dr_132 H, da_132 H, dr_133 H, da_133 H, dr_134 H, da_134 H, dr_135 H, da_135 H, dr_136 H, da_136 H, dr_137 H, da_137 H, ib_0]
  · simp (disch := omega) only [if_true, if_false, not_true_eq_false, not_false_eq_true, zoI_s, zoR_s, zoH_s, zoL_s, zbI_s, zbV_s, zbR_s, zbL_s, zif_dec, i32_0, ne_eq, i32_lt, i32_le, i32_eq, i32_add, i32_mul, i32_sub, i32_neg, zrz_0, zrz_1, zif_t, zif_f, zsF_s, zsF_k, zsF_a, zsC_s, zsC_a, zsC_i, zsW_s, zsW_a, Int.add_zero, Int.zero_add, true_and, false_and, and_false, Bool.false_eq_true, decide_true, decide_false, Bool.true_and, Bool.false_and, Bool.true_or, Bool.false_or, sub1, and_true, if_pos, if_neg, wv_50 S, wr_66 S, wr_67 S, wr_68 S, wr_69 S, wr_70 S, wr_71 S, wg_64 S, wp_64 S, wg_65 S, wp_65 S, wg_72 S, wp_72 S, wg_73 S, wp_73 S, wg_74 S, wp_74 S, wg_75 S, wp_75 S, wg_76 S, wp_76 S, wg_77 S, wp_77 S, wg_78 S, wp_78 S, wg_79 S, wp_79 S, wg_80 S, wp_80 S, c_isSound S H V O ha R K, dv H, dg_128 H, dp_128 H, dg_129 H, dp_129 H, dg_130 H, dp_130 H, dg_131 H, dp_131 H, dr_132 H, da_132 H, dr_133 H, da_133 H, dr_134 H, da_134 H, dr_135 H, da_135 H, dr_136 H, da_136 H, dr_137 H, da_137 H, ib_0]
theorem c_duet (S : St h) (H : duS h a) (V : duV F0 C0 a D) (O : dOK D) (ha : a ≤ 28) (Hy : yeS h y) (Vy : yeV F0 C0 y Y) (Oy : yOK Y) (hy : y ≤ 33) (R : crC F0 C0 D F C X) (K : cOK D X B) {k u b p s q : Int} (k0 : 0 ≤ k) (k1 : k < Y 0) (e1 : Y (2 + 6 * k) = u) (e2 : Y (3 + 6 * k) = b) (e3 : Y (4 + 6 * k) = p) (e4 : Y (5 + 6 * k) = s) (e5 : Y (6 + 6 * k) = q) (hu : sndP D X u) (hb : sndP D X b) (hp : mayP D X p) (hs : mayP D X s) (hub : u ≠ b) (hps : p ≠ s) (q0 : 0 ≤ q) (q1 : q < D 2) (hB : B ≤ 1000) : ∃ F' C', zc 18 [zR (some 50), zR (some a), zR (some y), zI (i32 k)] (zw h F C) = some (zI (i32 1), zw h F' C') ∧ crC F0 C0 D F' C' (dueX D X u b p s q) := by
  have Vy1 := Vy.tq R.1 hy
  have V0 := V.tq R.1 ha
  have b0 := O.1
  have b1 := O.2.1
  have b2 := O.2.2.1
  have g1 := c_cell Hy Vy1 Oy (w := 1) (j := 2 + 6 * k) k0 k1 (by omega) (by omega) (by omega)
  have g2 := c_cell Hy Vy1 Oy (w := 2) (j := 3 + 6 * k) k0 k1 (by omega) (by omega) (by omega)
  have g3 := c_cell Hy Vy1 Oy (w := 3) (j := 4 + 6 * k) k0 k1 (by omega) (by omega) (by omega)
  have g4 := c_cell Hy Vy1 Oy (w := 4) (j := 5 + 6 * k) k0 k1 (by omega) (by omega) (by omega)
  have g5 := c_cell Hy Vy1 Oy (w := 5) (j := 6 + 6 * k) k0 k1 (by omega) (by omega) (by omega)
  rw [e1] at g1
  rw [e2] at g2
  rw [e3] at g3
  rw [e4] at g4
  rw [e5] at g5
  have u1 : (0 ≤ u ∧ u < D 0) ∧ bitI (X 0 1) u = 0 := hu
  have u2 : (0 ≤ b ∧ b < D 0) ∧ bitI (X 0 1) b = 0 := hb
  have u3 : (0 ≤ p ∧ p < D 1) ∧ X 3 p < 3 := hp
  have u4 : (0 ≤ s ∧ s < D 1) ∧ X 3 s < 3 := hs
  have kq := (K.2.2.2.2.2.2.2.2.2.2.2.2 q q0 (by omega)).2.1
  have k3 := K.2.2.2.1
  have k4 := K.2.2.2.2.1
  have eq5 : C 55 q = X 5 q := (R.2.2.2.2 q q0 (by omega)).2
  have ef3 : F 75 50 = X 0 3 := R.2.1.2.2.2.1
  have ef4 : F 76 50 = X 0 4 := R.2.1.2.2.2.2.1
  have R1 := R.w55 q (X 5 q + 1)
  have K1 : cOK D (zsC X 5 q (X 5 q + 1)) (B + 1) := (K.mono (by omega)).w5 (by omega) q1
  obtain ⟨C2, eb1, R2⟩ := c_blow S H V O ha R1 K1 hu.1.1 hu.1.2 hp.1.1 hp.1.2 q0 q1
  have K2 : cOK D (blwX (zsC X 5 q (X 5 q + 1)) u p) (B + 1 + 1) := K1.blw O hu.1.1 hu.1.2 hp
  obtain ⟨C3, eb2, R3⟩ := c_blow S H V O ha R2 K2 hb.1.1 hb.1.2 hs.1.1 hs.1.2 q0 q1
  have n1 : blwN D (zsC X 5 q (X 5 q + 1)) u p q = blwN D X u p q := rfl
  have n2 : blwN D (blwX (zsC X 5 q (X 5 q + 1)) u p) b s q = blwN D X b s q := by
    have z : blwX (zsC X 5 q (X 5 q + 1)) u p 1 b = X 1 b := by unfold blwX; simp (disch := omega) only [if_true, if_false, not_true_eq_false, not_false_eq_true, zoI_s, zoR_s, zoH_s, zoL_s, zbI_s, zbV_s, zbR_s, zbL_s, zif_dec, i32_0, ne_eq, i32_lt, i32_le, i32_eq, i32_add, i32_mul, i32_sub, i32_neg, zrz_0, zrz_1, zif_t, zif_f, zsF_s, zsF_k, zsF_a, zsC_s, zsC_a, zsC_i, zsW_s, zsW_a, Int.add_zero, Int.zero_add, true_and, false_and, and_false, Bool.false_eq_true, decide_true, decide_false, Bool.true_and, Bool.false_and, Bool.true_or, Bool.false_or, sub1, and_true, if_pos, if_neg]
    unfold blwN
    rw [z]
    rfl
  rw [n1] at eb1
  rw [n2] at eb2
  have V2 := V.tq R2.1 ha
  have V3 := V.tq R3.1 ha
  have nr1 := blw_rng D X u p q
  have nr2 := blw_rng D X b s q
  have m1 := c_meaning H V2 nr1.1 nr1.2
  have m2 := c_meaning H V3 nr2.1 nr2.2
  have mr1 := meanS_rng O nr1.2
  have mr2 := meanS_rng O nr2.2
  unfold dueX
  generalize meanS D (blwN D X u p q) = v1 at *
  generalize meanS D (blwN D X b s q) = v2 at *
  have f1 := c_isSound S H V O ha R K (r := u) (by omega) (by omega)
  have f2 := c_isSound S H V O ha R K (r := b) (by omega) (by omega)
  have f3 := c_mayPlay S H V O ha R K (p := p) (by omega) (by omega)
  have f4 := c_mayPlay S H V O ha R K (p := s) (by omega) (by omega)
  have f5 := c_hasQuestion H V0 O (x := q) (by omega) (by omega)
  rw [if_pos u1] at f1
  rw [if_pos u2] at f2
  rw [if_pos u3] at f3
  rw [if_pos u4] at f4
  rw [if_pos ⟨q0, q1⟩] at f5
  rw [e_Course_duet, yv Hy, g1, zbI_s, yv Hy, g2, zbI_s, yv Hy, g3, zbI_s, yv Hy, g4, zbI_s, yv Hy, g5, zbI_s, wv_50 S, f1, zbI_s, zif_n nz1, wv_50 S, f2, zbI_s, zif_n nz1, wv_50 S, f3, zbI_s, zif_n nz1, wv_50 S, f4, zbI_s, zif_p nz1, dv H, f5, zbI_s, zif_p nz1, wr_70 S, zoR_s, wa_55 S q0 (by omega), zoI_s, eq5, i32_add, ws_55 S q0 (by omega), zoH_s, wv_50 S, eb1, zbI_s, dv H, m1, zbI_s, wv_50 S, eb2, zbI_s, dv H, m2, zbI_s]
  clear f1 f2 f3 f4 f5 g1 g2 g3 g4 g5 eb1 eb2 m1 m2
  by_cases c1 : v1 ≠ -1 ∧ v1 = v2
  · rw [if_pos c1]
    refine ⟨_, _, ?_, R3.f75 (X 0 3 + 1)⟩
    simp (disch := omega) only [if_true, if_false, not_true_eq_false, not_false_eq_true, zoI_s, zoR_s, zoH_s, zoL_s, zbI_s, zbV_s, zbR_s, zbL_s, zif_dec, i32_0, ne_eq, i32_lt, i32_le, i32_eq, i32_add, i32_mul, i32_sub, i32_neg, zrz_0, zrz_1, zif_t, zif_f, zsF_s, zsF_k, zsF_a, zsC_s, zsC_a, zsC_i, zsW_s, zsW_a, Int.add_zero, Int.zero_add, true_and, false_and, and_false, Bool.false_eq_true, decide_true, decide_false, Bool.true_and, Bool.false_and, Bool.true_or, Bool.false_or, sub1, and_true, if_pos, if_neg, wv_50 S, wr_66 S, wr_67 S, wr_68 S, wr_69 S, wr_70 S, wr_71 S, wg_64 S, wp_64 S, wg_65 S, wp_65 S, wg_72 S, wp_72 S, wg_73 S, wp_73 S, wg_74 S, wp_74 S, wg_75 S, wp_75 S, wg_76 S, wp_76 S, wg_77 S, wp_77 S, wg_78 S, wp_78 S, wg_79 S, wp_79 S, wg_80 S, wp_80 S, ib_0, ef3, ef4, c_areOpposed]
  · rw [if_neg c1]
    by_cases c2 : (0 ≤ v1 ∧ v1 ≤ 1) ∧ v2 = 1 - v1
    · rw [if_pos c2]
      refine ⟨_, _, ?_, R3.f76 (X 0 4 + 1)⟩
      simp (disch := omega) only [if_true, if_false, not_true_eq_false, not_false_eq_true, zoI_s, zoR_s, zoH_s, zoL_s, zbI_s, zbV_s, zbR_s, zbL_s, zif_dec, i32_0, ne_eq, i32_lt, i32_le, i32_eq, i32_add, i32_mul, i32_sub, i32_neg, zrz_0, zrz_1, zif_t, zif_f, zsF_s, zsF_k, zsF_a, zsC_s, zsC_a, zsC_i, zsW_s, zsW_a, Int.add_zero, Int.zero_add, true_and, false_and, and_false, Bool.false_eq_true, decide_true, decide_false, Bool.true_and, Bool.false_and, Bool.true_or, Bool.false_or, sub1, and_true, if_pos, if_neg, wv_50 S, wr_66 S, wr_67 S, wr_68 S, wr_69 S, wr_70 S, wr_71 S, wg_64 S, wp_64 S, wg_65 S, wp_65 S, wg_72 S, wp_72 S, wg_73 S, wp_73 S, wg_74 S, wp_74 S, wg_75 S, wp_75 S, wg_76 S, wp_76 S, wg_77 S, wp_77 S, wg_78 S, wp_78 S, wg_79 S, wp_79 S, wg_80 S, wp_80 S, ib_0, ef3, ef4, c_areOpposed]
    · rw [if_neg c2]
      refine ⟨F, C3, ?_, R3⟩
      by_cases c3 : v1 = -1
      · simp (disch := omega) only [if_true, if_false, not_true_eq_false, not_false_eq_true, zoI_s, zoR_s, zoH_s, zoL_s, zbI_s, zbV_s, zbR_s, zbL_s, zif_dec, i32_0, ne_eq, i32_lt, i32_le, i32_eq, i32_add, i32_mul, i32_sub, i32_neg, zrz_0, zrz_1, zif_t, zif_f, zsF_s, zsF_k, zsF_a, zsC_s, zsC_a, zsC_i, zsW_s, zsW_a, Int.add_zero, Int.zero_add, true_and, false_and, and_false, Bool.false_eq_true, decide_true, decide_false, Bool.true_and, Bool.false_and, Bool.true_or, Bool.false_or, sub1, and_true, if_pos, if_neg, wv_50 S, wr_66 S, wr_67 S, wr_68 S, wr_69 S, wr_70 S, wr_71 S, wg_64 S, wp_64 S, wg_65 S, wp_65 S, wg_72 S, wp_72 S, wg_73 S, wp_73 S, wg_74 S, wp_74 S, wg_75 S, wp_75 S, wg_76 S, wp_76 S, wg_77 S, wp_77 S, wg_78 S, wp_78 S, wg_79 S, wp_79 S, wg_80 S, wp_80 S, ib_0, ef3, ef4, c_areOpposed]
      · simp (disch := omega) only [if_true, if_false, not_true_eq_false, not_false_eq_true, zoI_s, zoR_s, zoH_s, zoL_s, zbI_s, zbV_s, zbR_s, zbL_s, zif_dec, i32_0, ne_eq, i32_lt, i32_le, i32_eq, i32_add, i32_mul, i32_sub, i32_neg, zrz_0, zrz_1, zif_t, zif_f, zsF_s, zsF_k, zsF_a, zsC_s, zsC_a, zsC_i, zsW_s, zsW_a, Int.add_zero, Int.zero_add, true_and, false_and, and_false, Bool.false_eq_true, decide_true, decide_false, Bool.true_and, Bool.false_and, Bool.true_or, Bool.false_or, sub1, and_true, if_pos, if_neg, wv_50 S, wr_66 S, wr_67 S, wr_68 S, wr_69 S, wr_70 S, wr_71 S, wg_64 S, wp_64 S, wg_65 S, wp_65 S, wg_72 S, wp_72 S, wg_73 S, wp_73 S, wg_74 S, wp_74 S, wg_75 S, wp_75 S, wg_76 S, wp_76 S, wg_77 S, wp_77 S, wg_78 S, wp_78 S, wg_79 S, wp_79 S, wg_80 S, wp_80 S, ib_0, ef3, ef4, c_areOpposed]
theorem c_duet0 (S : St h) (H : duS h a) (V : duV F0 C0 a D) (O : dOK D) (ha : a ≤ 28) (Hy : yeS h y) (Vy : yeV F0 C0 y Y) (Oy : yOK Y) (hy : y ≤ 33) (R : crC F0 C0 D F C X) (K : cOK D X B) {k u b p s q : Int} (k0 : 0 ≤ k) (k1 : k < Y 0) (e1 : Y (2 + 6 * k) = u) (e2 : Y (3 + 6 * k) = b) (e3 : Y (4 + 6 * k) = p) (e4 : Y (5 + 6 * k) = s) (e5 : Y (6 + 6 * k) = q) (hn : ¬ (sndP D X u ∧ sndP D X b ∧ mayP D X p ∧ mayP D X s ∧ (0 ≤ q ∧ q < D 2))) : zc 18 [zR (some 50), zR (some a), zR (some y), zI (i32 k)] (zw h F C) = some (zI (i32 0), zw h F C) := by
  have Vy1 := Vy.tq R.1 hy
  have V0 := V.tq R.1 ha
  have yr := Oy.2 k k0 k1
  have g1 := c_cell Hy Vy1 Oy (w := 1) (j := 2 + 6 * k) k0 k1 (by omega) (by omega) (by omega)
  have g2 := c_cell Hy Vy1 Oy (w := 2) (j := 3 + 6 * k) k0 k1 (by omega) (by omega) (by omega)
  have g3 := c_cell Hy Vy1 Oy (w := 3) (j := 4 + 6 * k) k0 k1 (by omega) (by omega) (by omega)
  have g4 := c_cell Hy Vy1 Oy (w := 4) (j := 5 + 6 * k) k0 k1 (by omega) (by omega) (by omega)
  have g5 := c_cell Hy Vy1 Oy (w := 5) (j := 6 + 6 * k) k0 k1 (by omega) (by omega) (by omega)
  rw [e1] at g1 yr
  rw [e2] at g2 yr
  rw [e3] at g3 yr
  rw [e4] at g4 yr
  rw [e5] at g5 yr
  unfold sndP mayP at hn
  have f1 := c_isSound S H V O ha R K (r := u) (by omega) (by omega)
  have f2 := c_isSound S H V O ha R K (r := b) (by omega) (by omega)
  have f3 := c_mayPlay S H V O ha R K (p := p) (by omega) (by omega)
  have f4 := c_mayPlay S H V O ha R K (p := s) (by omega) (by omega)
  have f5 := c_hasQuestion H V0 O (x := q) (by omega) (by omega)
  rw [e_Course_duet, yv Hy, g1, zbI_s, yv Hy, g2, zbI_s, yv Hy, g3, zbI_s, yv Hy, g4, zbI_s, yv Hy, g5, zbI_s]
  by_cases c1 : (0 ≤ u ∧ u < D 0) ∧ bitI (X 0 1) u = 0
  · rw [if_pos c1] at f1
    rw [wv_50 S, f1, zbI_s, zif_n nz1]
    by_cases c2 : (0 ≤ b ∧ b < D 0) ∧ bitI (X 0 1) b = 0
    · rw [if_pos c2] at f2
      rw [wv_50 S, f2, zbI_s, zif_n nz1]
      by_cases c3 : (0 ≤ p ∧ p < D 1) ∧ X 3 p < 3
      · rw [if_pos c3] at f3
        rw [wv_50 S, f3, zbI_s, zif_n nz1]
        by_cases c4 : (0 ≤ s ∧ s < D 1) ∧ X 3 s < 3
        · have c5 : ¬ (0 ≤ q ∧ q < D 2) := fun z => hn ⟨c1, c2, c3, c4, z⟩
          rw [if_pos c4] at f4
          rw [if_neg c5] at f5
          rw [wv_50 S, f4, zbI_s, zif_p nz1, dv H, f5, zbI_s, zif_n (fun z => z z00), zrz_0]
        · rw [if_neg c4] at f4
          rw [wv_50 S, f4, zbI_s, zif_n (fun z => z z00), zrz_0]
      · rw [if_neg c3] at f3
        rw [wv_50 S, f3, zbI_s, zif_p z00, zrz_0]
    · rw [if_neg c2] at f2
      rw [wv_50 S, f2, zbI_s, zif_p z00, zrz_0]
  · rw [if_neg c1] at f1
    rw [wv_50 S, f1, zbI_s, zif_p z00, zrz_0]
theorem c_moisten (S : St h) (H : duS h a) (V : duV F0 C0 a D) (O : dOK D) (ha : a ≤ 28) (R : crC F0 C0 D F C X) (K : cOK D X B) {r : Int} (hr : sndP D X r) : ∃ C', zc 21 [zR (some 50), zR (some a), zI (i32 r)] (zw h F C) = some (zI (i32 1), zw h F C') ∧ crC F0 C0 D F C' (zsC X 1 r (wetS (X 1 r))) := by
  have b0 := O.1
  have u1 : (0 ≤ r ∧ r < D 0) ∧ bitI (X 0 1) r = 0 := hr
  have er := R.2.2.1 r hr.1.1 hr.1.2
  have kr := K.2.2.2.2.2.2.2.2.2.2.1 r hr.1.1 hr.1.2
  refine ⟨_, ?_, R.w51 r (wetS (X 1 r))⟩
  rw [e_Course_moisten]
  simp (disch := omega) only [if_true, if_false, not_true_eq_false, not_false_eq_true, zoI_s, zoR_s, zoH_s, zoL_s, zbI_s, zbV_s, zbR_s, zbL_s, zif_dec, i32_0, ne_eq, i32_lt, i32_le, i32_eq, i32_add, i32_mul, i32_sub, i32_neg, zrz_0, zrz_1, zif_t, zif_f, zsF_s, zsF_k, zsF_a, zsC_s, zsC_a, zsC_i, zsW_s, zsW_a, Int.add_zero, Int.zero_add, true_and, false_and, and_false, Bool.false_eq_true, decide_true, decide_false, Bool.true_and, Bool.false_and, Bool.true_or, Bool.false_or, sub1, and_true, if_pos, if_neg, wv_50 S, wr_66 S, wr_67 S, wr_68 S, wr_69 S, wr_70 S, wr_71 S, wg_64 S, wp_64 S, wg_65 S, wp_65 S, wg_72 S, wp_72 S, wg_73 S, wp_73 S, wg_74 S, wp_74 S, wg_75 S, wp_75 S, wg_76 S, wp_76 S, wg_77 S, wp_77 S, wg_78 S, wp_78 S, wg_79 S, wp_79 S, wg_80 S, wp_80 S, c_isSound S H V O ha R K, ib_0, wa_51 S, ws_51 S, er.1, c_wetted]
theorem c_trim (S : St h) (H : duS h a) (V : duV F0 C0 a D) (O : dOK D) (ha : a ≤ 28) (R : crC F0 C0 D F C X) (K : cOK D X B) {r : Int} (hr : sndP D X r) : ∃ C', zc 22 [zR (some 50), zR (some a), zI (i32 r)] (zw h F C) = some (zI (i32 1), zw h F C') ∧ crC F0 C0 D F C' (zsC X 2 r ((X 2 r + 1) % 8)) := by
  have b0 := O.1
  have u1 : (0 ≤ r ∧ r < D 0) ∧ bitI (X 0 1) r = 0 := hr
  have er := R.2.2.1 r hr.1.1 hr.1.2
  have kr := K.2.2.2.2.2.2.2.2.2.2.1 r hr.1.1 hr.1.2
  refine ⟨_, ?_, R.w52 r ((X 2 r + 1) % 8)⟩
  rw [e_Course_trim]
  simp (disch := omega) only [if_true, if_false, not_true_eq_false, not_false_eq_true, zoI_s, zoR_s, zoH_s, zoL_s, zbI_s, zbV_s, zbR_s, zbL_s, zif_dec, i32_0, ne_eq, i32_lt, i32_le, i32_eq, i32_add, i32_mul, i32_sub, i32_neg, zrz_0, zrz_1, zif_t, zif_f, zsF_s, zsF_k, zsF_a, zsC_s, zsC_a, zsC_i, zsW_s, zsW_a, Int.add_zero, Int.zero_add, true_and, false_and, and_false, Bool.false_eq_true, decide_true, decide_false, Bool.true_and, Bool.false_and, Bool.true_or, Bool.false_or, sub1, and_true, if_pos, if_neg, wv_50 S, wr_66 S, wr_67 S, wr_68 S, wr_69 S, wr_70 S, wr_71 S, wg_64 S, wp_64 S, wg_65 S, wp_65 S, wg_72 S, wp_72 S, wg_73 S, wp_73 S, wg_74 S, wp_74 S, wg_75 S, wp_75 S, wg_76 S, wp_76 S, wg_77 S, wp_77 S, wg_78 S, wp_78 S, wg_79 S, wp_79 S, wg_80 S, wp_80 S, c_isSound S H V O ha R K, ib_0, wa_52 S, ws_52 S, er.2, i32_rem]
theorem c_moisten0 (S : St h) (H : duS h a) (V : duV F0 C0 a D) (O : dOK D) (ha : a ≤ 28) (R : crC F0 C0 D F C X) (K : cOK D X B) {r : Int} (r0 : -5 ≤ r) (r1 : r ≤ 1000) (hn : ¬ sndP D X r) : zc 21 [zR (some 50), zR (some a), zI (i32 r)] (zw h F C) = some (zI (i32 0), zw h F C) := by
  have u1 : ¬ ((0 ≤ r ∧ r < D 0) ∧ bitI (X 0 1) r = 0) := hn
  rw [e_Course_moisten]
  simp (disch := omega) only [if_true, if_false, not_true_eq_false, not_false_eq_true, zoI_s, zoR_s, zoH_s, zoL_s, zbI_s, zbV_s, zbR_s, zbL_s, zif_dec, i32_0, ne_eq, i32_lt, i32_le, i32_eq, i32_add, i32_mul, i32_sub, i32_neg, zrz_0, zrz_1, zif_t, zif_f, zsF_s, zsF_k, zsF_a, zsC_s, zsC_a, zsC_i, zsW_s, zsW_a, Int.add_zero, Int.zero_add, true_and, false_and, and_false, Bool.false_eq_true, decide_true, decide_false, Bool.true_and, Bool.false_and, Bool.true_or, Bool.false_or, sub1, and_true, if_pos, if_neg, wv_50 S, wr_66 S, wr_67 S, wr_68 S, wr_69 S, wr_70 S, wr_71 S, wg_64 S, wp_64 S, wg_65 S, wp_65 S, wg_72 S, wp_72 S, wg_73 S, wp_73 S, wg_74 S, wp_74 S, wg_75 S, wp_75 S, wg_76 S, wp_76 S, wg_77 S, wp_77 S, wg_78 S, wp_78 S, wg_79 S, wp_79 S, wg_80 S, wp_80 S, c_isSound S H V O ha R K, ib_0]
theorem c_trim0 (S : St h) (H : duS h a) (V : duV F0 C0 a D) (O : dOK D) (ha : a ≤ 28) (R : crC F0 C0 D F C X) (K : cOK D X B) {r : Int} (r0 : -5 ≤ r) (r1 : r ≤ 1000) (hn : ¬ sndP D X r) : zc 22 [zR (some 50), zR (some a), zI (i32 r)] (zw h F C) = some (zI (i32 0), zw h F C) := by
  have u1 : ¬ ((0 ≤ r ∧ r < D 0) ∧ bitI (X 0 1) r = 0) := hn
  rw [e_Course_trim]
  simp (disch := omega) only [if_true, if_false, not_true_eq_false, not_false_eq_true, zoI_s, zoR_s, zoH_s, zoL_s, zbI_s, zbV_s, zbR_s, zbL_s, zif_dec, i32_0, ne_eq, i32_lt, i32_le, i32_eq, i32_add, i32_mul, i32_sub, i32_neg, zrz_0, zrz_1, zif_t, zif_f, zsF_s, zsF_k, zsF_a, zsC_s, zsC_a, zsC_i, zsW_s, zsW_a, Int.add_zero, Int.zero_add, true_and, false_and, and_false, Bool.false_eq_true, decide_true, decide_false, Bool.true_and, Bool.false_and, Bool.true_or, Bool.false_or, sub1, and_true, if_pos, if_neg, wv_50 S, wr_66 S, wr_67 S, wr_68 S, wr_69 S, wr_70 S, wr_71 S, wg_64 S, wp_64 S, wg_65 S, wp_65 S, wg_72 S, wp_72 S, wg_73 S, wp_73 S, wg_74 S, wp_74 S, wg_75 S, wp_75 S, wg_76 S, wp_76 S, wg_77 S, wp_77 S, wg_78 S, wp_78 S, wg_79 S, wp_79 S, wg_80 S, wp_80 S, c_isSound S H V O ha R K, ib_0]
theorem slpW_0 (D : Int → Int) (X : Nat → Int → Int) : slpW D X 0 = X := by
  funext c j
  unfold slpW
  rw [if_neg (by omega)]
theorem slpW_s (D : Int → Int) (X : Nat → Int → Int) {k : Int} (k0 : 0 ≤ k) : zsC (slpW D X k) 1 k (driS (X 1 k) 1) = slpW D X (k + 1) := by
  funext c j
  unfold zsC slpW
  by_cases c1 : c = 1 ∧ j = k
  · obtain ⟨rfl, rfl⟩ := c1
    rw [if_pos ⟨rfl, rfl⟩, if_pos (by omega)]
  · rw [if_neg c1]
    by_cases c2 : c = 1 ∧ 0 ≤ j ∧ j < k
    · rw [if_pos c2, if_pos (by omega)]
    · rw [if_neg c2, if_neg (by omega)]
theorem slpP_0 (X : Nat → Int → Int) : slpP X 0 = X := by
  funext c j
  unfold slpP
  rw [if_neg (by omega)]
theorem slpP_s (X : Nat → Int → Int) {k : Int} (k0 : 0 ≤ k) : zsC (slpP X k) 3 k 0 = slpP X (k + 1) := by
  funext c j
  unfold zsC slpP
  by_cases c1 : c = 3 ∧ j = k
  · obtain ⟨rfl, rfl⟩ := c1
    rw [if_pos ⟨rfl, rfl⟩, if_pos (by omega)]
  · rw [if_neg c1]
    by_cases c2 : c = 3 ∧ 0 ≤ j ∧ j < k
    · rw [if_pos c2, if_pos (by omega)]
    · rw [if_neg c2, if_neg (by omega)]
theorem crC.slpP (R : crC F0 C0 D F C X) : crC F0 C0 D F (zsW C 53 (fun j => if 0 ≤ j ∧ j < ((4 : Nat) : Int) then 0 else C 53 j)) (slpP X 4) := by
  obtain ⟨t, i, r1, r2, r3⟩ := R
  refine ⟨t.sW (by omega) (by omega), i, r1, fun p p0 p1 => ⟨?_, (r2 p p0 p1).2⟩, r3⟩
  show (if 0 ≤ p ∧ p < ((4 : Nat) : Int) then 0 else C 53 p) = (if (3 : Nat) = 3 ∧ 0 ≤ p ∧ p < 4 then 0 else X 3 p)
  rw [if_pos (by omega), if_pos (by omega)]
theorem c_sleep (S : St h) (H : duS h a) (V : duV F0 C0 a D) (O : dOK D) (ha : a ≤ 28) (R : crC F0 C0 D F C X) (K : cOK D X B) (hB : B ≤ 1000) : ∃ F' C', zc 23 [zR (some 50), zR (some a)] (zw h F C) = some (zI 0, zw h F' C') ∧ crC F0 C0 D F' C' (slpX D X) := by
  have b0 := O.1
  have k0 := K.1
  have e0 : F 73 50 = X 0 0 := R.2.1.1
  have R1 := R.f73 (X 0 0 + 1)
  obtain ⟨C2, e2, R2⟩ := zinv (fun k C => zr 23 8 [yR (some 50), yR (some a), yI (i32 k)] [] (zw h (zsF F 73 50 (X 0 0 + 1)) C)) (fun k C => crC F0 C0 D (zsF F 73 50 (X 0 0 + 1)) C (slpW D (zsC X 0 0 (X 0 0 + 1)) k)) 0 (D 0) (by omega) (fun k C l0 l1 Rk => by
    have v0 : F 128 a = D 0 := (V.tq Rk.1 ha).1.1
    have er : C 51 k = X 1 k := by
      rw [(Rk.2.2.1 k l0 l1).1]
      show (if (1 : Nat) = 1 ∧ 0 ≤ k ∧ k < k then _ else X 1 k) = _
      rw [if_neg (by omega)]
    have kr := (K.2.2.2.2.2.2.2.2.2.2.1 k l0 l1).1
    refine ⟨zsC C 51 k (driS (X 1 k) 1), ?_, ?_⟩
    · rw [e_Course_sleep_8]
      simp (disch := omega) only [if_true, if_false, not_true_eq_false, not_false_eq_true, zoI_s, zoR_s, zoH_s, zoL_s, zbI_s, zbV_s, zbR_s, zbL_s, zif_dec, i32_0, ne_eq, i32_lt, i32_le, i32_eq, i32_add, i32_mul, i32_sub, i32_neg, zrz_0, zrz_1, zif_t, zif_f, zsF_s, zsF_k, zsF_a, zsC_s, zsC_a, zsC_i, zsW_s, zsW_a, Int.add_zero, Int.zero_add, true_and, false_and, and_false, Bool.false_eq_true, decide_true, decide_false, Bool.true_and, Bool.false_and, Bool.true_or, Bool.false_or, sub1, and_true, if_pos, if_neg, wv_50 S, wr_66 S, wr_67 S, wr_68 S, wr_69 S, wr_70 S, wr_71 S, wg_64 S, wp_64 S, wg_65 S, wp_65 S, wg_72 S, wp_72 S, wg_73 S, wp_73 S, wg_74 S, wp_74 S, wg_75 S, wp_75 S, wg_76 S, wp_76 S, wg_77 S, wp_77 S, wg_78 S, wp_78 S, wg_79 S, wp_79 S, wg_80 S, wp_80 S, wa_51 S, ws_51 S, dg_128 H, v0, er, c_dried]
    · have := Rk.w51 k (driS (X 1 k) 1)
      rwa [show driS (X 1 k) 1 = driS (zsC X 0 0 (X 0 0 + 1) 1 k) 1 from rfl, slpW_s _ _ l0] at this) C (by rw [slpW_0]; exact R1)
  have v0 : F 128 a = D 0 := (V.tq R2.1 ha).1.1
  have ff := fun F C => c_fill (h := h) (F := F) (C := C) (a := 53) (n := 4) (x := 0) (S.2.2.2.1 (53, 4) (List.mem_of_getElem? (l := wRW) (i := 3) rfl)) (by unfold zK0; omega) (by omega)
  refine ⟨_, _, ?_, R2.slpP⟩
  rw [e_Course_sleep]
  simp (disch := omega) only [if_true, if_false, not_true_eq_false, not_false_eq_true, zoI_s, zoR_s, zoH_s, zoL_s, zbI_s, zbV_s, zbR_s, zbL_s, zif_dec, i32_0, ne_eq, i32_lt, i32_le, i32_eq, i32_add, i32_mul, i32_sub, i32_neg, zrz_0, zrz_1, zif_t, zif_f, zsF_s, zsF_k, zsF_a, zsC_s, zsC_a, zsC_i, zsW_s, zsW_a, Int.add_zero, Int.zero_add, true_and, false_and, and_false, Bool.false_eq_true, decide_true, decide_false, Bool.true_and, Bool.false_and, Bool.true_or, Bool.false_or, sub1, and_true, if_pos, if_neg, wv_50 S, wr_66 S, wr_67 S, wr_68 S, wr_69 S, wr_70 S, wr_71 S, wg_64 S, wp_64 S, wg_65 S, wp_65 S, wg_72 S, wp_72 S, wg_73 S, wp_73 S, wg_74 S, wp_74 S, wg_75 S, wp_75 S, wg_76 S, wp_76 S, wg_77 S, wp_77 S, wg_78 S, wp_78 S, wg_79 S, wp_79 S, wg_80 S, wp_80 S, e0]
  rw [e2, e_Course_sleep_8]
  simp (disch := omega) only [if_true, if_false, not_true_eq_false, not_false_eq_true, zoI_s, zoR_s, zoH_s, zoL_s, zbI_s, zbV_s, zbR_s, zbL_s, zif_dec, i32_0, ne_eq, i32_lt, i32_le, i32_eq, i32_add, i32_mul, i32_sub, i32_neg, zrz_0, zrz_1, zif_t, zif_f, zsF_s, zsF_k, zsF_a, zsC_s, zsC_a, zsC_i, zsW_s, zsW_a, Int.add_zero, Int.zero_add, true_and, false_and, and_false, Bool.false_eq_true, decide_true, decide_false, Bool.true_and, Bool.false_and, Bool.true_or, Bool.false_or, sub1, and_true, if_pos, if_neg, wv_50 S, wr_66 S, wr_67 S, wr_68 S, wr_69 S, wr_70 S, wr_71 S, wg_64 S, wp_64 S, wg_65 S, wp_65 S, wg_72 S, wp_72 S, wg_73 S, wp_73 S, wg_74 S, wp_74 S, wg_75 S, wp_75 S, wg_76 S, wp_76 S, wg_77 S, wp_77 S, wg_78 S, wp_78 S, wg_79 S, wp_79 S, wg_80 S, wp_80 S, dg_128 H, v0, ff]
end C2
