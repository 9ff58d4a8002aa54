/-! owns: the programs -/
def ownerQ (D : Int → Int) (x : Int) : Int := fstF (fun p => decide (ownS D p = x)) 0 (D 1).toNat
def ownsQ (A : Int → Int) (d x b : Int) : Int := if (0 ≤ d ∧ d < A 0) ∧ ((b = 0 ∧ 0 ≤ x ∧ x < dOf A d 1) ∨ (b ≠ 0 ∧ 0 ≤ x ∧ x < dOf A d 0)) then (if b = 0 then ownS (dOf A d) x else ownerQ (dOf A d) x) else -2
theorem fst_congr {P Q : Int → Bool} : ∀ (j : Nat) (k : Int), (∀ i, k ≤ i → i < k + j → P i = Q i) → fstF P k j = fstF Q k j := by
  intro j
  induction j with
  | zero => intro k _; rfl
  | succ j ih =>
    intro k h
    rw [fstF, fstF, h k (by omega) (by omega), ih (k + 1) (fun i h1 h2 => h i (by omega) (by omega))]
theorem setB.bits {s : Int} {P : Int → Bool} (h : setB s P) : bitsS s = sm (fun t => bN (P t)) 8 := by
  unfold bitsS
  rw [show (9 : Int) = 8 + 1 from rfl, sm_succ _ (by omega), h.b8, Int.add_zero]
  exact sm_congr (fun t t0 t1 => h.2.2 t t0 t1)
section A14
variable {h : zHeap} {F : Nat → Nat → Int} {C : Nat → Int → Int} {a : Nat} {D : Int → Int}
theorem c_hrd (H : duS h a) (V : duV F C a D) (O : dOK D) {r p : Int} (r0 : 0 ≤ r) (r1 : r < D 0) (p0 : 0 ≤ p) (p1 : p < D 1) : ∃ s, zc 102 [zR (some 68), zR (some a), zI (i32 r), zI (i32 p)] (zw h F C) = some (zI (i32 s), zw h F C) ∧ (0 ≤ s ∧ s < 512) ∧ bitsS s = hrdS D r p := by
  have b2 := O.2.2.1
  obtain ⟨s, e, g⟩ := c_heardQuestions H V O r0 r1 p0 p1
  refine ⟨s, e, ⟨g.1, by have := g.2.1; omega⟩, ?_⟩
  rw [g.bits]
  unfold hrdS
  refine (sm_congr (fun q _ _ => ?_)).trans (sm_cut (n := 8) (by omega) (by omega)).symm
  by_cases c : q < D 2
  · rw [decide_eq_true c, if_pos c, Bool.true_and]
    by_cases c2 : nteS D r p q = -1
    · rw [if_pos c2, decide_eq_false (fun z => z c2)]; rfl
    · rw [if_neg c2, decide_eq_true c2]; rfl
  · rw [decide_eq_false c, if_neg c, Bool.false_and]; rfl
theorem c_mostHeard (S : St h) (H : duS h a) (V : duV F C a D) (O : dOK D) {t p : Int} (t0 : 0 ≤ t) (t1 : t < 64) (p0 : 0 ≤ p) (p1 : p < D 1) : zc 117 [zR (some 68), zR (some a), zI (i32 t), zI (i32 p)] (zw h F C) = some (zI (i32 (bstS D p t)), zw h F C) := by
  have b0 := O.1
  have b1 := O.2.1
  have L1 := (zfoI (fun r b => zr 117 6 [yR (some 68), yR (some a), yI (i32 t), yI (i32 p), yI (i32 b), yI (i32 ((if b = -1 then -1 else hrdS D b p))), yI (i32 r), none] [] (zw h F C)) (bstF D p t) (fun k b => -1 ≤ b ∧ b < k) 0 (D 0) (by omega) (fun r b r0 r1 hi => by
    obtain ⟨s, e, g1, g2⟩ := c_hrd H V O r0 r1 p0 p1
    have k1 := hrd_rng O r p
    have k2 := hrd_rng O b p
    rw [e_Survey_mostHeard_6]
    unfold bstF
    rcases bitI_01 t r with c | c
    · by_cases cb : b = -1
      · simp (disch := omega) only [if_true, if_false, not_true_eq_false, not_false_eq_true, zoI_s, zoR_s, zoH_s, zoL_s, zbI_s, zbV_s, zbR_s, zbL_s, zif_dec, i32_0, ne_eq, i32_lt, i32_le, i32_eq, i32_add, i32_mul, i32_sub, i32_neg, zrz_0, zrz_1, zif_t, zif_f, zsF_s, zsF_k, zsF_a, zsC_s, zsC_a, zsC_i, zsW_s, zsW_a, Int.add_zero, Int.zero_add, true_and, false_and, and_false, Bool.false_eq_true, decide_true, decide_false, Bool.true_and, Bool.false_and, Bool.true_or, Bool.false_or, if_pos, if_neg, dv H, dg_128 H, dp_128 H, dg_129 H, dp_129 H, dg_130 H, dp_130 H, dg_131 H, dp_131 H, dr_132 H, da_132 H, dr_133 H, da_133 H, dr_134 H, da_134 H, dr_135 H, da_135 H, dr_136 H, da_136 H, dr_137 H, da_137 H, V.1.1, V.1.2.1, V.1.2.2.1, V.1.2.2.2, c_answerOf H V O, c_noteOf H V O, c_meaning H V, wv_68 S, wr_384 S, wr_385 S, wr_386 S, c_hasPlayer H V O, ib_0, e, c_bitCount, g2, b_shr, c, d_Survey_mostHeard_6_w7]
      · by_cases cc : hrdS D b p < hrdS D r p
        · simp (disch := omega) only [if_true, if_false, not_true_eq_false, not_false_eq_true, zoI_s, zoR_s, zoH_s, zoL_s, zbI_s, zbV_s, zbR_s, zbL_s, zif_dec, i32_0, ne_eq, i32_lt, i32_le, i32_eq, i32_add, i32_mul, i32_sub, i32_neg, zrz_0, zrz_1, zif_t, zif_f, zsF_s, zsF_k, zsF_a, zsC_s, zsC_a, zsC_i, zsW_s, zsW_a, Int.add_zero, Int.zero_add, true_and, false_and, and_false, Bool.false_eq_true, decide_true, decide_false, Bool.true_and, Bool.false_and, Bool.true_or, Bool.false_or, if_pos, if_neg, dv H, dg_128 H, dp_128 H, dg_129 H, dp_129 H, dg_130 H, dp_130 H, dg_131 H, dp_131 H, dr_132 H, da_132 H, dr_133 H, da_133 H, dr_134 H, da_134 H, dr_135 H, da_135 H, dr_136 H, da_136 H, dr_137 H, da_137 H, V.1.1, V.1.2.1, V.1.2.2.1, V.1.2.2.2, c_answerOf H V O, c_noteOf H V O, c_meaning H V, wv_68 S, wr_384 S, wr_385 S, wr_386 S, c_hasPlayer H V O, ib_0, e, c_bitCount, g2, b_shr, c, d_Survey_mostHeard_6_w7]
        · simp (disch := omega) only [if_true, if_false, not_true_eq_false, not_false_eq_true, zoI_s, zoR_s, zoH_s, zoL_s, zbI_s, zbV_s, zbR_s, zbL_s, zif_dec, i32_0, ne_eq, i32_lt, i32_le, i32_eq, i32_add, i32_mul, i32_sub, i32_neg, zrz_0, zrz_1, zif_t, zif_f, zsF_s, zsF_k, zsF_a, zsC_s, zsC_a, zsC_i, zsW_s, zsW_a, Int.add_zero, Int.zero_add, true_and, false_and, and_false, Bool.false_eq_true, decide_true, decide_false, Bool.true_and, Bool.false_and, Bool.true_or, Bool.false_or, if_pos, if_neg, dv H, dg_128 H, dp_128 H, dg_129 H, dp_129 H, dg_130 H, dp_130 H, dg_131 H, dp_131 H, dr_132 H, da_132 H, dr_133 H, da_133 H, dr_134 H, da_134 H, dr_135 H, da_135 H, dr_136 H, da_136 H, dr_137 H, da_137 H, V.1.1, V.1.2.1, V.1.2.2.1, V.1.2.2.2, c_answerOf H V O, c_noteOf H V O, c_meaning H V, wv_68 S, wr_384 S, wr_385 S, wr_386 S, c_hasPlayer H V O, ib_0, e, c_bitCount, g2, b_shr, c, d_Survey_mostHeard_6_w7]
    · rw [show (if bitI t r = 0 ∧ (b = -1 ∨ hrdS D b p < hrdS D r p) then r else b) = b from if_neg (by omega)]
      simp (disch := omega) only [if_true, if_false, not_true_eq_false, not_false_eq_true, zoI_s, zoR_s, zoH_s, zoL_s, zbI_s, zbV_s, zbR_s, zbL_s, zif_dec, i32_0, ne_eq, i32_lt, i32_le, i32_eq, i32_add, i32_mul, i32_sub, i32_neg, zrz_0, zrz_1, zif_t, zif_f, zsF_s, zsF_k, zsF_a, zsC_s, zsC_a, zsC_i, zsW_s, zsW_a, Int.add_zero, Int.zero_add, true_and, false_and, and_false, Bool.false_eq_true, decide_true, decide_false, Bool.true_and, Bool.false_and, Bool.true_or, Bool.false_or, if_pos, if_neg, dv H, dg_128 H, dp_128 H, dg_129 H, dp_129 H, dg_130 H, dp_130 H, dg_131 H, dp_131 H, dr_132 H, da_132 H, dr_133 H, da_133 H, dr_134 H, da_134 H, dr_135 H, da_135 H, dr_136 H, da_136 H, dr_137 H, da_137 H, V.1.1, V.1.2.1, V.1.2.2.1, V.1.2.2.2, c_answerOf H V O, c_noteOf H V O, c_meaning H V, wv_68 S, wr_384 S, wr_385 S, wr_386 S, c_hasPlayer H V O, ib_0, e, c_bitCount, g2, b_shr, c, d_Survey_mostHeard_6_w7]) (fun k s _ _ h2 => by unfold bstF; split <;> omega) (-1) (by omega)).1
  rw [Int.sub_zero, show foldF (bstF D p t) 0 (D 0).toNat (-1) = bstS D p t from rfl, if_pos rfl] at L1
  rw [e_Survey_mostHeard, L1, e_Survey_mostHeard_6]
  simp (disch := omega) only [if_true, if_false, not_true_eq_false, not_false_eq_true, zoI_s, zoR_s, zoH_s, zoL_s, zbI_s, zbV_s, zbR_s, zbL_s, zif_dec, i32_0, ne_eq, i32_lt, i32_le, i32_eq, i32_add, i32_mul, i32_sub, i32_neg, zrz_0, zrz_1, zif_t, zif_f, zsF_s, zsF_k, zsF_a, zsC_s, zsC_a, zsC_i, zsW_s, zsW_a, Int.add_zero, Int.zero_add, true_and, false_and, and_false, Bool.false_eq_true, decide_true, decide_false, Bool.true_and, Bool.false_and, Bool.true_or, Bool.false_or, if_pos, if_neg, dv H, dg_128 H, dp_128 H, dg_129 H, dp_129 H, dg_130 H, dp_130 H, dg_131 H, dp_131 H, dr_132 H, da_132 H, dr_133 H, da_133 H, dr_134 H, da_134 H, dr_135 H, da_135 H, dr_136 H, da_136 H, dr_137 H, da_137 H, V.1.1, V.1.2.1, V.1.2.2.1, V.1.2.2.2, c_answerOf H V O, c_noteOf H V O, c_meaning H V]
theorem c_mostHeard0 (S : St h) (H : duS h a) (V : duV F C a D) (O : dOK D) {t : Int} : zc 117 [zR (some 68), zR (some a), zI (i32 t), zI (i32 (-1))] (zw h F C) = some (zI (i32 (-1)), zw h F C) := by
  have b0 := O.1
  rw [e_Survey_mostHeard, e_Survey_mostHeard_6]
  by_cases c : D 0 ≤ 0
  · simp (disch := omega) only [if_true, if_false, not_true_eq_false, not_false_eq_true, zoI_s, zoR_s, zoH_s, zoL_s, zbI_s, zbV_s, zbR_s, zbL_s, zif_dec, i32_0, ne_eq, i32_lt, i32_le, i32_eq, i32_add, i32_mul, i32_sub, i32_neg, zrz_0, zrz_1, zif_t, zif_f, zsF_s, zsF_k, zsF_a, zsC_s, zsC_a, zsC_i, zsW_s, zsW_a, Int.add_zero, Int.zero_add, true_and, false_and, and_false, Bool.false_eq_true, decide_true, decide_false, Bool.true_and, Bool.false_and, Bool.true_or, Bool.false_or, if_pos, if_neg, dv H, dg_128 H, dp_128 H, dg_129 H, dp_129 H, dg_130 H, dp_130 H, dg_131 H, dp_131 H, dr_132 H, da_132 H, dr_133 H, da_133 H, dr_134 H, da_134 H, dr_135 H, da_135 H, dr_136 H, da_136 H, dr_137 H, da_137 H, V.1.1, V.1.2.1, V.1.2.2.1, V.1.2.2.2, c_answerOf H V O, c_noteOf H V O, c_meaning H V]
  · simp (disch := omega) only [if_true, if_false, not_true_eq_false, not_false_eq_true, zoI_s, zoR_s, zoH_s, zoL_s, zbI_s, zbV_s, zbR_s, zbL_s, zif_dec, i32_0, ne_eq, i32_lt, i32_le, i32_eq, i32_add, i32_mul, i32_sub, i32_neg, zrz_0, zrz_1, zif_t, zif_f, zsF_s, zsF_k, zsF_a, zsC_s, zsC_a, zsC_i, zsW_s, zsW_a, Int.add_zero, Int.zero_add, true_and, false_and, and_false, Bool.false_eq_true, decide_true, decide_false, Bool.true_and, Bool.false_and, Bool.true_or, Bool.false_or, if_pos, if_neg, dv H, dg_128 H, dp_128 H, dg_129 H, dp_129 H, dg_130 H, dp_130 H, dg_131 H, dp_131 H, dr_132 H, da_132 H, dr_133 H, da_133 H, dr_134 H, da_134 H, dr_135 H, da_135 H, dr_136 H, da_136 H, dr_137 H, da_137 H, V.1.1, V.1.2.1, V.1.2.2.1, V.1.2.2.2, c_answerOf H V O, c_noteOf H V O, c_meaning H V, c_hasPlayer H V O, ib_0]
theorem c_strongest (H : duS h a) (V : duV F C a D) (O : dOK D) {s : Int} (s0 : 0 ≤ s) (s1 : s < 512) : zc 116 [zR (some a), zI (i32 s)] (zw h F C) = some (zI (i32 (strS D s)), zw h F C) := by
  have b1 := O.2.1
  have L1 := (zfoI (fun p b => zr 116 4 [yR (some a), yI (i32 s), yI (i32 b), yI (i32 p), none] [] (zw h F C)) (strF D s) (fun k b => -1 ≤ b ∧ b < k) 0 (D 1) (by omega) (fun p b p0 p1 hi => by
    have k1 := O.2.2.2.2.2.2.1 p p0 p1
    rw [e_Survey_strongest_4]
    unfold strF
    rcases bitI_01 s p with c | c
    · by_cases cb : b = -1
      · simp (disch := omega) only [if_true, if_false, not_true_eq_false, not_false_eq_true, zoI_s, zoR_s, zoH_s, zoL_s, zbI_s, zbV_s, zbR_s, zbL_s, zif_dec, i32_0, ne_eq, i32_lt, i32_le, i32_eq, i32_add, i32_mul, i32_sub, i32_neg, zrz_0, zrz_1, zif_t, zif_f, zsF_s, zsF_k, zsF_a, zsC_s, zsC_a, zsC_i, zsW_s, zsW_a, Int.add_zero, Int.zero_add, true_and, false_and, and_false, Bool.false_eq_true, decide_true, decide_false, Bool.true_and, Bool.false_and, Bool.true_or, Bool.false_or, if_pos, if_neg, dv H, dg_128 H, dp_128 H, dg_129 H, dp_129 H, dg_130 H, dp_130 H, dg_131 H, dp_131 H, dr_132 H, da_132 H, dr_133 H, da_133 H, dr_134 H, da_134 H, dr_135 H, da_135 H, dr_136 H, da_136 H, dr_137 H, da_137 H, V.1.1, V.1.2.1, V.1.2.2.1, V.1.2.2.2, c_answerOf H V O, c_noteOf H V O, c_meaning H V, b_shr, c, d_Survey_strongest_4_w4]
      · have k2 := O.2.2.2.2.2.2.1 b (by omega) (by omega)
        by_cases cc : D (16 + b) < D (16 + p)
        · simp (disch := omega) only [if_true, if_false, not_true_eq_false, not_false_eq_true, zoI_s, zoR_s, zoH_s, zoL_s, zbI_s, zbV_s, zbR_s, zbL_s, zif_dec, i32_0, ne_eq, i32_lt, i32_le, i32_eq, i32_add, i32_mul, i32_sub, i32_neg, zrz_0, zrz_1, zif_t, zif_f, zsF_s, zsF_k, zsF_a, zsC_s, zsC_a, zsC_i, zsW_s, zsW_a, Int.add_zero, Int.zero_add, true_and, false_and, and_false, Bool.false_eq_true, decide_true, decide_false, Bool.true_and, Bool.false_and, Bool.true_or, Bool.false_or, if_pos, if_neg, dv H, dg_128 H, dp_128 H, dg_129 H, dp_129 H, dg_130 H, dp_130 H, dg_131 H, dp_131 H, dr_132 H, da_132 H, dr_133 H, da_133 H, dr_134 H, da_134 H, dr_135 H, da_135 H, dr_136 H, da_136 H, dr_137 H, da_137 H, V.1.1, V.1.2.1, V.1.2.2.1, V.1.2.2.2, c_answerOf H V O, c_noteOf H V O, c_meaning H V, V.2.2.2.1, b_shr, c, d_Survey_strongest_4_w4]
        · simp (disch := omega) only [if_true, if_false, not_true_eq_false, not_false_eq_true, zoI_s, zoR_s, zoH_s, zoL_s, zbI_s, zbV_s, zbR_s, zbL_s, zif_dec, i32_0, ne_eq, i32_lt, i32_le, i32_eq, i32_add, i32_mul, i32_sub, i32_neg, zrz_0, zrz_1, zif_t, zif_f, zsF_s, zsF_k, zsF_a, zsC_s, zsC_a, zsC_i, zsW_s, zsW_a, Int.add_zero, Int.zero_add, true_and, false_and, and_false, Bool.false_eq_true, decide_true, decide_false, Bool.true_and, Bool.false_and, Bool.true_or, Bool.false_or, if_pos, if_neg, dv H, dg_128 H, dp_128 H, dg_129 H, dp_129 H, dg_130 H, dp_130 H, dg_131 H, dp_131 H, dr_132 H, da_132 H, dr_133 H, da_133 H, dr_134 H, da_134 H, dr_135 H, da_135 H, dr_136 H, da_136 H, dr_137 H, da_137 H, V.1.1, V.1.2.1, V.1.2.2.1, V.1.2.2.2, c_answerOf H V O, c_noteOf H V O, c_meaning H V, V.2.2.2.1, b_shr, c, d_Survey_strongest_4_w4]
    · rw [if_neg (fun z => by omega)]
      simp (disch := omega) only [if_true, if_false, not_true_eq_false, not_false_eq_true, zoI_s, zoR_s, zoH_s, zoL_s, zbI_s, zbV_s, zbR_s, zbL_s, zif_dec, i32_0, ne_eq, i32_lt, i32_le, i32_eq, i32_add, i32_mul, i32_sub, i32_neg, zrz_0, zrz_1, zif_t, zif_f, zsF_s, zsF_k, zsF_a, zsC_s, zsC_a, zsC_i, zsW_s, zsW_a, Int.add_zero, Int.zero_add, true_and, false_and, and_false, Bool.false_eq_true, decide_true, decide_false, Bool.true_and, Bool.false_and, Bool.true_or, Bool.false_or, if_pos, if_neg, dv H, dg_128 H, dp_128 H, dg_129 H, dp_129 H, dg_130 H, dp_130 H, dg_131 H, dp_131 H, dr_132 H, da_132 H, dr_133 H, da_133 H, dr_134 H, da_134 H, dr_135 H, da_135 H, dr_136 H, da_136 H, dr_137 H, da_137 H, V.1.1, V.1.2.1, V.1.2.2.1, V.1.2.2.2, c_answerOf H V O, c_noteOf H V O, c_meaning H V, b_shr, c, d_Survey_strongest_4_w4]) (fun k s _ _ h2 => by unfold strF; split <;> omega) (-1) (by omega)).1
  rw [Int.sub_zero, show foldF (strF D s) 0 (D 1).toNat (-1) = strS D s from rfl] at L1
  rw [e_Survey_strongest, L1, e_Survey_strongest_4]
  simp (disch := omega) only [if_true, if_false, not_true_eq_false, not_false_eq_true, zoI_s, zoR_s, zoH_s, zoL_s, zbI_s, zbV_s, zbR_s, zbL_s, zif_dec, i32_0, ne_eq, i32_lt, i32_le, i32_eq, i32_add, i32_mul, i32_sub, i32_neg, zrz_0, zrz_1, zif_t, zif_f, zsF_s, zsF_k, zsF_a, zsC_s, zsC_a, zsC_i, zsW_s, zsW_a, Int.add_zero, Int.zero_add, true_and, false_and, and_false, Bool.false_eq_true, decide_true, decide_false, Bool.true_and, Bool.false_and, Bool.true_or, Bool.false_or, if_pos, if_neg, dv H, dg_128 H, dp_128 H, dg_129 H, dp_129 H, dg_130 H, dp_130 H, dg_131 H, dp_131 H, dr_132 H, da_132 H, dr_133 H, da_133 H, dr_134 H, da_134 H, dr_135 H, da_135 H, dr_136 H, da_136 H, dr_137 H, da_137 H, V.1.1, V.1.2.1, V.1.2.2.1, V.1.2.2.2, c_answerOf H V O, c_noteOf H V O, c_meaning H V]
theorem c_shareOutL (S : St h) (H : duS h a) (V : duV F C a D) (O : dOK D) (ha : a ≤ 28) : ∀ (j : Nat) (k s t : Int) (f : Int → Int), k + j = D 1 → 0 ≤ k → shaI D k s t f → zr 115 10 [yR (some 68), yR (some a), yI (i32 s), yI (i32 t), yI (i32 k), none, none] [] (zw h F (zsW C 70 f)) = some (zI 0, zw h F (zsW C 70 (shaF D j s t f))) := by
  have b0 := O.1
  have b1 := O.2.1
  have pw := pw_le (n := D 1) (by omega)
  intro j
  induction j with
  | zero =>
    intro k s t f hk k0 hi
    rw [e_Survey_shareOut_10]
    simp (disch := omega) only [if_true, if_false, not_true_eq_false, not_false_eq_true, zoI_s, zoR_s, zoH_s, zoL_s, zbI_s, zbV_s, zbR_s, zbL_s, zif_dec, i32_0, ne_eq, i32_lt, i32_le, i32_eq, i32_add, i32_mul, i32_sub, i32_neg, zrz_0, zrz_1, zif_t, zif_f, zsF_s, zsF_k, zsF_a, zsC_s, zsC_a, zsC_i, zsW_s, zsW_a, Int.add_zero, Int.zero_add, true_and, false_and, and_false, Bool.false_eq_true, decide_true, decide_false, Bool.true_and, Bool.false_and, Bool.true_or, Bool.false_or, if_pos, if_neg, dv H, dg_128 H, dp_128 H, dg_129 H, dp_129 H, dg_130 H, dp_130 H, dg_131 H, dp_131 H, dr_132 H, da_132 H, dr_133 H, da_133 H, dr_134 H, da_134 H, dr_135 H, da_135 H, dr_136 H, da_136 H, dr_137 H, da_137 H, V.1.1, V.1.2.1, V.1.2.2.1, V.1.2.2.2, c_answerOf H V O, c_noteOf H V O, c_meaning H V]
    rfl
  | succ j ih =>
    intro k s t f hk k0 hi
    have i1 := hi.1
    have V2 := V.sW (b := 70) f ha (by omega)
    rw [e_Survey_shareOut_10, shaF]
    rcases str_spec O s with ⟨e1, e2⟩ | ⟨e1, e2, e3, e4⟩
    · rw [if_pos (Or.inl e1)]
      simp (disch := omega) only [if_true, if_false, not_true_eq_false, not_false_eq_true, zoI_s, zoR_s, zoH_s, zoL_s, zbI_s, zbV_s, zbR_s, zbL_s, zif_dec, i32_0, ne_eq, i32_lt, i32_le, i32_eq, i32_add, i32_mul, i32_sub, i32_neg, zrz_0, zrz_1, zif_t, zif_f, zsF_s, zsF_k, zsF_a, zsC_s, zsC_a, zsC_i, zsW_s, zsW_a, Int.add_zero, Int.zero_add, true_and, false_and, and_false, Bool.false_eq_true, decide_true, decide_false, Bool.true_and, Bool.false_and, Bool.true_or, Bool.false_or, if_pos, if_neg, dv H, dg_128 H, dp_128 H, dg_129 H, dp_129 H, dg_130 H, dp_130 H, dg_131 H, dp_131 H, dr_132 H, da_132 H, dr_133 H, da_133 H, dr_134 H, da_134 H, dr_135 H, da_135 H, dr_136 H, da_136 H, dr_137 H, da_137 H, V.1.1, V.1.2.1, V.1.2.2.1, V.1.2.2.2, c_answerOf H V O, c_noteOf H V O, c_meaning H V, wv_68 S, wr_384 S, wr_385 S, wr_386 S, c_strongest H V2 O, e1, c_mostHeard0 S H V2 O]
    · rcases bst_spec O (strS D s) t with ⟨g1, g2⟩ | ⟨g1, g2, g3, g4⟩
      · rw [if_pos (Or.inr g1)]
        simp (disch := omega) only [if_true, if_false, not_true_eq_false, not_false_eq_true, zoI_s, zoR_s, zoH_s, zoL_s, zbI_s, zbV_s, zbR_s, zbL_s, zif_dec, i32_0, ne_eq, i32_lt, i32_le, i32_eq, i32_add, i32_mul, i32_sub, i32_neg, zrz_0, zrz_1, zif_t, zif_f, zsF_s, zsF_k, zsF_a, zsC_s, zsC_a, zsC_i, zsW_s, zsW_a, Int.add_zero, Int.zero_add, true_and, false_and, and_false, Bool.false_eq_true, decide_true, decide_false, Bool.true_and, Bool.false_and, Bool.true_or, Bool.false_or, if_pos, if_neg, dv H, dg_128 H, dp_128 H, dg_129 H, dp_129 H, dg_130 H, dp_130 H, dg_131 H, dp_131 H, dr_132 H, da_132 H, dr_133 H, da_133 H, dr_134 H, da_134 H, dr_135 H, da_135 H, dr_136 H, da_136 H, dr_137 H, da_137 H, V.1.1, V.1.2.1, V.1.2.2.1, V.1.2.2.2, c_answerOf H V O, c_noteOf H V O, c_meaning H V, wv_68 S, wr_384 S, wr_385 S, wr_386 S, c_strongest H V2 O, c_mostHeard S H V2 O]
      · rw [if_neg (by omega)]
        have g3' : bitI t (bstS D (strS D s) t) = 0 := (bitI_01 t _).resolve_right g3
        simp (disch := omega) only [if_true, if_false, not_true_eq_false, not_false_eq_true, zoI_s, zoR_s, zoH_s, zoL_s, zbI_s, zbV_s, zbR_s, zbL_s, zif_dec, i32_0, ne_eq, i32_lt, i32_le, i32_eq, i32_add, i32_mul, i32_sub, i32_neg, zrz_0, zrz_1, zif_t, zif_f, zsF_s, zsF_k, zsF_a, zsC_s, zsC_a, zsC_i, zsW_s, zsW_a, Int.add_zero, Int.zero_add, true_and, false_and, and_false, Bool.false_eq_true, decide_true, decide_false, Bool.true_and, Bool.false_and, Bool.true_or, Bool.false_or, if_pos, if_neg, dv H, dg_128 H, dp_128 H, dg_129 H, dp_129 H, dg_130 H, dp_130 H, dg_131 H, dp_131 H, dr_132 H, da_132 H, dr_133 H, da_133 H, dr_134 H, da_134 H, dr_135 H, da_135 H, dr_136 H, da_136 H, dr_137 H, da_137 H, V.1.1, V.1.2.1, V.1.2.2.1, V.1.2.2.2, c_answerOf H V O, c_noteOf H V O, c_meaning H V, wv_68 S, wr_384 S, wr_385 S, wr_386 S, c_strongest H V2 O, c_mostHeard S H V2 O, wa_70 S, ws_70 S, zsC_W, zsW_W, b_or, d_Survey_shareOut_10_w5, d_Survey_shareOut_10_w6]
        exact ih (k + 1) _ _ _ (by omega) (by omega) (shaI_n O hi e1 e2 e3 e4 g1 g2 g3 g4)
theorem c_shareOut (S : St h) (H : duS h a) (V : duV F C a D) (O : dOK D) (ha : a ≤ 28) : ∃ f, zc 115 [zR (some 68), zR (some a)] (zw h F C) = some (zI 0, zw h F (zsW C 70 f)) ∧ ∀ p, 0 ≤ p → p < D 1 → f p = ownS D p := by
  have b1 := O.2.1
  have h0 : shaI D 0 0 0 (fun j => if 0 ≤ j ∧ j < (4 : Nat) then -1 else C 70 j) := shaI_0 O (fun p p0 p1 => if_pos ⟨p0, by omega⟩)
  refine ⟨_, ?_, own_uniq O (sha_own O (D 1).toNat 0 0 0 _ (by omega) h0) (ownS_P O)⟩
  have e := c_fill (F := F) (C := C) (n := 4) (x := -1) (S.2.2.2.1 (70, 4) (List.mem_of_getElem? (l := wRW) (i := 16) rfl)) (by unfold zK0; omega) (by omega)
  rw [e_Survey_shareOut]
  simp (disch := omega) only [if_true, if_false, not_true_eq_false, not_false_eq_true, zoI_s, zoR_s, zoH_s, zoL_s, zbI_s, zbV_s, zbR_s, zbL_s, zif_dec, i32_0, ne_eq, i32_lt, i32_le, i32_eq, i32_add, i32_mul, i32_sub, i32_neg, zrz_0, zrz_1, zif_t, zif_f, zsF_s, zsF_k, zsF_a, zsC_s, zsC_a, zsC_i, zsW_s, zsW_a, Int.add_zero, Int.zero_add, true_and, false_and, and_false, Bool.false_eq_true, decide_true, decide_false, Bool.true_and, Bool.false_and, Bool.true_or, Bool.false_or, if_pos, if_neg, wv_68 S, wr_384 S, wr_385 S, wr_386 S, e]
  exact c_shareOutL S H V O ha _ 0 0 0 _ (by omega) (by omega) h0
theorem c_ownerOf (S : St h) (H : duS h a) (V : duV F C a D) (O : dOK D) (ha : a ≤ 28) {f : Int → Int} (hf : ∀ p, 0 ≤ p → p < D 1 → f p = ownS D p) {x : Int} (x0 : 0 ≤ x) (x1 : x < D 0) : zc 118 [zR (some 68), zR (some a), zI (i32 x)] (zw h F (zsW C 70 f)) = some (zI (i32 (ownerQ D x)), zw h F (zsW C 70 f)) := by
  have b0 := O.1
  have b1 := O.2.1
  have V2 := V.sW (b := 70) f ha (by omega)
  have L1 := zfst (fun p => zr 118 2 [yR (some 68), yR (some a), yI (i32 x), yI (i32 p)] [] (zw h F (zsW C 70 f))) (fun p => some (zI (i32 p), zw h F (zsW C 70 f))) (fun p => decide (ownS D p = x)) 0 (D 1) (by omega) (by omega) (fun p p0 p1 hp => by
    have c := of_decide_eq_true hp
    have g := own_rng O (ownS_P O) p0 p1
    rw [e_Survey_ownerOf_2]
    simp (disch := omega) only [if_true, if_false, not_true_eq_false, not_false_eq_true, zoI_s, zoR_s, zoH_s, zoL_s, zbI_s, zbV_s, zbR_s, zbL_s, zif_dec, i32_0, ne_eq, i32_lt, i32_le, i32_eq, i32_add, i32_mul, i32_sub, i32_neg, zrz_0, zrz_1, zif_t, zif_f, zsF_s, zsF_k, zsF_a, zsC_s, zsC_a, zsC_i, zsW_s, zsW_a, Int.add_zero, Int.zero_add, true_and, false_and, and_false, Bool.false_eq_true, decide_true, decide_false, Bool.true_and, Bool.false_and, Bool.true_or, Bool.false_or, if_pos, if_neg, dv H, dg_128 H, dp_128 H, dg_129 H, dp_129 H, dg_130 H, dp_130 H, dg_131 H, dp_131 H, dr_132 H, da_132 H, dr_133 H, da_133 H, dr_134 H, da_134 H, dr_135 H, da_135 H, dr_136 H, da_136 H, dr_137 H, da_137 H, V.1.2.1, wv_68 S, wr_384 S, wr_385 S, wr_386 S, wa_70 S, ws_70 S, hf]) (fun p p0 p1 hp => by
    have c := of_decide_eq_false hp
    have g := own_rng O (ownS_P O) p0 p1
    rw [e_Survey_ownerOf_2]
    simp (disch := omega) only [if_true, if_false, not_true_eq_false, not_false_eq_true, zoI_s, zoR_s, zoH_s, zoL_s, zbI_s, zbV_s, zbR_s, zbL_s, zif_dec, i32_0, ne_eq, i32_lt, i32_le, i32_eq, i32_add, i32_mul, i32_sub, i32_neg, zrz_0, zrz_1, zif_t, zif_f, zsF_s, zsF_k, zsF_a, zsC_s, zsC_a, zsC_i, zsW_s, zsW_a, Int.add_zero, Int.zero_add, true_and, false_and, and_false, Bool.false_eq_true, decide_true, decide_false, Bool.true_and, Bool.false_and, Bool.true_or, Bool.false_or, if_pos, if_neg, dv H, dg_128 H, dp_128 H, dg_129 H, dp_129 H, dg_130 H, dp_130 H, dg_131 H, dp_131 H, dr_132 H, da_132 H, dr_133 H, da_133 H, dr_134 H, da_134 H, dr_135 H, da_135 H, dr_136 H, da_136 H, dr_137 H, da_137 H, V.1.2.1, wv_68 S, wr_384 S, wr_385 S, wr_386 S, wa_70 S, ws_70 S, hf])
  rw [Int.sub_zero, show fstF (fun p => decide (ownS D p = x)) 0 (D 1).toNat = ownerQ D x from rfl] at L1
  rw [e_Survey_ownerOf, L1]
  by_cases c : ownerQ D x = -1
  · rw [if_pos c, e_Survey_ownerOf_2]
    simp (disch := omega) only [if_true, if_false, not_true_eq_false, not_false_eq_true, zoI_s, zoR_s, zoH_s, zoL_s, zbI_s, zbV_s, zbR_s, zbL_s, zif_dec, i32_0, ne_eq, i32_lt, i32_le, i32_eq, i32_add, i32_mul, i32_sub, i32_neg, zrz_0, zrz_1, zif_t, zif_f, zsF_s, zsF_k, zsF_a, zsC_s, zsC_a, zsC_i, zsW_s, zsW_a, Int.add_zero, Int.zero_add, true_and, false_and, and_false, Bool.false_eq_true, decide_true, decide_false, Bool.true_and, Bool.false_and, Bool.true_or, Bool.false_or, if_pos, if_neg, dv H, dg_128 H, dp_128 H, dg_129 H, dp_129 H, dg_130 H, dp_130 H, dg_131 H, dp_131 H, dr_132 H, da_132 H, dr_133 H, da_133 H, dr_134 H, da_134 H, dr_135 H, da_135 H, dr_136 H, da_136 H, dr_137 H, da_137 H, V.1.2.1, c]
  · rw [if_neg c]
end A14
theorem c_owns {d x b : Int} (hd : inI d) (hx : inI x) (hb : inI b) : ans1 183 0 [zI (i32 d), zI (i32 x), zI (i32 b)] (fun A => zI (i32 (ownsQ A d x b))) := by
  intro h F C Q
  have S := Q.1
  unfold inI at hd hx hb
  unfold ownsQ
  by_cases c1 : 0 ≤ d ∧ d < C 73 0
  · have H := Q.dS c1.1 c1.2
    have V := Q.dV c1.1 c1.2
    have O := Q.dO c1.1 c1.2
    have b0 := O.1
    have b1 := O.2.1
    have ha : 8 + 13 * d.toNat ≤ 28 := by have := Q.2.2.1.1; omega
    obtain ⟨f, e, hf⟩ := c_shareOut (F := F) (C := C) S H V O ha
    by_cases c2 : b = 0
    · by_cases c3 : 0 ≤ x ∧ x < dOf (C 73) d 1
      · refine ⟨F, _, ?_, tq.rfl.sW (a := 70) (f := f) (by omega) (by omega)⟩
        simp (disch := omega) only [if_true, if_false, not_true_eq_false, not_false_eq_true, zoI_s, zoR_s, zoH_s, zoL_s, zbI_s, zbV_s, zbR_s, zbL_s, zif_dec, i32_0, ne_eq, i32_lt, i32_le, i32_eq, i32_add, i32_mul, i32_sub, i32_neg, zrz_0, zrz_1, zif_t, zif_f, zsF_s, zsF_k, zsF_a, zsC_s, zsC_a, zsC_i, zsW_s, zsW_a, Int.add_zero, Int.zero_add, true_and, false_and, and_false, Bool.false_eq_true, decide_true, decide_false, Bool.true_and, Bool.false_and, Bool.true_or, Bool.false_or, if_pos, if_neg, wv_0 S, wr_704 S, wr_705 S, wr_706 S, wr_707 S, wr_708 S, wr_709 S, wr_710 S, wr_711 S, wv_68 S, wr_384 S, wr_385 S, wr_386 S, tv_1 S, dv H, dg_128 H, dp_128 H, dg_129 H, dp_129 H, dg_130 H, dp_130 H, dg_131 H, dp_131 H, dr_132 H, da_132 H, dr_133 H, da_133 H, dr_134 H, da_134 H, dr_135 H, da_135 H, dr_136 H, da_136 H, dr_137 H, da_137 H, c_dAt Q, Option.isNone_some, Option.isSome_some, c_hasReed H V O, c_hasPlayer H V O, c_hasQuestion H V O, c_hasAll H V O, c_isAnswer, c_within, ib_0, e_Main_owns, e, wa_70 S, ws_70 S, hf]
      · refine ⟨F, C, ?_, tq.rfl⟩
        simp (disch := omega) only [if_true, if_false, not_true_eq_false, not_false_eq_true, zoI_s, zoR_s, zoH_s, zoL_s, zbI_s, zbV_s, zbR_s, zbL_s, zif_dec, i32_0, ne_eq, i32_lt, i32_le, i32_eq, i32_add, i32_mul, i32_sub, i32_neg, zrz_0, zrz_1, zif_t, zif_f, zsF_s, zsF_k, zsF_a, zsC_s, zsC_a, zsC_i, zsW_s, zsW_a, Int.add_zero, Int.zero_add, true_and, false_and, and_false, Bool.false_eq_true, decide_true, decide_false, Bool.true_and, Bool.false_and, Bool.true_or, Bool.false_or, if_pos, if_neg, wv_0 S, wr_704 S, wr_705 S, wr_706 S, wr_707 S, wr_708 S, wr_709 S, wr_710 S, wr_711 S, wv_68 S, wr_384 S, wr_385 S, wr_386 S, tv_1 S, dv H, dg_128 H, dp_128 H, dg_129 H, dp_129 H, dg_130 H, dp_130 H, dg_131 H, dp_131 H, dr_132 H, da_132 H, dr_133 H, da_133 H, dr_134 H, da_134 H, dr_135 H, da_135 H, dr_136 H, da_136 H, dr_137 H, da_137 H, c_dAt Q, Option.isNone_some, Option.isSome_some, c_hasReed H V O, c_hasPlayer H V O, c_hasQuestion H V O, c_hasAll H V O, c_isAnswer, c_within, ib_0, e_Main_owns]
    · by_cases c3 : 0 ≤ x ∧ x < dOf (C 73) d 0
      · refine ⟨F, _, ?_, tq.rfl.sW (a := 70) (f := f) (by omega) (by omega)⟩
        simp (disch := omega) only [if_true, if_false, not_true_eq_false, not_false_eq_true, zoI_s, zoR_s, zoH_s, zoL_s, zbI_s, zbV_s, zbR_s, zbL_s, zif_dec, i32_0, ne_eq, i32_lt, i32_le, i32_eq, i32_add, i32_mul, i32_sub, i32_neg, zrz_0, zrz_1, zif_t, zif_f, zsF_s, zsF_k, zsF_a, zsC_s, zsC_a, zsC_i, zsW_s, zsW_a, Int.add_zero, Int.zero_add, true_and, false_and, and_false, Bool.false_eq_true, decide_true, decide_false, Bool.true_and, Bool.false_and, Bool.true_or, Bool.false_or, if_pos, if_neg, wv_0 S, wr_704 S, wr_705 S, wr_706 S, wr_707 S, wr_708 S, wr_709 S, wr_710 S, wr_711 S, wv_68 S, wr_384 S, wr_385 S, wr_386 S, tv_1 S, dv H, dg_128 H, dp_128 H, dg_129 H, dp_129 H, dg_130 H, dp_130 H, dg_131 H, dp_131 H, dr_132 H, da_132 H, dr_133 H, da_133 H, dr_134 H, da_134 H, dr_135 H, da_135 H, dr_136 H, da_136 H, dr_137 H, da_137 H, c_dAt Q, Option.isNone_some, Option.isSome_some, c_hasReed H V O, c_hasPlayer H V O, c_hasQuestion H V O, c_hasAll H V O, c_isAnswer, c_within, ib_0, e_Main_owns, e, c_ownerOf S H V O ha hf]
      · refine ⟨F, C, ?_, tq.rfl⟩
        simp (disch := omega) only [if_true, if_false, not_true_eq_false, not_false_eq_true, zoI_s, zoR_s, zoH_s, zoL_s, zbI_s, zbV_s, zbR_s, zbL_s, zif_dec, i32_0, ne_eq, i32_lt, i32_le, i32_eq, i32_add, i32_mul, i32_sub, i32_neg, zrz_0, zrz_1, zif_t, zif_f, zsF_s, zsF_k, zsF_a, zsC_s, zsC_a, zsC_i, zsW_s, zsW_a, Int.add_zero, Int.zero_add, true_and, false_and, and_false, Bool.false_eq_true, decide_true, decide_false, Bool.true_and, Bool.false_and, Bool.true_or, Bool.false_or, if_pos, if_neg, wv_0 S, wr_704 S, wr_705 S, wr_706 S, wr_707 S, wr_708 S, wr_709 S, wr_710 S, wr_711 S, wv_68 S, wr_384 S, wr_385 S, wr_386 S, tv_1 S, dv H, dg_128 H, dp_128 H, dg_129 H, dp_129 H, dg_130 H, dp_130 H, dg_131 H, dp_131 H, dr_132 H, da_132 H, dr_133 H, da_133 H, dr_134 H, da_134 H, dr_135 H, da_135 H, dr_136 H, da_136 H, dr_137 H, da_137 H, c_dAt Q, Option.isNone_some, Option.isSome_some, c_hasReed H V O, c_hasPlayer H V O, c_hasQuestion H V O, c_hasAll H V O, c_isAnswer, c_within, ib_0, e_Main_owns]
  · refine ⟨F, C, ?_, tq.rfl⟩
    simp (disch := omega) only [if_true, if_false, not_true_eq_false, not_false_eq_true, zoI_s, zoR_s, zoH_s, zoL_s, zbI_s, zbV_s, zbR_s, zbL_s, zif_dec, i32_0, ne_eq, i32_lt, i32_le, i32_eq, i32_add, i32_mul, i32_sub, i32_neg, zrz_0, zrz_1, zif_t, zif_f, zsF_s, zsF_k, zsF_a, zsC_s, zsC_a, zsC_i, zsW_s, zsW_a, Int.add_zero, Int.zero_add, true_and, false_and, and_false, Bool.false_eq_true, decide_true, decide_false, Bool.true_and, Bool.false_and, Bool.true_or, Bool.false_or, if_pos, if_neg, wv_0 S, wr_704 S, wr_705 S, wr_706 S, wr_707 S, wr_708 S, wr_709 S, wr_710 S, wr_711 S, tv_1 S, c_dAt0 Q, Option.isNone_none, Option.isSome_none, e_Main_owns]
/-! the reference: each who has none asks for one more -/
def mI (D ow as : Int → Int) : Prop := (∀ p, 0 ≤ p → p < D 1 → 0 ≤ as p ∧ as p < 64) ∧ (∀ r, 0 ≤ r → r < D 0 → -1 ≤ ow r ∧ ow r < D 1) ∧ (∀ r p, 0 ≤ r → r < D 0 → 0 ≤ p → ow r = p → bitI (as p) r = 1 ∧ ∀ x, 0 ≤ x → x < D 0 → bitI (as p) x = 1 → rkS D p x ≤ rkS D p r) ∧ (∀ p r, 0 ≤ p → p < D 1 → 0 ≤ r → r < D 0 → bitI (as p) r = 1 → ow r ≠ -1 ∧ kyS D (ow r) ≤ kyS D p) ∧ (∀ p r x, 0 ≤ p → p < D 1 → 0 ≤ r → r < D 0 → 0 ≤ x → x < D 0 → bitI (as p) r = 1 → rkS D p x ≤ rkS D p r → bitI (as p) x = 1)
def asN (as : Int → Int) : Int := bitsS (as 0) + bitsS (as 1) + bitsS (as 2) + bitsS (as 3)
def cntt (D ow as : Int → Int) (p : Int) : Prop := (∃ r, 0 ≤ r ∧ r < D 0 ∧ ow r = p) ∨ bstS D p (as p) = -1
def owN (D ow : Int → Int) (p r : Int) : Int → Int := if ow r = -1 ∨ kyS D p < kyS D (ow r) then up1 ow r p else ow
theorem mI_step {D ow as : Int → Int} (O : dOK D) (I : mI D ow as) {p r : Int} (p0 : 0 ≤ p) (p1 : p < D 1) (hn : ∀ x, 0 ≤ x → x < D 0 → ow x ≠ p) (hr : isBst D p (fun r => bitI (as p) r = 1) r) (r0 : r ≠ -1) : mI D (owN D ow p r) (up1 as p (orI (as p) r)) ∧ asN as < asN (up1 as p (orI (as p) r)) := by
  have b0 := O.1
  have b1 := O.2.1
  obtain ⟨iR, iO, iA, iB, iE⟩ := I
  rcases hr with ⟨h1, _⟩ | ⟨h1, h2, h3, h4⟩
  · exact absurd h1 r0
  have a1 := iR p p0 p1
  have a2 : bitI (as p) r = 0 := (bitI_01 _ _).resolve_right h3
  have o1 := orI_lt (s := as p) (r := r) (n := 6) a1.1 h1 (by omega) (by omega) a1.2
  have hs := fun t t0 t1 => bitI_or (s := as p) (r := r) (t := t) a1.1 (by omega) h1 (by omega) t0 t1
  have hb := bits_or a1.1 (by omega) h1 (by omega) a2
  refine ⟨⟨?_, ?_, ?_, ?_, ?_⟩, ?_⟩
  · intro q q0 q1
    by_cases c : q = p
    · rw [c, up1_s]; exact ⟨o1.1, o1.2.2⟩
    · rw [up1_n c]; exact iR q q0 q1
  · intro x x0 x1
    unfold owN
    split
    · by_cases c : x = r
      · rw [c, up1_s]; omega
      · rw [up1_n c]; exact iO x x0 x1
    · exact iO x x0 x1
  · intro x q x0 x1 q0 hq
    by_cases cq : q = p
    · by_cases cx : x = r
      · rw [cq, cx, up1_s]
        refine ⟨by rw [hs r h1 (by omega), if_pos rfl], fun y y0 y1 hy => ?_⟩
        rw [hs y y0 (by omega)] at hy
        by_cases cy : y = r
        · rw [cy]; omega
        · rw [if_neg cy] at hy
          have : ¬ rkS D p r ≤ rkS D p y := fun z => h3 (iE p y r p0 p1 y0 y1 h1 h2 hy z)
          omega
      · exfalso
        unfold owN at hq
        split at hq
        · rw [up1_n cx] at hq
          exact hn x x0 x1 (hq.trans cq)
        · exact hn x x0 x1 (hq.trans cq)
    · rw [up1_n cq]
      have hx : ow x = q := by
        unfold owN at hq
        split at hq
        · by_cases cx : x = r
          · rw [cx, up1_s] at hq; exact absurd hq.symm cq
          · rw [up1_n cx] at hq; exact hq
        · exact hq
      exact iA x q x0 x1 q0 hx
  · intro q x q0 q1 x0 x1 hq
    by_cases cqx : q = p ∧ x = r
    · rw [cqx.1, cqx.2]
      unfold owN
      by_cases c : ow r = -1 ∨ kyS D p < kyS D (ow r)
      · rw [if_pos c, up1_s]; omega
      · rw [if_neg c]
        exact ⟨fun z => c (Or.inl z), by have : ¬ kyS D p < kyS D (ow r) := fun z => c (Or.inr z); omega⟩
    · have hx : bitI (as q) x = 1 := by
        by_cases c : q = p
        · rw [c, up1_s, hs x x0 (by omega), if_neg (fun z => cqx ⟨c, z⟩)] at hq
          rw [c]; exact hq
        · rw [up1_n c] at hq; exact hq
      have g := iB q x q0 q1 x0 x1 hx
      unfold owN
      by_cases c : ow r = -1 ∨ kyS D p < kyS D (ow r)
      · rw [if_pos c]
        by_cases cx : x = r
        · rw [cx] at g ⊢
          rw [up1_s]
          have : kyS D p < kyS D (ow r) := c.elim (fun z => absurd z g.1) id
          exact ⟨by omega, by omega⟩
        · rw [up1_n cx]; exact g
      · rw [if_neg c]; exact g
  · intro q x y q0 q1 x0 x1 y0 y1 hx hy
    by_cases c : q = p
    · rw [c] at hy
      rw [c, up1_s, hs x x0 (by omega)] at hx
      rw [c, up1_s, hs y y0 (by omega)]
      by_cases cy : y = r
      · rw [if_pos cy]
      · rw [if_neg cy]
        by_cases cx : x = r
        · rcases bitI_01 (as p) y with z | z
          · have := h4 y y0 y1 (by omega)
            rw [cx] at hy
            exact absurd (rk_inj (p := p) O y0 y1 h1 h2 (by omega)) cy
          · exact z
        · rw [if_neg cx] at hx
          exact iE p x y p0 p1 x0 x1 y0 y1 hx hy
    · rw [up1_n c] at hx ⊢
      exact iE q x y q0 q1 x0 x1 y0 y1 hx hy
  · unfold asN
    rcases (show p = 0 ∨ p = 1 ∨ p = 2 ∨ p = 3 by omega) with rfl | rfl | rfl | rfl <;> simp (decide := true) only [up1, if_true, if_false] <;> omega
theorem mI_own {D ow as : Int → Int} (O : dOK D) (I : mI D ow as) (hc : ∀ p, 0 ≤ p → p < D 1 → cntt D ow as p) : (∀ p, 0 ≤ p → p < D 1 → fstF (fun r => decide (ow r = p)) 0 (D 0).toNat = ownS D p) ∧ (∀ x, 0 ≤ x → x < D 0 → ow x = ownerQ D x) := by
  have b0 := O.1
  have b1 := O.2.1
  obtain ⟨iR, iO, iA, iB, iE⟩ := I
  have u : ∀ x y, 0 ≤ x → x < D 0 → 0 ≤ y → y < D 0 → ow x = ow y → 0 ≤ ow x → x = y := by
    intro x y x0 x1 y0 y1 e e0
    have g1 := iA x (ow x) x0 x1 e0 rfl
    have g2 := iA y (ow x) y0 y1 e0 e.symm
    have k1 := g1.2 y y0 y1 g2.1
    have k2 := g2.2 x x0 x1 g1.1
    exact rk_inj (p := ow x) O x0 x1 y0 y1 (by omega)
  have fs := fun p => fstF_spec (fun r => decide (ow r = p)) (D 0).toNat 0 (by omega)
  have f1 : ∀ x, 0 ≤ x → x < D 0 → 0 ≤ ow x → fstF (fun r => decide (ow r = ow x)) 0 (D 0).toNat = x := by
    intro x x0 x1 e0
    rcases fs (ow x) with ⟨_, g⟩ | ⟨g1, g2, g3, g4⟩
    · have := of_decide_eq_false (g x x0 (by omega))
      exact absurd rfl this
    · have := of_decide_eq_true g3
      exact u _ _ g1 (by omega) x0 x1 this (by rw [this]; exact e0)
  have f2 : ∀ p r, fstF (fun r => decide (ow r = p)) 0 (D 0).toNat = r → 0 ≤ r → 0 ≤ r ∧ r < D 0 ∧ ow r = p := by
    intro p r e r0
    rcases fs p with ⟨g, _⟩ | ⟨g1, g2, g3, g4⟩
    · omega
    · rw [e] at g1 g2 g3
      exact ⟨r0, by omega, of_decide_eq_true g3⟩
  have P : ownP D (fun p => fstF (fun r => decide (ow r = p)) 0 (D 0).toNat) := by
    intro p p0 p1
    dsimp only
    have tt : ∀ r, 0 ≤ r → r < D 0 → ow r ≠ -1 → ow r ≠ p → kyS D (ow r) ≤ kyS D p → ∃ s, 0 ≤ s ∧ s < D 1 ∧ kyS D s < kyS D p ∧ fstF (fun r => decide (ow r = s)) 0 (D 0).toNat = r := by
      intro r r0 r1 h1 h2 h3
      have g := iO r r0 r1
      refine ⟨ow r, by omega, g.2, ?_, f1 r r0 r1 (by omega)⟩
      have : kyS D (ow r) ≠ kyS D p := fun z => h2 (ky_inj O (by omega) g.2 p0 p1 z)
      omega
    by_cases hx : ∃ r, 0 ≤ r ∧ r < D 0 ∧ ow r = p
    · obtain ⟨r, r0, r1, r2⟩ := hx
      have er : fstF (fun r => decide (ow r = p)) 0 (D 0).toNat = r := by rw [← r2]; exact f1 r r0 r1 (by omega)
      rw [er]
      refine Or.inr ⟨r0, r1, ?_, fun x x0 x1 hx => ?_⟩
      · rintro ⟨s, s0, s1, s2, s3⟩
        have := (f2 s r s3 r0).2.2
        rw [r2] at this
        rw [this] at s2
        omega
      · have g := (iA r p r0 r1 p0 r2).1
        have key : ¬ rkS D p x < rkS D p r := by
          intro z
          have k := iB p x p0 p1 x0 x1 (iE p r x p0 p1 r0 r1 x0 x1 g (by omega))
          refine hx (tt x x0 x1 k.1 (fun z2 => ?_) k.2)
          have := u x r x0 x1 r0 r1 (z2.trans r2.symm) (by omega)
          rw [this] at z
          omega
        omega
    · have e := (hc p p0 p1).resolve_left hx
      rcases bst_spec O p (as p) with ⟨g1, g2⟩ | ⟨g1, _⟩
      · rcases fs p with ⟨k1, _⟩ | ⟨k1, k2, k3, _⟩
        · refine Or.inl ⟨k1, fun r r0 r1 => ?_⟩
          have k := iB p r p0 p1 r0 r1 (g2 r r0 r1)
          exact tt r r0 r1 k.1 (fun z => hx ⟨r, r0, r1, z⟩) k.2
        · exact absurd ⟨_, k1, by omega, of_decide_eq_true k3⟩ hx
      · omega
  have U := own_uniq O P (ownS_P O)
  refine ⟨U, fun x x0 x1 => ?_⟩
  have g := iO x x0 x1
  rcases fstF_spec (fun p => decide (ownS D p = x)) (D 1).toNat 0 (by omega) with ⟨k1, k2⟩ | ⟨k1, k2, k3, k4⟩
  · unfold ownerQ
    rw [k1]
    by_cases c : ow x = -1
    · exact c
    · have := of_decide_eq_false (k2 (ow x) (by omega) (by omega))
      rw [← U (ow x) (by omega) g.2] at this
      exact absurd (f1 x x0 x1 (by omega)) this
  · have e := of_decide_eq_true k3
    unfold ownerQ
    rw [← U _ k1 (by omega)] at e
    exact (f2 _ x e x0).2.2
