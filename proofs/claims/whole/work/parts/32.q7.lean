/-! the heap of notes -/
theorem sm_zero {f : Int → Int} {n : Int} (h : ∀ k, 0 ≤ k → k < n → f k = 0) : sm f n = 0 := (sm_congr h).trans (sm_z n)
def addR (f : Int → Int) (n : Int) : Int → Int := fun j => f j + if n = j ∧ 0 ≤ j then 1 else 0
def fil8 (f : Int → Int) : Int → Int := fun j => if 0 ≤ j ∧ j < 8 then 0 else f j
def gthR (D : Int → Int) (c : Int) (j : Int) : Int := sm (fun r => sm (fun p => sm (fun q => if noteS D (D (4 + 2 * r)) (D (5 + 2 * r)) c p q = j ∧ 0 ≤ j then 1 else 0) (D 2)) (D 1)) (D 0)
theorem duV.sW {F : Nat → Nat → Int} {C : Nat → Int → Int} {a : Nat} {D : Int → Int} (V : duV F C a D) {b : Nat} (f : Int → Int) (ha : a ≤ 28) (hb : 35 ≤ b) : duV F (zsW C b f) a D := by
  unfold duV
  rw [zsW_a (by omega), zsW_a (by omega), zsW_a (by omega), zsW_a (by omega), zsW_a (by omega), zsW_a (by omega)]
  exact V
section A9
variable {h : zHeap} {F : Nat → Nat → Int} {C : Nat → Int → Int} {a : Nat} {D : Int → Int}
theorem c_fill69 (S : St h) : zc 324 [zR (some 69), zI (i32 0)] (zw h F C) = some (zI 0, zw h F (zsW C 69 (fil8 (C 69)))) := c_fill (n := 8) (S.2.2.2.1 (69, 8) (List.mem_of_getElem? (l := wRW) (i := 15) rfl)) (by unfold zK0; omega) (by omega)
theorem c_addNote (S : St h) {n : Int} {f : Int → Int} (n0 : -1 ≤ n) (n1 : n ≤ 7) : zc 95 [zR (some 68), zI (i32 n)] (zw h F (zsW C 69 f)) = some (zI 0, zw h F (zsW C 69 (addR f n))) := by
  rw [e_Survey_addNote]
  by_cases c : n < 0
  · have e : addR f n = f := by funext j; unfold addR; rw [if_neg (by omega)]; omega
    rw [e]
    simp (disch := omega) only [if_true, if_false, not_true_eq_false, not_false_eq_true, zoI_s, zoR_s, zoH_s, zoL_s, zbI_s, zbV_s, zbR_s, zbL_s, zif_dec, i32_0, ne_eq, i32_lt, i32_le, i32_eq, i32_add, i32_mul, i32_sub, i32_neg, zrz_0, zrz_1, zif_t, zif_f, zsF_s, zsF_k, zsF_a, zsC_s, zsC_a, zsC_i, zsW_s, zsW_a, Int.add_zero, Int.zero_add, if_pos, if_neg]
  · have e : addR f n = up1 f n (f n + 1) := by
      funext j
      unfold addR up1
      by_cases cj : j = n
      · rw [if_pos (by omega), if_pos cj, cj]
      · rw [if_neg (by omega), if_neg cj]; omega
    rw [e]
    simp (disch := omega) only [if_true, if_false, not_true_eq_false, not_false_eq_true, zoI_s, zoR_s, zoH_s, zoL_s, zbI_s, zbV_s, zbR_s, zbL_s, zif_dec, i32_0, ne_eq, i32_lt, i32_le, i32_eq, i32_add, i32_mul, i32_sub, i32_neg, zrz_0, zrz_1, zif_t, zif_f, zsF_s, zsF_k, zsF_a, zsC_s, zsC_a, zsC_i, zsW_s, zsW_a, Int.add_zero, Int.zero_add, if_pos, if_neg, wv_68 S, wr_384 S, wr_385 S, wr_386 S, wa_69 S, ws_69 S, zsC_W, zsW_W]
theorem c_gatherNotes (S : St h) (H : duS h a) (V : duV F C a D) (O : dOK D) (ha : a ≤ 28) {c : Int} (c0 : 0 ≤ c) (c1 : c ≤ 9) : zc 94 [zR (some 68), zR (some a), zI (i32 c)] (zw h F C) = some (zI 0, zw h F (zsW C 69 (fun j => fil8 (C 69) j + gthR D c j))) := by
  have b0 := O.1
  have b1 := O.2.1
  have b2 := O.2.2.1
  have L3 := fun r p f (r0 : 0 ≤ r) (r1 : r < D 0) (p0 : 0 ≤ p) (p1 : p < D 1) => zrowJ (fun q f (_ : Unit) => zr 94 18 [yR (some 68), yR (some a), yI (i32 c), yI (i32 r), yI (i32 p), yI (i32 q)] [] (zw h F (zsW C 69 f))) (fun q j => if noteS D (D (4 + 2 * r)) (D (5 + 2 * r)) c p q = j ∧ 0 ≤ j then 1 else 0) (fun _ => True) (D 2) (by omega) (fun q f _ q0 q1 _ => by
    have g1 := noteS_rng (D := D) (w := D (4 + 2 * r)) (k := D (5 + 2 * r)) (c := c) (p := p) (q := q)
    have b3 := O.2.2.2.2.1 r r0 r1
    have b4 := O.2.2.2.2.2.1 r r0 r1
    refine ⟨(), ?_, trivial⟩
    rw [e_Survey_gatherNotes_18]
    simp (disch := omega) only [if_true, if_false, not_true_eq_false, not_false_eq_true, zoI_s, zoR_s, zoH_s, zoL_s, zbI_s, zbV_s, zbR_s, zbL_s, zif_dec, i32_0, ne_eq, i32_lt, i32_le, i32_eq, i32_add, i32_mul, i32_sub, i32_neg, zrz_0, zrz_1, zif_t, zif_f, zsF_s, zsF_k, zsF_a, zsC_s, zsC_a, zsC_i, zsW_s, zsW_a, Int.add_zero, Int.zero_add, if_pos, if_neg, dv H, dg_128 H, dp_128 H, dg_129 H, dp_129 H, dg_130 H, dp_130 H, dg_131 H, dp_131 H, dr_132 H, da_132 H, dr_133 H, da_133 H, dr_134 H, da_134 H, dr_135 H, da_135 H, dr_136 H, da_136 H, dr_137 H, da_137 H, V.1.1, V.1.2.1, V.1.2.2.1, V.1.2.2.2, c_answerOf H V O, c_noteOf H V O, c_meaning H V, V.2.1, V.2.2.1, wv_68 S, wr_384 S, wr_385 S, wr_386 S, c_noteAt H (V.sW (b := 69) f ha (by omega)) O, c_addNote S]
    rfl) f () trivial
  have L2 := fun r f (r0 : 0 ≤ r) (r1 : r < D 0) s => zrowJ (fun p f (s : Option zVal) => zr 94 12 [yR (some 68), yR (some a), yI (i32 c), yI (i32 r), yI (i32 p), s] [] (zw h F (zsW C 69 f))) (fun p j => sm (fun q => if noteS D (D (4 + 2 * r)) (D (5 + 2 * r)) c p q = j ∧ 0 ≤ j then 1 else 0) (D 2)) (fun _ => True) (D 1) (by omega) (fun p f s p0 p1 _ => by
    obtain ⟨_, e, _⟩ := L3 r p f r0 r1 p0 p1
    rw [e_Survey_gatherNotes_12]
    simp (disch := omega) only [if_true, if_false, not_true_eq_false, not_false_eq_true, zoI_s, zoR_s, zoH_s, zoL_s, zbI_s, zbV_s, zbR_s, zbL_s, zif_dec, i32_0, ne_eq, i32_lt, i32_le, i32_eq, i32_add, i32_mul, i32_sub, i32_neg, zrz_0, zrz_1, zif_t, zif_f, zsF_s, zsF_k, zsF_a, zsC_s, zsC_a, zsC_i, zsW_s, zsW_a, Int.add_zero, Int.zero_add, if_pos, if_neg, dv H, dg_128 H, dp_128 H, dg_129 H, dp_129 H, dg_130 H, dp_130 H, dg_131 H, dp_131 H, dr_132 H, da_132 H, dr_133 H, da_133 H, dr_134 H, da_134 H, dr_135 H, da_135 H, dr_136 H, da_136 H, dr_137 H, da_137 H, V.1.1, V.1.2.1, V.1.2.2.1, V.1.2.2.2, c_answerOf H V O, c_noteOf H V O, c_meaning H V, e]
    rw [e_Survey_gatherNotes_18]
    simp (disch := omega) only [if_true, if_false, not_true_eq_false, not_false_eq_true, zoI_s, zoR_s, zoH_s, zoL_s, zbI_s, zbV_s, zbR_s, zbL_s, zif_dec, i32_0, ne_eq, i32_lt, i32_le, i32_eq, i32_add, i32_mul, i32_sub, i32_neg, zrz_0, zrz_1, zif_t, zif_f, zsF_s, zsF_k, zsF_a, zsC_s, zsC_a, zsC_i, zsW_s, zsW_a, Int.add_zero, Int.zero_add, if_pos, if_neg, dv H, dg_128 H, dp_128 H, dg_129 H, dp_129 H, dg_130 H, dp_130 H, dg_131 H, dp_131 H, dr_132 H, da_132 H, dr_133 H, da_133 H, dr_134 H, da_134 H, dr_135 H, da_135 H, dr_136 H, da_136 H, dr_137 H, da_137 H, V.1.1, V.1.2.1, V.1.2.2.1, V.1.2.2.2, c_answerOf H V O, c_noteOf H V O, c_meaning H V]
    exact ⟨_, rfl, trivial⟩) f s trivial
  obtain ⟨s, L1, _⟩ := zrowJ (fun r f (s : Option zVal) => zr 94 6 [yR (some 68), yR (some a), yI (i32 c), yI (i32 r), none, s] [] (zw h F (zsW C 69 f))) (fun r j => sm (fun p => sm (fun q => if noteS D (D (4 + 2 * r)) (D (5 + 2 * r)) c p q = j ∧ 0 ≤ j then 1 else 0) (D 2)) (D 1)) (fun _ => True) (D 0) (by omega) (fun r f s r0 r1 _ => by
    obtain ⟨s', e, _⟩ := L2 r f r0 r1 s
    rw [e_Survey_gatherNotes_6]
    simp (disch := omega) only [if_true, if_false, not_true_eq_false, not_false_eq_true, zoI_s, zoR_s, zoH_s, zoL_s, zbI_s, zbV_s, zbR_s, zbL_s, zif_dec, i32_0, ne_eq, i32_lt, i32_le, i32_eq, i32_add, i32_mul, i32_sub, i32_neg, zrz_0, zrz_1, zif_t, zif_f, zsF_s, zsF_k, zsF_a, zsC_s, zsC_a, zsC_i, zsW_s, zsW_a, Int.add_zero, Int.zero_add, if_pos, if_neg, dv H, dg_128 H, dp_128 H, dg_129 H, dp_129 H, dg_130 H, dp_130 H, dg_131 H, dp_131 H, dr_132 H, da_132 H, dr_133 H, da_133 H, dr_134 H, da_134 H, dr_135 H, da_135 H, dr_136 H, da_136 H, dr_137 H, da_137 H, V.1.1, V.1.2.1, V.1.2.2.1, V.1.2.2.2, c_answerOf H V O, c_noteOf H V O, c_meaning H V, e]
    rw [e_Survey_gatherNotes_12]
    simp (disch := omega) only [if_true, if_false, not_true_eq_false, not_false_eq_true, zoI_s, zoR_s, zoH_s, zoL_s, zbI_s, zbV_s, zbR_s, zbL_s, zif_dec, i32_0, ne_eq, i32_lt, i32_le, i32_eq, i32_add, i32_mul, i32_sub, i32_neg, zrz_0, zrz_1, zif_t, zif_f, zsF_s, zsF_k, zsF_a, zsC_s, zsC_a, zsC_i, zsW_s, zsW_a, Int.add_zero, Int.zero_add, if_pos, if_neg, dv H, dg_128 H, dp_128 H, dg_129 H, dp_129 H, dg_130 H, dp_130 H, dg_131 H, dp_131 H, dr_132 H, da_132 H, dr_133 H, da_133 H, dr_134 H, da_134 H, dr_135 H, da_135 H, dr_136 H, da_136 H, dr_137 H, da_137 H, V.1.1, V.1.2.1, V.1.2.2.1, V.1.2.2.2, c_answerOf H V O, c_noteOf H V O, c_meaning H V, d_Survey_gatherNotes_6_w4]
    exact ⟨_, rfl, trivial⟩) (fil8 (C 69)) none trivial
  rw [e_Survey_gatherNotes]
  simp (disch := omega) only [if_true, if_false, not_true_eq_false, not_false_eq_true, zoI_s, zoR_s, zoH_s, zoL_s, zbI_s, zbV_s, zbR_s, zbL_s, zif_dec, i32_0, ne_eq, i32_lt, i32_le, i32_eq, i32_add, i32_mul, i32_sub, i32_neg, zrz_0, zrz_1, zif_t, zif_f, zsF_s, zsF_k, zsF_a, zsC_s, zsC_a, zsC_i, zsW_s, zsW_a, Int.add_zero, Int.zero_add, if_pos, if_neg, wv_68 S, wr_384 S, wr_385 S, wr_386 S, c_fill69 S, L1]
  rw [e_Survey_gatherNotes_6]
  simp (disch := omega) only [if_true, if_false, not_true_eq_false, not_false_eq_true, zoI_s, zoR_s, zoH_s, zoL_s, zbI_s, zbV_s, zbR_s, zbL_s, zif_dec, i32_0, ne_eq, i32_lt, i32_le, i32_eq, i32_add, i32_mul, i32_sub, i32_neg, zrz_0, zrz_1, zif_t, zif_f, zsF_s, zsF_k, zsF_a, zsC_s, zsC_a, zsC_i, zsW_s, zsW_a, Int.add_zero, Int.zero_add, if_pos, if_neg, dv H, dg_128 H, dp_128 H, dg_129 H, dp_129 H, dg_130 H, dp_130 H, dg_131 H, dp_131 H, dr_132 H, da_132 H, dr_133 H, da_133 H, dr_134 H, da_134 H, dr_135 H, da_135 H, dr_136 H, da_136 H, dr_137 H, da_137 H, V.1.1, V.1.2.1, V.1.2.2.1, V.1.2.2.2, c_answerOf H V O, c_noteOf H V O, c_meaning H V]
  rfl
/-! lows -/
def lowS (D : Int → Int) : Int := sm (fun r => sm (fun p => sm (fun q => if nteS D r p q = 0 then 1 else 0) (D 2)) (D 1)) (D 0)
theorem gthR_0 (D : Int → Int) : gthR D (D 3) 0 = lowS D := by
  unfold gthR lowS
  refine sm_congr (fun r _ _ => sm_congr (fun p _ _ => sm_congr (fun q _ _ => ?_)))
  rw [show noteS D (D (4 + 2 * r)) (D (5 + 2 * r)) (D 3) p q = nteS D r p q from rfl]
  by_cases c : nteS D r p q = 0
  · rw [if_pos c, if_pos (by omega)]
  · rw [if_neg c, if_neg (by omega)]
theorem m_lowsL (S : St h) (M : moV F C D) (O : dOK D) {d : Int} : ∃ w u c, zr 253 10 [yR (some 72), yI (i32 d), yI (i32 0), yI (i32 0), none, none] [] (zw h F C) = some (zI (i32 (lowS D)), zw h (mlF F w u c) C) := by
  have b0 := O.1
  have b1 := O.2.1
  have b2 := O.2.2.1
  have L3 := fun r p n (r0 : 0 ≤ r) (r1 : r < D 0) (p0 : 0 ≤ p) (p1 : p < D 1) => zsm (fun q n => zr 253 25 [yR (some 72), yI (i32 d), yI (i32 n), yI (i32 r), yI (i32 p), yI (i32 q)] [] (zw h (mlF F (D (4 + 2 * r)) (D (5 + 2 * r)) (D 3)) C)) (fun q => if nteS D r p q = 0 then 1 else 0) (D 2) (by omega) (fun q n q0 q1 => by
    have g1 := nteS_rng (D := D) r p q
    rw [e_Model_lows_25]
    by_cases c : nteS D r p q = 0
    · simp (disch := omega) only [if_true, if_false, not_true_eq_false, not_false_eq_true, zoI_s, zoR_s, zoH_s, zoL_s, zbI_s, zbV_s, zbR_s, zbL_s, zif_dec, i32_0, ne_eq, i32_lt, i32_le, i32_eq, i32_add, i32_mul, i32_sub, i32_neg, zrz_0, zrz_1, zif_t, zif_f, zsF_s, zsF_k, zsF_a, zsC_s, zsC_a, zsC_i, zsW_s, zsW_a, Int.add_zero, Int.zero_add, if_pos, if_neg, wv_72 S, wr_768 S, wr_769 S, wr_777 S, wr_785 S, wr_786 S, wr_787 S, wr_789 S, wr_790 S, wr_791 S, wr_802 S, wr_803 S, wr_804 S, wr_805 S, wr_806 S, wr_807 S, wr_809 S, wg_770 S, wp_770 S, wg_771 S, wp_771 S, wg_772 S, wp_772 S, wg_773 S, wp_773 S, wg_774 S, wp_774 S, wg_775 S, wp_775 S, wg_776 S, wp_776 S, wg_778 S, wp_778 S, wg_779 S, wp_779 S, wg_780 S, wp_780 S, wg_781 S, wp_781 S, wg_782 S, wp_782 S, wg_783 S, wp_783 S, wg_784 S, wp_784 S, wg_788 S, wp_788 S, wg_792 S, wp_792 S, wg_793 S, wp_793 S, wg_794 S, wp_794 S, wg_795 S, wp_795 S, wg_796 S, wp_796 S, wg_797 S, wp_797 S, wg_798 S, wp_798 S, wg_799 S, wp_799 S, wg_800 S, wp_800 S, wg_801 S, wp_801 S, wg_808 S, wp_808 S, wg_810 S, wp_810 S, mlF_o, M.2.1.1, M.2.1.2.1, M.2.1.2.2, m_lays S (M.ml _ _ _) O, mlF_ml, m_ans S M O, m_nte S M O, m_meant S (M.ml _ _ _), mlF_0, mlF_1, mlF_2, mlF_w, mlF_k, mlF_c, c]
    · simp (disch := omega) only [if_true, if_false, not_true_eq_false, not_false_eq_true, zoI_s, zoR_s, zoH_s, zoL_s, zbI_s, zbV_s, zbR_s, zbL_s, zif_dec, i32_0, ne_eq, i32_lt, i32_le, i32_eq, i32_add, i32_mul, i32_sub, i32_neg, zrz_0, zrz_1, zif_t, zif_f, zsF_s, zsF_k, zsF_a, zsC_s, zsC_a, zsC_i, zsW_s, zsW_a, Int.add_zero, Int.zero_add, if_pos, if_neg, wv_72 S, wr_768 S, wr_769 S, wr_777 S, wr_785 S, wr_786 S, wr_787 S, wr_789 S, wr_790 S, wr_791 S, wr_802 S, wr_803 S, wr_804 S, wr_805 S, wr_806 S, wr_807 S, wr_809 S, wg_770 S, wp_770 S, wg_771 S, wp_771 S, wg_772 S, wp_772 S, wg_773 S, wp_773 S, wg_774 S, wp_774 S, wg_775 S, wp_775 S, wg_776 S, wp_776 S, wg_778 S, wp_778 S, wg_779 S, wp_779 S, wg_780 S, wp_780 S, wg_781 S, wp_781 S, wg_782 S, wp_782 S, wg_783 S, wp_783 S, wg_784 S, wp_784 S, wg_788 S, wp_788 S, wg_792 S, wp_792 S, wg_793 S, wp_793 S, wg_794 S, wp_794 S, wg_795 S, wp_795 S, wg_796 S, wp_796 S, wg_797 S, wp_797 S, wg_798 S, wp_798 S, wg_799 S, wp_799 S, wg_800 S, wp_800 S, wg_801 S, wp_801 S, wg_808 S, wp_808 S, wg_810 S, wp_810 S, mlF_o, M.2.1.1, M.2.1.2.1, M.2.1.2.2, m_lays S (M.ml _ _ _) O, mlF_ml, m_ans S M O, m_nte S M O, m_meant S (M.ml _ _ _), mlF_0, mlF_1, mlF_2, mlF_w, mlF_k, mlF_c]) n
  have L2 := fun r n (r0 : 0 ≤ r) (r1 : r < D 0) s => zsmJ (fun p n (s : Option zVal) => zr 253 19 [yR (some 72), yI (i32 d), yI (i32 n), yI (i32 r), yI (i32 p), s] [] (zw h (mlF F (D (4 + 2 * r)) (D (5 + 2 * r)) (D 3)) C)) (fun p => sm (fun q => if nteS D r p q = 0 then 1 else 0) (D 2)) (fun _ => True) (D 1) (by omega) (fun p n s p0 p1 _ => by
    rw [e_Model_lows_19]
    simp (disch := omega) only [if_true, if_false, not_true_eq_false, not_false_eq_true, zoI_s, zoR_s, zoH_s, zoL_s, zbI_s, zbV_s, zbR_s, zbL_s, zif_dec, i32_0, ne_eq, i32_lt, i32_le, i32_eq, i32_add, i32_mul, i32_sub, i32_neg, zrz_0, zrz_1, zif_t, zif_f, zsF_s, zsF_k, zsF_a, zsC_s, zsC_a, zsC_i, zsW_s, zsW_a, Int.add_zero, Int.zero_add, if_pos, if_neg, wv_72 S, wr_768 S, wr_769 S, wr_777 S, wr_785 S, wr_786 S, wr_787 S, wr_789 S, wr_790 S, wr_791 S, wr_802 S, wr_803 S, wr_804 S, wr_805 S, wr_806 S, wr_807 S, wr_809 S, wg_770 S, wp_770 S, wg_771 S, wp_771 S, wg_772 S, wp_772 S, wg_773 S, wp_773 S, wg_774 S, wp_774 S, wg_775 S, wp_775 S, wg_776 S, wp_776 S, wg_778 S, wp_778 S, wg_779 S, wp_779 S, wg_780 S, wp_780 S, wg_781 S, wp_781 S, wg_782 S, wp_782 S, wg_783 S, wp_783 S, wg_784 S, wp_784 S, wg_788 S, wp_788 S, wg_792 S, wp_792 S, wg_793 S, wp_793 S, wg_794 S, wp_794 S, wg_795 S, wp_795 S, wg_796 S, wp_796 S, wg_797 S, wp_797 S, wg_798 S, wp_798 S, wg_799 S, wp_799 S, wg_800 S, wp_800 S, wg_801 S, wp_801 S, wg_808 S, wp_808 S, wg_810 S, wp_810 S, mlF_o, M.2.1.1, M.2.1.2.1, M.2.1.2.2, m_lays S (M.ml _ _ _) O, mlF_ml, m_ans S M O, m_nte S M O, m_meant S (M.ml _ _ _), mlF_0, mlF_1, mlF_2, mlF_w, mlF_k, mlF_c, L3 r p n r0 r1 p0 p1]
    rw [e_Model_lows_25]
    simp (disch := omega) only [if_true, if_false, not_true_eq_false, not_false_eq_true, zoI_s, zoR_s, zoH_s, zoL_s, zbI_s, zbV_s, zbR_s, zbL_s, zif_dec, i32_0, ne_eq, i32_lt, i32_le, i32_eq, i32_add, i32_mul, i32_sub, i32_neg, zrz_0, zrz_1, zif_t, zif_f, zsF_s, zsF_k, zsF_a, zsC_s, zsC_a, zsC_i, zsW_s, zsW_a, Int.add_zero, Int.zero_add, if_pos, if_neg, wv_72 S, wr_768 S, wr_769 S, wr_777 S, wr_785 S, wr_786 S, wr_787 S, wr_789 S, wr_790 S, wr_791 S, wr_802 S, wr_803 S, wr_804 S, wr_805 S, wr_806 S, wr_807 S, wr_809 S, wg_770 S, wp_770 S, wg_771 S, wp_771 S, wg_772 S, wp_772 S, wg_773 S, wp_773 S, wg_774 S, wp_774 S, wg_775 S, wp_775 S, wg_776 S, wp_776 S, wg_778 S, wp_778 S, wg_779 S, wp_779 S, wg_780 S, wp_780 S, wg_781 S, wp_781 S, wg_782 S, wp_782 S, wg_783 S, wp_783 S, wg_784 S, wp_784 S, wg_788 S, wp_788 S, wg_792 S, wp_792 S, wg_793 S, wp_793 S, wg_794 S, wp_794 S, wg_795 S, wp_795 S, wg_796 S, wp_796 S, wg_797 S, wp_797 S, wg_798 S, wp_798 S, wg_799 S, wp_799 S, wg_800 S, wp_800 S, wg_801 S, wp_801 S, wg_808 S, wp_808 S, wg_810 S, wp_810 S, mlF_o, M.2.1.1, M.2.1.2.1, M.2.1.2.2, m_lays S (M.ml _ _ _) O, mlF_ml, m_ans S M O, m_nte S M O, m_meant S (M.ml _ _ _), mlF_0, mlF_1, mlF_2, mlF_w, mlF_k, mlF_c]
    exact ⟨_, rfl, trivial⟩) n s trivial
  obtain ⟨s, L1, _⟩ := zsmJ (fun r n (s : Option zVal × Int × Int × Int) => zr 253 10 [yR (some 72), yI (i32 d), yI (i32 n), yI (i32 r), none, s.1] [] (zw h (mlF F s.2.1 s.2.2.1 s.2.2.2) C)) (fun r => sm (fun p => sm (fun q => if nteS D r p q = 0 then 1 else 0) (D 2)) (D 1)) (fun _ => True) (D 0) (by omega) (fun r n s r0 r1 _ => by
    obtain ⟨s', e, _⟩ := L2 r n r0 r1 s.1
    rw [e_Model_lows_10]
    simp (disch := omega) only [if_true, if_false, not_true_eq_false, not_false_eq_true, zoI_s, zoR_s, zoH_s, zoL_s, zbI_s, zbV_s, zbR_s, zbL_s, zif_dec, i32_0, ne_eq, i32_lt, i32_le, i32_eq, i32_add, i32_mul, i32_sub, i32_neg, zrz_0, zrz_1, zif_t, zif_f, zsF_s, zsF_k, zsF_a, zsC_s, zsC_a, zsC_i, zsW_s, zsW_a, Int.add_zero, Int.zero_add, if_pos, if_neg, wv_72 S, wr_768 S, wr_769 S, wr_777 S, wr_785 S, wr_786 S, wr_787 S, wr_789 S, wr_790 S, wr_791 S, wr_802 S, wr_803 S, wr_804 S, wr_805 S, wr_806 S, wr_807 S, wr_809 S, wg_770 S, wp_770 S, wg_771 S, wp_771 S, wg_772 S, wp_772 S, wg_773 S, wp_773 S, wg_774 S, wp_774 S, wg_775 S, wp_775 S, wg_776 S, wp_776 S, wg_778 S, wp_778 S, wg_779 S, wp_779 S, wg_780 S, wp_780 S, wg_781 S, wp_781 S, wg_782 S, wp_782 S, wg_783 S, wp_783 S, wg_784 S, wp_784 S, wg_788 S, wp_788 S, wg_792 S, wp_792 S, wg_793 S, wp_793 S, wg_794 S, wp_794 S, wg_795 S, wp_795 S, wg_796 S, wp_796 S, wg_797 S, wp_797 S, wg_798 S, wp_798 S, wg_799 S, wp_799 S, wg_800 S, wp_800 S, wg_801 S, wp_801 S, wg_808 S, wp_808 S, wg_810 S, wp_810 S, mlF_o, M.2.1.1, M.2.1.2.1, M.2.1.2.2, m_lays S (M.ml _ _ _) O, mlF_ml, m_ans S M O, m_nte S M O, m_meant S (M.ml _ _ _), mlF_0, mlF_1, mlF_2, mlF_w, mlF_k, mlF_c, e]
    rw [e_Model_lows_19]
    simp (disch := omega) only [if_true, if_false, not_true_eq_false, not_false_eq_true, zoI_s, zoR_s, zoH_s, zoL_s, zbI_s, zbV_s, zbR_s, zbL_s, zif_dec, i32_0, ne_eq, i32_lt, i32_le, i32_eq, i32_add, i32_mul, i32_sub, i32_neg, zrz_0, zrz_1, zif_t, zif_f, zsF_s, zsF_k, zsF_a, zsC_s, zsC_a, zsC_i, zsW_s, zsW_a, Int.add_zero, Int.zero_add, if_pos, if_neg, wv_72 S, wr_768 S, wr_769 S, wr_777 S, wr_785 S, wr_786 S, wr_787 S, wr_789 S, wr_790 S, wr_791 S, wr_802 S, wr_803 S, wr_804 S, wr_805 S, wr_806 S, wr_807 S, wr_809 S, wg_770 S, wp_770 S, wg_771 S, wp_771 S, wg_772 S, wp_772 S, wg_773 S, wp_773 S, wg_774 S, wp_774 S, wg_775 S, wp_775 S, wg_776 S, wp_776 S, wg_778 S, wp_778 S, wg_779 S, wp_779 S, wg_780 S, wp_780 S, wg_781 S, wp_781 S, wg_782 S, wp_782 S, wg_783 S, wp_783 S, wg_784 S, wp_784 S, wg_788 S, wp_788 S, wg_792 S, wp_792 S, wg_793 S, wp_793 S, wg_794 S, wp_794 S, wg_795 S, wp_795 S, wg_796 S, wp_796 S, wg_797 S, wp_797 S, wg_798 S, wp_798 S, wg_799 S, wp_799 S, wg_800 S, wp_800 S, wg_801 S, wp_801 S, wg_808 S, wp_808 S, wg_810 S, wp_810 S, mlF_o, M.2.1.1, M.2.1.2.1, M.2.1.2.2, m_lays S (M.ml _ _ _) O, mlF_ml, m_ans S M O, m_nte S M O, m_meant S (M.ml _ _ _), mlF_0, mlF_1, mlF_2, mlF_w, mlF_k, mlF_c, d_Model_lows_10_w4]
    exact ⟨(_, _, _, _), rfl, trivial⟩) 0 (none, F 782 72, F 783 72, F 784 72) trivial
  dsimp only at L1
  rw [mlF_id] at L1
  refine ⟨s.2.1, s.2.2.1, s.2.2.2, ?_⟩
  rw [L1, e_Model_lows_10]
  simp (disch := omega) only [if_true, if_false, not_true_eq_false, not_false_eq_true, zoI_s, zoR_s, zoH_s, zoL_s, zbI_s, zbV_s, zbR_s, zbL_s, zif_dec, i32_0, ne_eq, i32_lt, i32_le, i32_eq, i32_add, i32_mul, i32_sub, i32_neg, zrz_0, zrz_1, zif_t, zif_f, zsF_s, zsF_k, zsF_a, zsC_s, zsC_a, zsC_i, zsW_s, zsW_a, Int.add_zero, Int.zero_add, if_pos, if_neg, wv_72 S, wr_768 S, wr_769 S, wr_777 S, wr_785 S, wr_786 S, wr_787 S, wr_789 S, wr_790 S, wr_791 S, wr_802 S, wr_803 S, wr_804 S, wr_805 S, wr_806 S, wr_807 S, wr_809 S, wg_770 S, wp_770 S, wg_771 S, wp_771 S, wg_772 S, wp_772 S, wg_773 S, wp_773 S, wg_774 S, wp_774 S, wg_775 S, wp_775 S, wg_776 S, wp_776 S, wg_778 S, wp_778 S, wg_779 S, wp_779 S, wg_780 S, wp_780 S, wg_781 S, wp_781 S, wg_782 S, wp_782 S, wg_783 S, wp_783 S, wg_784 S, wp_784 S, wg_788 S, wp_788 S, wg_792 S, wp_792 S, wg_793 S, wp_793 S, wg_794 S, wp_794 S, wg_795 S, wp_795 S, wg_796 S, wp_796 S, wg_797 S, wp_797 S, wg_798 S, wp_798 S, wg_799 S, wp_799 S, wg_800 S, wp_800 S, wg_801 S, wp_801 S, wg_808 S, wp_808 S, wg_810 S, wp_810 S, mlF_o, M.2.1.1, M.2.1.2.1, M.2.1.2.2, m_lays S (M.ml _ _ _) O, mlF_ml, m_ans S M O, m_nte S M O, m_meant S (M.ml _ _ _), mlF_0, mlF_1, mlF_2, mlF_w, mlF_k, mlF_c]
  rfl
/-! fairest -/
def faiS (D : Int → Int) (x c : Int) : Int := sm (fun r => sm (fun p => sm (fun q => if meanS D (noteS D (D (4 + 2 * r)) (D (5 + 2 * r)) c p q) = x then 1 else 0) (D 2)) (D 1)) (D 0)
theorem sm3_rng {f : Int → Int → Int → Int} (O : dOK D) (hf : ∀ r p q, 0 ≤ f r p q ∧ f r p q ≤ 1) : 0 ≤ sm (fun r => sm (fun p => sm (fun q => f r p q) (D 2)) (D 1)) (D 0) ∧ sm (fun r => sm (fun p => sm (fun q => f r p q) (D 2)) (D 1)) (D 0) ≤ 192 := by
  have b0 := O.1
  have b1 := O.2.1
  have b2 := O.2.2.1
  have h1 := fun r p => sm_rng (f := fun q => f r p q) (n := D 2) (lo := 0) (hi := 1) (by omega) (fun k _ _ => hf r p k)
  have h2 := fun r => sm_rng (f := fun p => sm (fun q => f r p q) (D 2)) (n := D 1) (lo := 0) (hi := 8) (by omega) (fun k _ _ => by have := h1 r k; omega)
  have h3 := sm_rng (f := fun r => sm (fun p => sm (fun q => f r p q) (D 2)) (D 1)) (n := D 0) (lo := 0) (hi := 32) (by omega) (fun k _ _ => by have := h2 k; omega)
  omega
theorem faiS_rng (O : dOK D) (x c : Int) : 0 ≤ faiS D x c ∧ faiS D x c ≤ 192 := sm3_rng O (fun r p q => by split <;> omega)
def faiF (D : Int → Int) (x : Int) (c b : Int) : Int := if faiS D x c ≤ faiS D x b then b else c
def fairS (D : Int → Int) (x : Int) : Int := foldF (faiF D x) 1 9 0
theorem faiF_I {x : Int} : ∀ k s, 1 ≤ k → k < 10 → (0 ≤ s ∧ s < k) → (0 ≤ faiF D x k s ∧ faiF D x k s < k + 1) := by
  intro k s _ _ h2
  unfold faiF
  split <;> omega
theorem fairS_rng (x : Int) : 0 ≤ fairS D x ∧ fairS D x < 10 := foldI (faiF D x) (fun k s => 0 ≤ s ∧ s < k) 1 10 (by omega) faiF_I 0 (by omega)
theorem gth_fai (O : dOK D) {x c : Int} (x0 : 0 ≤ x) (c0 : 0 ≤ c) : sm (fun n => if D (36 + n) = x then gthR D 0 ((n + c) % 8) else 0) 8 = faiS D x c := by
  have e1 : ∀ n, 0 ≤ n → n < 8 → (if D (36 + n) = x then gthR D 0 ((n + c) % 8) else 0) = sm (fun r => sm (fun p => sm (fun q => if D (36 + n) = x ∧ noteS D (D (4 + 2 * r)) (D (5 + 2 * r)) 0 p q = (n + c) % 8 then 1 else 0) (D 2)) (D 1)) (D 0) := by
    intro n _ _
    unfold gthR
    by_cases cx : D (36 + n) = x
    · rw [if_pos cx]
      refine sm_congr (fun r _ _ => sm_congr (fun p _ _ => sm_congr (fun q _ _ => ?_)))
      by_cases c2 : noteS D (D (4 + 2 * r)) (D (5 + 2 * r)) 0 p q = (n + c) % 8
      · rw [if_pos (by omega), if_pos ⟨cx, c2⟩]
      · rw [if_neg (by omega), if_neg (by omega)]
    · rw [if_neg cx]
      exact (sm_zero (fun r _ _ => sm_zero (fun p _ _ => sm_zero (fun q _ _ => if_neg (fun h => cx h.1))))).symm
  rw [sm_congr e1, sm_comm]
  unfold faiS
  refine sm_congr (fun r _ _ => ?_)
  rw [sm_comm]
  refine sm_congr (fun p _ _ => ?_)
  rw [sm_comm]
  refine sm_congr (fun q _ _ => ?_)
  unfold noteS
  by_cases cc : D (4 + 2 * r) + D (16 + p) < D (20 + 2 * q)
  · simp only [if_pos cc]
    rw [show meanS D (-1) = -1 from rfl, if_neg (show ¬ (-1 : Int) = x by omega)]
    refine (sm_congr (fun n _ _ => ?_)).trans (sm_z 8)
    rw [if_neg (fun h => by omega)]
  · simp only [if_neg cc]
    generalize hm : 3 * D (4 + 2 * r) + D (16 + p) + D (5 + 2 * r) + 5 * D (21 + 2 * q) + D (20 + 2 * q) + 16 = m
    rw [show meanS D ((m - c) % 8) = D (36 + (m - c) % 8) by unfold meanS; rw [if_neg (by omega)]]
    rw [← sm_one (n := 8) (m := (m - c) % 8) (fun n => if D (36 + n) = x then 1 else 0) (by omega) (by omega)]
    refine sm_congr (fun n n0 n1 => ?_)
    by_cases c3 : n = (m - c) % 8
    · rw [if_pos c3]
      by_cases c4 : D (36 + n) = x
      · rw [if_pos ⟨c4, by omega⟩, if_pos c4]
      · rw [if_neg (fun h => c4 h.1), if_neg c4]
    · rw [if_neg c3, if_neg (fun h => c3 (by omega))]
theorem c_answersIn (S : St h) (H : duS h a) (V : duV F C a D) (O : dOK D) (ha : a ≤ 28) {c x : Int} (c0 : 0 ≤ c) (c1 : c < 10) (x0 : 0 ≤ x) (x1 : x < 3) {f : Int → Int} (hf : ∀ j, 0 ≤ j → j < 8 → f j = gthR D 0 j) : zc 113 [zR (some 68), zR (some a), zI (i32 c), zI (i32 x)] (zw h F (zsW C 69 f)) = some (zI (i32 (faiS D x c)), zw h F (zsW C 69 f)) := by
  have L1 := zsm (fun n s => zr 113 4 [yR (some 68), yR (some a), yI (i32 c), yI (i32 x), yI (i32 s), yI (i32 n)] [] (zw h F (zsW C 69 f))) (fun n => if D (36 + n) = x then gthR D 0 ((n + c) % 8) else 0) 8 (by omega) (fun n s n0 n1 => by
    have g := O.2.2.2.2.2.2.2.2.2 n n0 n1
    rw [e_Survey_answersIn_4]
    by_cases cx : D (36 + n) = x
    · simp (disch := omega) only [if_true, if_false, not_true_eq_false, not_false_eq_true, zoI_s, zoR_s, zoH_s, zoL_s, zbI_s, zbV_s, zbR_s, zbL_s, zif_dec, i32_0, ne_eq, i32_lt, i32_le, i32_eq, i32_add, i32_mul, i32_sub, i32_neg, zrz_0, zrz_1, zif_t, zif_f, zsF_s, zsF_k, zsF_a, zsC_s, zsC_a, zsC_i, zsW_s, zsW_a, Int.add_zero, Int.zero_add, if_pos, if_neg, dv H, dg_128 H, dp_128 H, dg_129 H, dp_129 H, dg_130 H, dp_130 H, dg_131 H, dp_131 H, dr_132 H, da_132 H, dr_133 H, da_133 H, dr_134 H, da_134 H, dr_135 H, da_135 H, dr_136 H, da_136 H, dr_137 H, da_137 H, V.1.1, V.1.2.1, V.1.2.2.1, V.1.2.2.2, c_answerOf H V O, c_noteOf H V O, c_meaning H V, V.2.2.2.2.2.2, wv_68 S, wr_384 S, wr_385 S, wr_386 S, wa_69 S, ws_69 S, i32_rem, hf]
    · simp (disch := omega) only [if_true, if_false, not_true_eq_false, not_false_eq_true, zoI_s, zoR_s, zoH_s, zoL_s, zbI_s, zbV_s, zbR_s, zbL_s, zif_dec, i32_0, ne_eq, i32_lt, i32_le, i32_eq, i32_add, i32_mul, i32_sub, i32_neg, zrz_0, zrz_1, zif_t, zif_f, zsF_s, zsF_k, zsF_a, zsC_s, zsC_a, zsC_i, zsW_s, zsW_a, Int.add_zero, Int.zero_add, if_pos, if_neg, dv H, dg_128 H, dp_128 H, dg_129 H, dp_129 H, dg_130 H, dp_130 H, dg_131 H, dp_131 H, dr_132 H, da_132 H, dr_133 H, da_133 H, dr_134 H, da_134 H, dr_135 H, da_135 H, dr_136 H, da_136 H, dr_137 H, da_137 H, V.1.1, V.1.2.1, V.1.2.2.1, V.1.2.2.2, c_answerOf H V O, c_noteOf H V O, c_meaning H V, V.2.2.2.2.2.2, wv_68 S, wr_384 S, wr_385 S, wr_386 S, wa_69 S, ws_69 S, i32_rem, hf]) 0
  rw [e_Survey_answersIn, L1, e_Survey_answersIn_4]
  simp (disch := omega) only [if_true, if_false, not_true_eq_false, not_false_eq_true, zoI_s, zoR_s, zoH_s, zoL_s, zbI_s, zbV_s, zbR_s, zbL_s, zif_dec, i32_0, ne_eq, i32_lt, i32_le, i32_eq, i32_add, i32_mul, i32_sub, i32_neg, zrz_0, zrz_1, zif_t, zif_f, zsF_s, zsF_k, zsF_a, zsC_s, zsC_a, zsC_i, zsW_s, zsW_a, Int.add_zero, Int.zero_add, if_pos, if_neg, gth_fai O]
theorem c_fairestCold (S : St h) (H : duS h a) (V : duV F C a D) (O : dOK D) (ha : a ≤ 28) {x : Int} (x0 : 0 ≤ x) (x1 : x < 3) {f : Int → Int} (hf : ∀ j, 0 ≤ j → j < 8 → f j = gthR D 0 j) : zc 114 [zR (some 68), zR (some a), zI (i32 x)] (zw h F (zsW C 69 f)) = some (zI (i32 (fairS D x)), zw h F (zsW C 69 f)) := by
  have L1 := (zfoI (fun c s => zr 114 4 [yR (some 68), yR (some a), yI (i32 x), yI (i32 s), yI (i32 c)] [] (zw h F (zsW C 69 f))) (faiF D x) (fun k s => 0 ≤ s ∧ s < k) 1 10 (by omega) (fun c s c0 c1 hi => by
    have g1 := faiS_rng O x c
    have g2 := faiS_rng O x s
    rw [e_Survey_fairestCold_4]
    unfold faiF
    by_cases cc : faiS D x c ≤ faiS D x s
    · simp (disch := omega) only [if_true, if_false, not_true_eq_false, not_false_eq_true, zoI_s, zoR_s, zoH_s, zoL_s, zbI_s, zbV_s, zbR_s, zbL_s, zif_dec, i32_0, ne_eq, i32_lt, i32_le, i32_eq, i32_add, i32_mul, i32_sub, i32_neg, zrz_0, zrz_1, zif_t, zif_f, zsF_s, zsF_k, zsF_a, zsC_s, zsC_a, zsC_i, zsW_s, zsW_a, Int.add_zero, Int.zero_add, if_pos, if_neg, wv_68 S, wr_384 S, wr_385 S, wr_386 S, c_answersIn S H V O ha (c := c) (by omega) (by omega) x0 x1 hf, c_answersIn S H V O ha (c := s) (by omega) (by omega) x0 x1 hf]
    · simp (disch := omega) only [if_true, if_false, not_true_eq_false, not_false_eq_true, zoI_s, zoR_s, zoH_s, zoL_s, zbI_s, zbV_s, zbR_s, zbL_s, zif_dec, i32_0, ne_eq, i32_lt, i32_le, i32_eq, i32_add, i32_mul, i32_sub, i32_neg, zrz_0, zrz_1, zif_t, zif_f, zsF_s, zsF_k, zsF_a, zsC_s, zsC_a, zsC_i, zsW_s, zsW_a, Int.add_zero, Int.zero_add, if_pos, if_neg, wv_68 S, wr_384 S, wr_385 S, wr_386 S, c_answersIn S H V O ha (c := c) (by omega) (by omega) x0 x1 hf, c_answersIn S H V O ha (c := s) (by omega) (by omega) x0 x1 hf]) faiF_I 0 (by omega)).1
  rw [e_Survey_fairestCold, L1, e_Survey_fairestCold_4]
  simp (disch := omega) only [if_true, if_false, not_true_eq_false, not_false_eq_true, zoI_s, zoR_s, zoH_s, zoL_s, zbI_s, zbV_s, zbR_s, zbL_s, zif_dec, i32_0, ne_eq, i32_lt, i32_le, i32_eq, i32_add, i32_mul, i32_sub, i32_neg, zrz_0, zrz_1, zif_t, zif_f, zsF_s, zsF_k, zsF_a, zsC_s, zsC_a, zsC_i, zsW_s, zsW_a, Int.add_zero, Int.zero_add, if_pos, if_neg]
  rfl
theorem m_fairBy (S : St h) (M : moV F C D) (O : dOK D) {c x : Int} (c0 : 0 ≤ c) (c1 : c < 10) (x0 : 0 ≤ x) (x1 : x < 3) (w u v : Int) : ∃ w' u' c', zc 284 [zR (some 72), zI (i32 c), zI (i32 x)] (zw h (mlF F w u v) C) = some (zI (i32 (faiS D x c)), zw h (mlF F w' u' c') C) := by
  have b0 := O.1
  have b1 := O.2.1
  have b2 := O.2.2.1
  have L3 := fun r p n (r0 : 0 ≤ r) (r1 : r < D 0) (p0 : 0 ≤ p) (p1 : p < D 1) => zsm (fun q n => zr 284 22 [yR (some 72), yI (i32 c), yI (i32 x), yI (i32 n), yI (i32 r), yI (i32 p), yI (i32 q)] [] (zw h (mlF F (D (4 + 2 * r)) (D (5 + 2 * r)) c) C)) (fun q => if meanS D (noteS D (D (4 + 2 * r)) (D (5 + 2 * r)) c p q) = x then 1 else 0) (D 2) (by omega) (fun q n q0 q1 => by
    have g1 := noteS_rng (D := D) (w := D (4 + 2 * r)) (k := D (5 + 2 * r)) (c := c) (p := p) (q := q)
    have g2 := meanS_rng O g1.2
    have b3 := O.2.2.2.2.1 r r0 r1
    have b4 := O.2.2.2.2.2.1 r r0 r1
    rw [e_Model_fairBy_22]
    by_cases cc : meanS D (noteS D (D (4 + 2 * r)) (D (5 + 2 * r)) c p q) = x
    · simp (disch := omega) only [if_true, if_false, not_true_eq_false, not_false_eq_true, zoI_s, zoR_s, zoH_s, zoL_s, zbI_s, zbV_s, zbR_s, zbL_s, zif_dec, i32_0, ne_eq, i32_lt, i32_le, i32_eq, i32_add, i32_mul, i32_sub, i32_neg, zrz_0, zrz_1, zif_t, zif_f, zsF_s, zsF_k, zsF_a, zsC_s, zsC_a, zsC_i, zsW_s, zsW_a, Int.add_zero, Int.zero_add, if_pos, if_neg, wv_72 S, wr_768 S, wr_769 S, wr_777 S, wr_785 S, wr_786 S, wr_787 S, wr_789 S, wr_790 S, wr_791 S, wr_802 S, wr_803 S, wr_804 S, wr_805 S, wr_806 S, wr_807 S, wr_809 S, wg_770 S, wp_770 S, wg_771 S, wp_771 S, wg_772 S, wp_772 S, wg_773 S, wp_773 S, wg_774 S, wp_774 S, wg_775 S, wp_775 S, wg_776 S, wp_776 S, wg_778 S, wp_778 S, wg_779 S, wp_779 S, wg_780 S, wp_780 S, wg_781 S, wp_781 S, wg_782 S, wp_782 S, wg_783 S, wp_783 S, wg_784 S, wp_784 S, wg_788 S, wp_788 S, wg_792 S, wp_792 S, wg_793 S, wp_793 S, wg_794 S, wp_794 S, wg_795 S, wp_795 S, wg_796 S, wp_796 S, wg_797 S, wp_797 S, wg_798 S, wp_798 S, wg_799 S, wp_799 S, wg_800 S, wp_800 S, wg_801 S, wp_801 S, wg_808 S, wp_808 S, wg_810 S, wp_810 S, mlF_o, M.2.1.1, M.2.1.2.1, M.2.1.2.2, m_lays S (M.ml _ _ _) O, mlF_ml, m_ans S M O, m_nte S M O, m_meant S (M.ml _ _ _), mlF_0, mlF_1, mlF_2, mlF_w, mlF_k, mlF_c, m_answ S M O]
    · simp (disch := omega) only [if_true, if_false, not_true_eq_false, not_false_eq_true, zoI_s, zoR_s, zoH_s, zoL_s, zbI_s, zbV_s, zbR_s, zbL_s, zif_dec, i32_0, ne_eq, i32_lt, i32_le, i32_eq, i32_add, i32_mul, i32_sub, i32_neg, zrz_0, zrz_1, zif_t, zif_f, zsF_s, zsF_k, zsF_a, zsC_s, zsC_a, zsC_i, zsW_s, zsW_a, Int.add_zero, Int.zero_add, if_pos, if_neg, wv_72 S, wr_768 S, wr_769 S, wr_777 S, wr_785 S, wr_786 S, wr_787 S, wr_789 S, wr_790 S, wr_791 S, wr_802 S, wr_803 S, wr_804 S, wr_805 S, wr_806 S, wr_807 S, wr_809 S, wg_770 S, wp_770 S, wg_771 S, wp_771 S, wg_772 S, wp_772 S, wg_773 S, wp_773 S, wg_774 S, wp_774 S, wg_775 S, wp_775 S, wg_776 S, wp_776 S, wg_778 S, wp_778 S, wg_779 S, wp_779 S, wg_780 S, wp_780 S, wg_781 S, wp_781 S, wg_782 S, wp_782 S, wg_783 S, wp_783 S, wg_784 S, wp_784 S, wg_788 S, wp_788 S, wg_792 S, wp_792 S, wg_793 S, wp_793 S, wg_794 S, wp_794 S, wg_795 S, wp_795 S, wg_796 S, wp_796 S, wg_797 S, wp_797 S, wg_798 S, wp_798 S, wg_799 S, wp_799 S, wg_800 S, wp_800 S, wg_801 S, wp_801 S, wg_808 S, wp_808 S, wg_810 S, wp_810 S, mlF_o, M.2.1.1, M.2.1.2.1, M.2.1.2.2, m_lays S (M.ml _ _ _) O, mlF_ml, m_ans S M O, m_nte S M O, m_meant S (M.ml _ _ _), mlF_0, mlF_1, mlF_2, mlF_w, mlF_k, mlF_c, m_answ S M O]) n
  have L2 := fun r n (r0 : 0 ≤ r) (r1 : r < D 0) s => zsmJ (fun p n (s : Option zVal) => zr 284 16 [yR (some 72), yI (i32 c), yI (i32 x), yI (i32 n), yI (i32 r), yI (i32 p), s] [] (zw h (mlF F (D (4 + 2 * r)) (D (5 + 2 * r)) c) C)) (fun p => sm (fun q => if meanS D (noteS D (D (4 + 2 * r)) (D (5 + 2 * r)) c p q) = x then 1 else 0) (D 2)) (fun _ => True) (D 1) (by omega) (fun p n s p0 p1 _ => by
    rw [e_Model_fairBy_16]
    simp (disch := omega) only [if_true, if_false, not_true_eq_false, not_false_eq_true, zoI_s, zoR_s, zoH_s, zoL_s, zbI_s, zbV_s, zbR_s, zbL_s, zif_dec, i32_0, ne_eq, i32_lt, i32_le, i32_eq, i32_add, i32_mul, i32_sub, i32_neg, zrz_0, zrz_1, zif_t, zif_f, zsF_s, zsF_k, zsF_a, zsC_s, zsC_a, zsC_i, zsW_s, zsW_a, Int.add_zero, Int.zero_add, if_pos, if_neg, wv_72 S, wr_768 S, wr_769 S, wr_777 S, wr_785 S, wr_786 S, wr_787 S, wr_789 S, wr_790 S, wr_791 S, wr_802 S, wr_803 S, wr_804 S, wr_805 S, wr_806 S, wr_807 S, wr_809 S, wg_770 S, wp_770 S, wg_771 S, wp_771 S, wg_772 S, wp_772 S, wg_773 S, wp_773 S, wg_774 S, wp_774 S, wg_775 S, wp_775 S, wg_776 S, wp_776 S, wg_778 S, wp_778 S, wg_779 S, wp_779 S, wg_780 S, wp_780 S, wg_781 S, wp_781 S, wg_782 S, wp_782 S, wg_783 S, wp_783 S, wg_784 S, wp_784 S, wg_788 S, wp_788 S, wg_792 S, wp_792 S, wg_793 S, wp_793 S, wg_794 S, wp_794 S, wg_795 S, wp_795 S, wg_796 S, wp_796 S, wg_797 S, wp_797 S, wg_798 S, wp_798 S, wg_799 S, wp_799 S, wg_800 S, wp_800 S, wg_801 S, wp_801 S, wg_808 S, wp_808 S, wg_810 S, wp_810 S, mlF_o, M.2.1.1, M.2.1.2.1, M.2.1.2.2, m_lays S (M.ml _ _ _) O, mlF_ml, m_ans S M O, m_nte S M O, m_meant S (M.ml _ _ _), mlF_0, mlF_1, mlF_2, mlF_w, mlF_k, mlF_c, L3 r p n r0 r1 p0 p1]
    rw [e_Model_fairBy_22]
    simp (disch := omega) only [if_true, if_false, not_true_eq_false, not_false_eq_true, zoI_s, zoR_s, zoH_s, zoL_s, zbI_s, zbV_s, zbR_s, zbL_s, zif_dec, i32_0, ne_eq, i32_lt, i32_le, i32_eq, i32_add, i32_mul, i32_sub, i32_neg, zrz_0, zrz_1, zif_t, zif_f, zsF_s, zsF_k, zsF_a, zsC_s, zsC_a, zsC_i, zsW_s, zsW_a, Int.add_zero, Int.zero_add, if_pos, if_neg, wv_72 S, wr_768 S, wr_769 S, wr_777 S, wr_785 S, wr_786 S, wr_787 S, wr_789 S, wr_790 S, wr_791 S, wr_802 S, wr_803 S, wr_804 S, wr_805 S, wr_806 S, wr_807 S, wr_809 S, wg_770 S, wp_770 S, wg_771 S, wp_771 S, wg_772 S, wp_772 S, wg_773 S, wp_773 S, wg_774 S, wp_774 S, wg_775 S, wp_775 S, wg_776 S, wp_776 S, wg_778 S, wp_778 S, wg_779 S, wp_779 S, wg_780 S, wp_780 S, wg_781 S, wp_781 S, wg_782 S, wp_782 S, wg_783 S, wp_783 S, wg_784 S, wp_784 S, wg_788 S, wp_788 S, wg_792 S, wp_792 S, wg_793 S, wp_793 S, wg_794 S, wp_794 S, wg_795 S, wp_795 S, wg_796 S, wp_796 S, wg_797 S, wp_797 S, wg_798 S, wp_798 S, wg_799 S, wp_799 S, wg_800 S, wp_800 S, wg_801 S, wp_801 S, wg_808 S, wp_808 S, wg_810 S, wp_810 S, mlF_o, M.2.1.1, M.2.1.2.1, M.2.1.2.2, m_lays S (M.ml _ _ _) O, mlF_ml, m_ans S M O, m_nte S M O, m_meant S (M.ml _ _ _), mlF_0, mlF_1, mlF_2, mlF_w, mlF_k, mlF_c]
    exact ⟨_, rfl, trivial⟩) n s trivial
  obtain ⟨s, L1, _⟩ := zsmJ (fun r n (s : Option zVal × Int × Int × Int) => zr 284 4 [yR (some 72), yI (i32 c), yI (i32 x), yI (i32 n), yI (i32 r), none, s.1] [] (zw h (mlF F s.2.1 s.2.2.1 s.2.2.2) C)) (fun r => sm (fun p => sm (fun q => if meanS D (noteS D (D (4 + 2 * r)) (D (5 + 2 * r)) c p q) = x then 1 else 0) (D 2)) (D 1)) (fun _ => True) (D 0) (by omega) (fun r n s r0 r1 _ => by
    obtain ⟨s', e, _⟩ := L2 r n r0 r1 s.1
    rw [e_Model_fairBy_4]
    simp (disch := omega) only [if_true, if_false, not_true_eq_false, not_false_eq_true, zoI_s, zoR_s, zoH_s, zoL_s, zbI_s, zbV_s, zbR_s, zbL_s, zif_dec, i32_0, ne_eq, i32_lt, i32_le, i32_eq, i32_add, i32_mul, i32_sub, i32_neg, zrz_0, zrz_1, zif_t, zif_f, zsF_s, zsF_k, zsF_a, zsC_s, zsC_a, zsC_i, zsW_s, zsW_a, Int.add_zero, Int.zero_add, if_pos, if_neg, wv_72 S, wr_768 S, wr_769 S, wr_777 S, wr_785 S, wr_786 S, wr_787 S, wr_789 S, wr_790 S, wr_791 S, wr_802 S, wr_803 S, wr_804 S, wr_805 S, wr_806 S, wr_807 S, wr_809 S, wg_770 S, wp_770 S, wg_771 S, wp_771 S, wg_772 S, wp_772 S, wg_773 S, wp_773 S, wg_774 S, wp_774 S, wg_775 S, wp_775 S, wg_776 S, wp_776 S, wg_778 S, wp_778 S, wg_779 S, wp_779 S, wg_780 S, wp_780 S, wg_781 S, wp_781 S, wg_782 S, wp_782 S, wg_783 S, wp_783 S, wg_784 S, wp_784 S, wg_788 S, wp_788 S, wg_792 S, wp_792 S, wg_793 S, wp_793 S, wg_794 S, wp_794 S, wg_795 S, wp_795 S, wg_796 S, wp_796 S, wg_797 S, wp_797 S, wg_798 S, wp_798 S, wg_799 S, wp_799 S, wg_800 S, wp_800 S, wg_801 S, wp_801 S, wg_808 S, wp_808 S, wg_810 S, wp_810 S, mlF_o, M.2.1.1, M.2.1.2.1, M.2.1.2.2, m_lays S (M.ml _ _ _) O, mlF_ml, m_ans S M O, m_nte S M O, m_meant S (M.ml _ _ _), mlF_0, mlF_1, mlF_2, mlF_w, mlF_k, mlF_c, e]
    rw [e_Model_fairBy_16]
    simp (disch := omega) only [if_true, if_false, not_true_eq_false, not_false_eq_true, zoI_s, zoR_s, zoH_s, zoL_s, zbI_s, zbV_s, zbR_s, zbL_s, zif_dec, i32_0, ne_eq, i32_lt, i32_le, i32_eq, i32_add, i32_mul, i32_sub, i32_neg, zrz_0, zrz_1, zif_t, zif_f, zsF_s, zsF_k, zsF_a, zsC_s, zsC_a, zsC_i, zsW_s, zsW_a, Int.add_zero, Int.zero_add, if_pos, if_neg, wv_72 S, wr_768 S, wr_769 S, wr_777 S, wr_785 S, wr_786 S, wr_787 S, wr_789 S, wr_790 S, wr_791 S, wr_802 S, wr_803 S, wr_804 S, wr_805 S, wr_806 S, wr_807 S, wr_809 S, wg_770 S, wp_770 S, wg_771 S, wp_771 S, wg_772 S, wp_772 S, wg_773 S, wp_773 S, wg_774 S, wp_774 S, wg_775 S, wp_775 S, wg_776 S, wp_776 S, wg_778 S, wp_778 S, wg_779 S, wp_779 S, wg_780 S, wp_780 S, wg_781 S, wp_781 S, wg_782 S, wp_782 S, wg_783 S, wp_783 S, wg_784 S, wp_784 S, wg_788 S, wp_788 S, wg_792 S, wp_792 S, wg_793 S, wp_793 S, wg_794 S, wp_794 S, wg_795 S, wp_795 S, wg_796 S, wp_796 S, wg_797 S, wp_797 S, wg_798 S, wp_798 S, wg_799 S, wp_799 S, wg_800 S, wp_800 S, wg_801 S, wp_801 S, wg_808 S, wp_808 S, wg_810 S, wp_810 S, mlF_o, M.2.1.1, M.2.1.2.1, M.2.1.2.2, m_lays S (M.ml _ _ _) O, mlF_ml, m_ans S M O, m_nte S M O, m_meant S (M.ml _ _ _), mlF_0, mlF_1, mlF_2, mlF_w, mlF_k, mlF_c, d_Model_fairBy_4_w5]
    exact ⟨(_, _, _, _), rfl, trivial⟩) 0 (none, w, u, v) trivial
  dsimp only at L1
  refine ⟨s.2.1, s.2.2.1, s.2.2.2, ?_⟩
  rw [e_Model_fairBy, L1, e_Model_fairBy_4]
  simp (disch := omega) only [if_true, if_false, not_true_eq_false, not_false_eq_true, zoI_s, zoR_s, zoH_s, zoL_s, zbI_s, zbV_s, zbR_s, zbL_s, zif_dec, i32_0, ne_eq, i32_lt, i32_le, i32_eq, i32_add, i32_mul, i32_sub, i32_neg, zrz_0, zrz_1, zif_t, zif_f, zsF_s, zsF_k, zsF_a, zsC_s, zsC_a, zsC_i, zsW_s, zsW_a, Int.add_zero, Int.zero_add, if_pos, if_neg, wv_72 S, wr_768 S, wr_769 S, wr_777 S, wr_785 S, wr_786 S, wr_787 S, wr_789 S, wr_790 S, wr_791 S, wr_802 S, wr_803 S, wr_804 S, wr_805 S, wr_806 S, wr_807 S, wr_809 S, wg_770 S, wp_770 S, wg_771 S, wp_771 S, wg_772 S, wp_772 S, wg_773 S, wp_773 S, wg_774 S, wp_774 S, wg_775 S, wp_775 S, wg_776 S, wp_776 S, wg_778 S, wp_778 S, wg_779 S, wp_779 S, wg_780 S, wp_780 S, wg_781 S, wp_781 S, wg_782 S, wp_782 S, wg_783 S, wp_783 S, wg_784 S, wp_784 S, wg_788 S, wp_788 S, wg_792 S, wp_792 S, wg_793 S, wp_793 S, wg_794 S, wp_794 S, wg_795 S, wp_795 S, wg_796 S, wp_796 S, wg_797 S, wp_797 S, wg_798 S, wp_798 S, wg_799 S, wp_799 S, wg_800 S, wp_800 S, wg_801 S, wp_801 S, wg_808 S, wp_808 S, wg_810 S, wp_810 S, mlF_o, M.2.1.1, M.2.1.2.1, M.2.1.2.2, m_lays S (M.ml _ _ _) O, mlF_ml, m_ans S M O, m_nte S M O, m_meant S (M.ml _ _ _), mlF_0, mlF_1, mlF_2, mlF_w, mlF_k, mlF_c]
  rfl
theorem m_fairestL (S : St h) (M : moV F C D) (O : dOK D) {d x b : Int} (x0 : 0 ≤ x) (x1 : x < 3) (hb : inI b) : ∃ w u c, zr 285 15 [yR (some 72), yI (i32 d), yI (i32 x), yI (i32 b), yI (i32 0), yI (i32 1)] [] (zw h F C) = some (zI (i32 (if b = 0 then fairS D x else faiS D x (fairS D x))), zw h (mlF F w u c) C) := by
  unfold inI at hb
  obtain ⟨⟨w', u', c'⟩, L1, _⟩ := zfoJ (fun c s (t : Int × Int × Int) => zr 285 15 [yR (some 72), yI (i32 d), yI (i32 x), yI (i32 b), yI (i32 s), yI (i32 c)] [] (zw h (mlF F t.1 t.2.1 t.2.2) C)) (faiF D x) (fun k s _ => 0 ≤ s ∧ s < k) 1 10 (by omega) (fun c s t c0 c1 hi => by
    obtain ⟨w1, u1, v1, e1⟩ := m_fairBy S M O (show 0 ≤ c by omega) c1 x0 x1 t.1 t.2.1 t.2.2
    obtain ⟨w2, u2, v2, e2⟩ := m_fairBy S M O (show 0 ≤ s by omega) (by omega) x0 x1 w1 u1 v1
    have g1 := faiS_rng O x c
    have g2 := faiS_rng O x s
    refine ⟨(w2, u2, v2), ?_, faiF_I c s c0 c1 hi⟩
    rw [e_Model_fairest_15]
    unfold faiF
    by_cases cc : faiS D x c ≤ faiS D x s
    · simp (disch := omega) only [if_true, if_false, not_true_eq_false, not_false_eq_true, zoI_s, zoR_s, zoH_s, zoL_s, zbI_s, zbV_s, zbR_s, zbL_s, zif_dec, i32_0, ne_eq, i32_lt, i32_le, i32_eq, i32_add, i32_mul, i32_sub, i32_neg, zrz_0, zrz_1, zif_t, zif_f, zsF_s, zsF_k, zsF_a, zsC_s, zsC_a, zsC_i, zsW_s, zsW_a, Int.add_zero, Int.zero_add, if_pos, if_neg, wv_72 S, wr_768 S, wr_769 S, wr_777 S, wr_785 S, wr_786 S, wr_787 S, wr_789 S, wr_790 S, wr_791 S, wr_802 S, wr_803 S, wr_804 S, wr_805 S, wr_806 S, wr_807 S, wr_809 S, wg_770 S, wp_770 S, wg_771 S, wp_771 S, wg_772 S, wp_772 S, wg_773 S, wp_773 S, wg_774 S, wp_774 S, wg_775 S, wp_775 S, wg_776 S, wp_776 S, wg_778 S, wp_778 S, wg_779 S, wp_779 S, wg_780 S, wp_780 S, wg_781 S, wp_781 S, wg_782 S, wp_782 S, wg_783 S, wp_783 S, wg_784 S, wp_784 S, wg_788 S, wp_788 S, wg_792 S, wp_792 S, wg_793 S, wp_793 S, wg_794 S, wp_794 S, wg_795 S, wp_795 S, wg_796 S, wp_796 S, wg_797 S, wp_797 S, wg_798 S, wp_798 S, wg_799 S, wp_799 S, wg_800 S, wp_800 S, wg_801 S, wp_801 S, wg_808 S, wp_808 S, wg_810 S, wp_810 S, mlF_o, M.2.1.1, M.2.1.2.1, M.2.1.2.2, m_lays S (M.ml _ _ _) O, mlF_ml, m_ans S M O, m_nte S M O, m_meant S (M.ml _ _ _), mlF_0, mlF_1, mlF_2, mlF_w, mlF_k, mlF_c, e1, e2]
    · simp (disch := omega) only [if_true, if_false, not_true_eq_false, not_false_eq_true, zoI_s, zoR_s, zoH_s, zoL_s, zbI_s, zbV_s, zbR_s, zbL_s, zif_dec, i32_0, ne_eq, i32_lt, i32_le, i32_eq, i32_add, i32_mul, i32_sub, i32_neg, zrz_0, zrz_1, zif_t, zif_f, zsF_s, zsF_k, zsF_a, zsC_s, zsC_a, zsC_i, zsW_s, zsW_a, Int.add_zero, Int.zero_add, if_pos, if_neg, wv_72 S, wr_768 S, wr_769 S, wr_777 S, wr_785 S, wr_786 S, wr_787 S, wr_789 S, wr_790 S, wr_791 S, wr_802 S, wr_803 S, wr_804 S, wr_805 S, wr_806 S, wr_807 S, wr_809 S, wg_770 S, wp_770 S, wg_771 S, wp_771 S, wg_772 S, wp_772 S, wg_773 S, wp_773 S, wg_774 S, wp_774 S, wg_775 S, wp_775 S, wg_776 S, wp_776 S, wg_778 S, wp_778 S, wg_779 S, wp_779 S, wg_780 S, wp_780 S, wg_781 S, wp_781 S, wg_782 S, wp_782 S, wg_783 S, wp_783 S, wg_784 S, wp_784 S, wg_788 S, wp_788 S, wg_792 S, wp_792 S, wg_793 S, wp_793 S, wg_794 S, wp_794 S, wg_795 S, wp_795 S, wg_796 S, wp_796 S, wg_797 S, wp_797 S, wg_798 S, wp_798 S, wg_799 S, wp_799 S, wg_800 S, wp_800 S, wg_801 S, wp_801 S, wg_808 S, wp_808 S, wg_810 S, wp_810 S, mlF_o, M.2.1.1, M.2.1.2.1, M.2.1.2.2, m_lays S (M.ml _ _ _) O, mlF_ml, m_ans S M O, m_nte S M O, m_meant S (M.ml _ _ _), mlF_0, mlF_1, mlF_2, mlF_w, mlF_k, mlF_c, e1, e2]) 0 (F 782 72, F 783 72, F 784 72) (by omega)
  dsimp only at L1
  rw [mlF_id, show foldF (faiF D x) 1 (10 - 1 : Int).toNat 0 = fairS D x from rfl] at L1
  have g := fairS_rng (D := D) x
  rw [L1, e_Model_fairest_15]
  by_cases c0 : b = 0
  · refine ⟨w', u', c', ?_⟩
    simp (disch := omega) only [if_true, if_false, not_true_eq_false, not_false_eq_true, zoI_s, zoR_s, zoH_s, zoL_s, zbI_s, zbV_s, zbR_s, zbL_s, zif_dec, i32_0, ne_eq, i32_lt, i32_le, i32_eq, i32_add, i32_mul, i32_sub, i32_neg, zrz_0, zrz_1, zif_t, zif_f, zsF_s, zsF_k, zsF_a, zsC_s, zsC_a, zsC_i, zsW_s, zsW_a, Int.add_zero, Int.zero_add, if_pos, if_neg, wv_72 S, wr_768 S, wr_769 S, wr_777 S, wr_785 S, wr_786 S, wr_787 S, wr_789 S, wr_790 S, wr_791 S, wr_802 S, wr_803 S, wr_804 S, wr_805 S, wr_806 S, wr_807 S, wr_809 S, wg_770 S, wp_770 S, wg_771 S, wp_771 S, wg_772 S, wp_772 S, wg_773 S, wp_773 S, wg_774 S, wp_774 S, wg_775 S, wp_775 S, wg_776 S, wp_776 S, wg_778 S, wp_778 S, wg_779 S, wp_779 S, wg_780 S, wp_780 S, wg_781 S, wp_781 S, wg_782 S, wp_782 S, wg_783 S, wp_783 S, wg_784 S, wp_784 S, wg_788 S, wp_788 S, wg_792 S, wp_792 S, wg_793 S, wp_793 S, wg_794 S, wp_794 S, wg_795 S, wp_795 S, wg_796 S, wp_796 S, wg_797 S, wp_797 S, wg_798 S, wp_798 S, wg_799 S, wp_799 S, wg_800 S, wp_800 S, wg_801 S, wp_801 S, wg_808 S, wp_808 S, wg_810 S, wp_810 S, mlF_o, M.2.1.1, M.2.1.2.1, M.2.1.2.2, m_lays S (M.ml _ _ _) O, mlF_ml, m_ans S M O, m_nte S M O, m_meant S (M.ml _ _ _), mlF_0, mlF_1, mlF_2, mlF_w, mlF_k, mlF_c]
  · obtain ⟨w2, u2, v2, e2⟩ := m_fairBy S M O g.1 g.2 x0 x1 w' u' c'
    refine ⟨w2, u2, v2, ?_⟩
    simp (disch := omega) only [if_true, if_false, not_true_eq_false, not_false_eq_true, zoI_s, zoR_s, zoH_s, zoL_s, zbI_s, zbV_s, zbR_s, zbL_s, zif_dec, i32_0, ne_eq, i32_lt, i32_le, i32_eq, i32_add, i32_mul, i32_sub, i32_neg, zrz_0, zrz_1, zif_t, zif_f, zsF_s, zsF_k, zsF_a, zsC_s, zsC_a, zsC_i, zsW_s, zsW_a, Int.add_zero, Int.zero_add, if_pos, if_neg, wv_72 S, wr_768 S, wr_769 S, wr_777 S, wr_785 S, wr_786 S, wr_787 S, wr_789 S, wr_790 S, wr_791 S, wr_802 S, wr_803 S, wr_804 S, wr_805 S, wr_806 S, wr_807 S, wr_809 S, wg_770 S, wp_770 S, wg_771 S, wp_771 S, wg_772 S, wp_772 S, wg_773 S, wp_773 S, wg_774 S, wp_774 S, wg_775 S, wp_775 S, wg_776 S, wp_776 S, wg_778 S, wp_778 S, wg_779 S, wp_779 S, wg_780 S, wp_780 S, wg_781 S, wp_781 S, wg_782 S, wp_782 S, wg_783 S, wp_783 S, wg_784 S, wp_784 S, wg_788 S, wp_788 S, wg_792 S, wp_792 S, wg_793 S, wp_793 S, wg_794 S, wp_794 S, wg_795 S, wp_795 S, wg_796 S, wp_796 S, wg_797 S, wp_797 S, wg_798 S, wp_798 S, wg_799 S, wp_799 S, wg_800 S, wp_800 S, wg_801 S, wp_801 S, wg_808 S, wp_808 S, wg_810 S, wp_810 S, mlF_o, M.2.1.1, M.2.1.2.1, M.2.1.2.2, m_lays S (M.ml _ _ _) O, mlF_ml, m_ans S M O, m_nte S M O, m_meant S (M.ml _ _ _), mlF_0, mlF_1, mlF_2, mlF_w, mlF_k, mlF_c, e2]
end A9
def lowsQ (A : Int → Int) (d : Int) : Int := if (0 ≤ d ∧ d < A 0) then lowS (dOf A d) else -1
def fairestQ (A : Int → Int) (d x b : Int) : Int := if (0 ≤ d ∧ d < A 0) ∧ (0 ≤ x ∧ x < 3) then (if b = 0 then fairS (dOf A d) x else faiS (dOf A d) x (fairS (dOf A d) x)) else -1
theorem c_lows {d : Int} (hd : inI d) : ans1 163 0 [zI (i32 d)] (fun A => zI (i32 (lowsQ A d))) := by
  intro h F C Q
  have S := Q.1
  unfold inI at hd
  unfold lowsQ
  by_cases c1 : 0 ≤ d ∧ d < C 73 0
  · have H := Q.dS c1.1 c1.2
    have V := Q.dV c1.1 c1.2
    have O := Q.dO c1.1 c1.2
    have ha : 8 + 13 * d.toNat ≤ 28 := by have := Q.2.2.1.1; omega
    skip
    have b3 := O.2.2.2.1
    have e1 : fil8 (C 69) 0 = 0 := rfl
    refine ⟨F, _, ?_, tq.rfl.sW (a := 69) (f := fun j => fil8 (C 69) j + gthR (dOf (C 73) d) (dOf (C 73) d 3) j) (by omega) (by omega)⟩
    simp (disch := omega) only [if_true, if_false, not_true_eq_false, not_false_eq_true, zoI_s, zoR_s, zoH_s, zoL_s, zbI_s, zbV_s, zbR_s, zbL_s, zif_dec, i32_0, ne_eq, i32_lt, i32_le, i32_eq, i32_add, i32_mul, i32_sub, i32_neg, zrz_0, zrz_1, zif_t, zif_f, zsF_s, zsF_k, zsF_a, zsC_s, zsC_a, zsC_i, zsW_s, zsW_a, Int.add_zero, Int.zero_add, if_pos, if_neg, wv_0 S, wr_704 S, wr_705 S, wr_706 S, wr_707 S, wr_708 S, wr_709 S, wr_710 S, wr_711 S, wv_68 S, wr_384 S, wr_385 S, wr_386 S, tv_1 S, dv H, dg_128 H, dp_128 H, dg_129 H, dp_129 H, dg_130 H, dp_130 H, dg_131 H, dp_131 H, dr_132 H, da_132 H, dr_133 H, da_133 H, dr_134 H, da_134 H, dr_135 H, da_135 H, dr_136 H, da_136 H, dr_137 H, da_137 H, c_dAt Q, Option.isNone_some, Option.isSome_some, c_hasReed H V O, c_hasPlayer H V O, c_hasQuestion H V O, c_hasAll H V O, c_isAnswer, c_within, ib_0, V.1.2.2.2, wa_69 S, ws_69 S, e_Main_lows, c_gatherNotes S H V O ha, e1, gthR_0]
  · refine ⟨_, C, ?_, tq.rfl⟩
    simp (disch := omega) only [if_true, if_false, not_true_eq_false, not_false_eq_true, zoI_s, zoR_s, zoH_s, zoL_s, zbI_s, zbV_s, zbR_s, zbL_s, zif_dec, i32_0, ne_eq, i32_lt, i32_le, i32_eq, i32_add, i32_mul, i32_sub, i32_neg, zrz_0, zrz_1, zif_t, zif_f, zsF_s, zsF_k, zsF_a, zsC_s, zsC_a, zsC_i, zsW_s, zsW_a, Int.add_zero, Int.zero_add, if_pos, if_neg, wv_0 S, wr_704 S, wr_705 S, wr_706 S, wr_707 S, wr_708 S, wr_709 S, wr_710 S, wr_711 S, tv_1 S, c_dAt0 Q, Option.isNone_none, Option.isSome_none, e_Main_lows]
theorem m_lows {d : Int} (hd : inI d) : ans1 253 72 [zI (i32 d)] (fun A => zI (i32 (lowsQ A d))) := by
  intro h F C Q
  have S := Q.1
  unfold inI at hd
  unfold lowsQ
  by_cases c1 : 0 ≤ d ∧ d < C 73 0
  · have M := miF_V Q c1.1 c1.2
    have O := Q.dO c1.1 c1.2
    skip
    obtain ⟨w, u, c, e⟩ := m_lowsL S M O (d := d)
    refine ⟨_, C, ?_, (miF_tq d).ml w u c⟩
    simp (disch := omega) only [if_true, if_false, not_true_eq_false, not_false_eq_true, zoI_s, zoR_s, zoH_s, zoL_s, zbI_s, zbV_s, zbR_s, zbL_s, zif_dec, i32_0, ne_eq, i32_lt, i32_le, i32_eq, i32_add, i32_mul, i32_sub, i32_neg, zrz_0, zrz_1, zif_t, zif_f, zsF_s, zsF_k, zsF_a, zsC_s, zsC_a, zsC_i, zsW_s, zsW_a, Int.add_zero, Int.zero_add, if_pos, if_neg, wv_72 S, wr_768 S, wr_769 S, wr_777 S, wr_785 S, wr_786 S, wr_787 S, wr_789 S, wr_790 S, wr_791 S, wr_802 S, wr_803 S, wr_804 S, wr_805 S, wr_806 S, wr_807 S, wr_809 S, wg_770 S, wp_770 S, wg_771 S, wp_771 S, wg_772 S, wp_772 S, wg_773 S, wp_773 S, wg_774 S, wp_774 S, wg_775 S, wp_775 S, wg_776 S, wp_776 S, wg_778 S, wp_778 S, wg_779 S, wp_779 S, wg_780 S, wp_780 S, wg_781 S, wp_781 S, wg_782 S, wp_782 S, wg_783 S, wp_783 S, wg_784 S, wp_784 S, wg_788 S, wp_788 S, wg_792 S, wp_792 S, wg_793 S, wp_793 S, wg_794 S, wp_794 S, wg_795 S, wp_795 S, wg_796 S, wp_796 S, wg_797 S, wp_797 S, wg_798 S, wp_798 S, wg_799 S, wp_799 S, wg_800 S, wp_800 S, wg_801 S, wp_801 S, wg_808 S, wp_808 S, wg_810 S, wp_810 S, m_isD Q, m_isReed S M O, m_isPlayer S M O, m_isQuestion S M O, m_isIn, m_are3 Q, ib_0, e_Model_lows, e]
  · refine ⟨_, C, ?_, tq.rfl⟩
    simp (disch := omega) only [if_true, if_false, not_true_eq_false, not_false_eq_true, zoI_s, zoR_s, zoH_s, zoL_s, zbI_s, zbV_s, zbR_s, zbL_s, zif_dec, i32_0, ne_eq, i32_lt, i32_le, i32_eq, i32_add, i32_mul, i32_sub, i32_neg, zrz_0, zrz_1, zif_t, zif_f, zsF_s, zsF_k, zsF_a, zsC_s, zsC_a, zsC_i, zsW_s, zsW_a, Int.add_zero, Int.zero_add, if_pos, if_neg, wv_72 S, wr_768 S, wr_769 S, wr_777 S, wr_785 S, wr_786 S, wr_787 S, wr_789 S, wr_790 S, wr_791 S, wr_802 S, wr_803 S, wr_804 S, wr_805 S, wr_806 S, wr_807 S, wr_809 S, wg_770 S, wp_770 S, wg_771 S, wp_771 S, wg_772 S, wp_772 S, wg_773 S, wp_773 S, wg_774 S, wp_774 S, wg_775 S, wp_775 S, wg_776 S, wp_776 S, wg_778 S, wp_778 S, wg_779 S, wp_779 S, wg_780 S, wp_780 S, wg_781 S, wp_781 S, wg_782 S, wp_782 S, wg_783 S, wp_783 S, wg_784 S, wp_784 S, wg_788 S, wp_788 S, wg_792 S, wp_792 S, wg_793 S, wp_793 S, wg_794 S, wp_794 S, wg_795 S, wp_795 S, wg_796 S, wp_796 S, wg_797 S, wp_797 S, wg_798 S, wp_798 S, wg_799 S, wp_799 S, wg_800 S, wp_800 S, wg_801 S, wp_801 S, wg_808 S, wp_808 S, wg_810 S, wp_810 S, m_isD0 Q, m_are30 Q, e_Model_lows]
theorem c_fairest {d x b : Int} (hd : inI d) (hx : inI x) (hb : inI b) : ans1 180 0 [zI (i32 d), zI (i32 x), zI (i32 b)] (fun A => zI (i32 (fairestQ A d x b))) := by
  intro h F C Q
  have S := Q.1
  unfold inI at hd hx hb
  unfold fairestQ
  by_cases c1 : 0 ≤ d ∧ d < C 73 0
  · have H := Q.dS c1.1 c1.2
    have V := Q.dV c1.1 c1.2
    have O := Q.dO c1.1 c1.2
    have ha : 8 + 13 * d.toNat ≤ 28 := by have := Q.2.2.1.1; omega
    by_cases g1 : 0 ≤ x ∧ x < 3
    · skip
      have hf : ∀ j, 0 ≤ j → j < 8 → fil8 (C 69) j + gthR (dOf (C 73) d) 0 j = gthR (dOf (C 73) d) 0 j := by
        intro j j0 j1
        unfold fil8
        rw [if_pos ⟨j0, j1⟩, Int.zero_add]
      have g := fairS_rng (D := dOf (C 73) d) x
      refine ⟨F, _, ?_, tq.rfl.sW (a := 69) (f := fun j => fil8 (C 69) j + gthR (dOf (C 73) d) 0 j) (by omega) (by omega)⟩
      by_cases c0 : b = 0
      · simp (disch := omega) only [if_true, if_false, not_true_eq_false, not_false_eq_true, zoI_s, zoR_s, zoH_s, zoL_s, zbI_s, zbV_s, zbR_s, zbL_s, zif_dec, i32_0, ne_eq, i32_lt, i32_le, i32_eq, i32_add, i32_mul, i32_sub, i32_neg, zrz_0, zrz_1, zif_t, zif_f, zsF_s, zsF_k, zsF_a, zsC_s, zsC_a, zsC_i, zsW_s, zsW_a, Int.add_zero, Int.zero_add, if_pos, if_neg, wv_0 S, wr_704 S, wr_705 S, wr_706 S, wr_707 S, wr_708 S, wr_709 S, wr_710 S, wr_711 S, wv_68 S, wr_384 S, wr_385 S, wr_386 S, tv_1 S, dv H, dg_128 H, dp_128 H, dg_129 H, dp_129 H, dg_130 H, dp_130 H, dg_131 H, dp_131 H, dr_132 H, da_132 H, dr_133 H, da_133 H, dr_134 H, da_134 H, dr_135 H, da_135 H, dr_136 H, da_136 H, dr_137 H, da_137 H, c_dAt Q, Option.isNone_some, Option.isSome_some, c_hasReed H V O, c_hasPlayer H V O, c_hasQuestion H V O, c_hasAll H V O, c_isAnswer, c_within, ib_0, e_Main_fairest, c_gatherNotes S H V O ha, c_fairestCold S H V O ha g1.1 g1.2 hf]
      · simp (disch := omega) only [if_true, if_false, not_true_eq_false, not_false_eq_true, zoI_s, zoR_s, zoH_s, zoL_s, zbI_s, zbV_s, zbR_s, zbL_s, zif_dec, i32_0, ne_eq, i32_lt, i32_le, i32_eq, i32_add, i32_mul, i32_sub, i32_neg, zrz_0, zrz_1, zif_t, zif_f, zsF_s, zsF_k, zsF_a, zsC_s, zsC_a, zsC_i, zsW_s, zsW_a, Int.add_zero, Int.zero_add, if_pos, if_neg, wv_0 S, wr_704 S, wr_705 S, wr_706 S, wr_707 S, wr_708 S, wr_709 S, wr_710 S, wr_711 S, wv_68 S, wr_384 S, wr_385 S, wr_386 S, tv_1 S, dv H, dg_128 H, dp_128 H, dg_129 H, dp_129 H, dg_130 H, dp_130 H, dg_131 H, dp_131 H, dr_132 H, da_132 H, dr_133 H, da_133 H, dr_134 H, da_134 H, dr_135 H, da_135 H, dr_136 H, da_136 H, dr_137 H, da_137 H, c_dAt Q, Option.isNone_some, Option.isSome_some, c_hasReed H V O, c_hasPlayer H V O, c_hasQuestion H V O, c_hasAll H V O, c_isAnswer, c_within, ib_0, e_Main_fairest, c_gatherNotes S H V O ha, c_fairestCold S H V O ha g1.1 g1.2 hf, c_answersIn S H V O ha g.1 g.2 g1.1 g1.2 hf]
    · refine ⟨_, C, ?_, tq.rfl⟩
      simp (disch := omega) only [if_true, if_false, not_true_eq_false, not_false_eq_true, zoI_s, zoR_s, zoH_s, zoL_s, zbI_s, zbV_s, zbR_s, zbL_s, zif_dec, i32_0, ne_eq, i32_lt, i32_le, i32_eq, i32_add, i32_mul, i32_sub, i32_neg, zrz_0, zrz_1, zif_t, zif_f, zsF_s, zsF_k, zsF_a, zsC_s, zsC_a, zsC_i, zsW_s, zsW_a, Int.add_zero, Int.zero_add, if_pos, if_neg, wv_0 S, wr_704 S, wr_705 S, wr_706 S, wr_707 S, wr_708 S, wr_709 S, wr_710 S, wr_711 S, wv_68 S, wr_384 S, wr_385 S, wr_386 S, tv_1 S, dv H, dg_128 H, dp_128 H, dg_129 H, dp_129 H, dg_130 H, dp_130 H, dg_131 H, dp_131 H, dr_132 H, da_132 H, dr_133 H, da_133 H, dr_134 H, da_134 H, dr_135 H, da_135 H, dr_136 H, da_136 H, dr_137 H, da_137 H, c_dAt Q, Option.isNone_some, Option.isSome_some, c_hasReed H V O, c_hasPlayer H V O, c_hasQuestion H V O, c_hasAll H V O, c_isAnswer, c_within, ib_0, e_Main_fairest]
  · refine ⟨_, C, ?_, tq.rfl⟩
    simp (disch := omega) only [if_true, if_false, not_true_eq_false, not_false_eq_true, zoI_s, zoR_s, zoH_s, zoL_s, zbI_s, zbV_s, zbR_s, zbL_s, zif_dec, i32_0, ne_eq, i32_lt, i32_le, i32_eq, i32_add, i32_mul, i32_sub, i32_neg, zrz_0, zrz_1, zif_t, zif_f, zsF_s, zsF_k, zsF_a, zsC_s, zsC_a, zsC_i, zsW_s, zsW_a, Int.add_zero, Int.zero_add, if_pos, if_neg, wv_0 S, wr_704 S, wr_705 S, wr_706 S, wr_707 S, wr_708 S, wr_709 S, wr_710 S, wr_711 S, tv_1 S, c_dAt0 Q, Option.isNone_none, Option.isSome_none, e_Main_fairest]
theorem m_fairest {d x b : Int} (hd : inI d) (hx : inI x) (hb : inI b) : ans1 285 72 [zI (i32 d), zI (i32 x), zI (i32 b)] (fun A => zI (i32 (fairestQ A d x b))) := by
  intro h F C Q
  have S := Q.1
  unfold inI at hd hx hb
  unfold fairestQ
  by_cases c1 : 0 ≤ d ∧ d < C 73 0
  · have M := miF_V Q c1.1 c1.2
    have O := Q.dO c1.1 c1.2
    by_cases g1 : 0 ≤ x ∧ x < 3
    · skip
      obtain ⟨w, u, c, e⟩ := m_fairestL S M O (d := d) (b := b) g1.1 g1.2 hb
      refine ⟨_, C, ?_, (miF_tq d).ml w u c⟩
      simp (disch := omega) only [if_true, if_false, not_true_eq_false, not_false_eq_true, zoI_s, zoR_s, zoH_s, zoL_s, zbI_s, zbV_s, zbR_s, zbL_s, zif_dec, i32_0, ne_eq, i32_lt, i32_le, i32_eq, i32_add, i32_mul, i32_sub, i32_neg, zrz_0, zrz_1, zif_t, zif_f, zsF_s, zsF_k, zsF_a, zsC_s, zsC_a, zsC_i, zsW_s, zsW_a, Int.add_zero, Int.zero_add, if_pos, if_neg, wv_72 S, wr_768 S, wr_769 S, wr_777 S, wr_785 S, wr_786 S, wr_787 S, wr_789 S, wr_790 S, wr_791 S, wr_802 S, wr_803 S, wr_804 S, wr_805 S, wr_806 S, wr_807 S, wr_809 S, wg_770 S, wp_770 S, wg_771 S, wp_771 S, wg_772 S, wp_772 S, wg_773 S, wp_773 S, wg_774 S, wp_774 S, wg_775 S, wp_775 S, wg_776 S, wp_776 S, wg_778 S, wp_778 S, wg_779 S, wp_779 S, wg_780 S, wp_780 S, wg_781 S, wp_781 S, wg_782 S, wp_782 S, wg_783 S, wp_783 S, wg_784 S, wp_784 S, wg_788 S, wp_788 S, wg_792 S, wp_792 S, wg_793 S, wp_793 S, wg_794 S, wp_794 S, wg_795 S, wp_795 S, wg_796 S, wp_796 S, wg_797 S, wp_797 S, wg_798 S, wp_798 S, wg_799 S, wp_799 S, wg_800 S, wp_800 S, wg_801 S, wp_801 S, wg_808 S, wp_808 S, wg_810 S, wp_810 S, m_isD Q, m_isReed S M O, m_isPlayer S M O, m_isQuestion S M O, m_isIn, m_are3 Q, ib_0, e_Model_fairest, e]
    · refine ⟨_, C, ?_, miF_tq d⟩
      simp (disch := omega) only [if_true, if_false, not_true_eq_false, not_false_eq_true, zoI_s, zoR_s, zoH_s, zoL_s, zbI_s, zbV_s, zbR_s, zbL_s, zif_dec, i32_0, ne_eq, i32_lt, i32_le, i32_eq, i32_add, i32_mul, i32_sub, i32_neg, zrz_0, zrz_1, zif_t, zif_f, zsF_s, zsF_k, zsF_a, zsC_s, zsC_a, zsC_i, zsW_s, zsW_a, Int.add_zero, Int.zero_add, if_pos, if_neg, wv_72 S, wr_768 S, wr_769 S, wr_777 S, wr_785 S, wr_786 S, wr_787 S, wr_789 S, wr_790 S, wr_791 S, wr_802 S, wr_803 S, wr_804 S, wr_805 S, wr_806 S, wr_807 S, wr_809 S, wg_770 S, wp_770 S, wg_771 S, wp_771 S, wg_772 S, wp_772 S, wg_773 S, wp_773 S, wg_774 S, wp_774 S, wg_775 S, wp_775 S, wg_776 S, wp_776 S, wg_778 S, wp_778 S, wg_779 S, wp_779 S, wg_780 S, wp_780 S, wg_781 S, wp_781 S, wg_782 S, wp_782 S, wg_783 S, wp_783 S, wg_784 S, wp_784 S, wg_788 S, wp_788 S, wg_792 S, wp_792 S, wg_793 S, wp_793 S, wg_794 S, wp_794 S, wg_795 S, wp_795 S, wg_796 S, wp_796 S, wg_797 S, wp_797 S, wg_798 S, wp_798 S, wg_799 S, wp_799 S, wg_800 S, wp_800 S, wg_801 S, wp_801 S, wg_808 S, wp_808 S, wg_810 S, wp_810 S, m_isD Q, m_isReed S M O, m_isPlayer S M O, m_isQuestion S M O, m_isIn, m_are3 Q, ib_0, e_Model_fairest]
  · refine ⟨_, C, ?_, tq.rfl⟩
    simp (disch := omega) only [if_true, if_false, not_true_eq_false, not_false_eq_true, zoI_s, zoR_s, zoH_s, zoL_s, zbI_s, zbV_s, zbR_s, zbL_s, zif_dec, i32_0, ne_eq, i32_lt, i32_le, i32_eq, i32_add, i32_mul, i32_sub, i32_neg, zrz_0, zrz_1, zif_t, zif_f, zsF_s, zsF_k, zsF_a, zsC_s, zsC_a, zsC_i, zsW_s, zsW_a, Int.add_zero, Int.zero_add, if_pos, if_neg, wv_72 S, wr_768 S, wr_769 S, wr_777 S, wr_785 S, wr_786 S, wr_787 S, wr_789 S, wr_790 S, wr_791 S, wr_802 S, wr_803 S, wr_804 S, wr_805 S, wr_806 S, wr_807 S, wr_809 S, wg_770 S, wp_770 S, wg_771 S, wp_771 S, wg_772 S, wp_772 S, wg_773 S, wp_773 S, wg_774 S, wp_774 S, wg_775 S, wp_775 S, wg_776 S, wp_776 S, wg_778 S, wp_778 S, wg_779 S, wp_779 S, wg_780 S, wp_780 S, wg_781 S, wp_781 S, wg_782 S, wp_782 S, wg_783 S, wp_783 S, wg_784 S, wp_784 S, wg_788 S, wp_788 S, wg_792 S, wp_792 S, wg_793 S, wp_793 S, wg_794 S, wp_794 S, wg_795 S, wp_795 S, wg_796 S, wp_796 S, wg_797 S, wp_797 S, wg_798 S, wp_798 S, wg_799 S, wp_799 S, wg_800 S, wp_800 S, wg_801 S, wp_801 S, wg_808 S, wp_808 S, wg_810 S, wp_810 S, m_isD0 Q, m_are30 Q, e_Model_fairest]
