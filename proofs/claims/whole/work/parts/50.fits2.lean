/-! fits: the reference -/
def moL (F : Nat → Nat → Int) (C : Nat → Int → Int) (L : Int → Int) : Prop := (0 ≤ F 808 72 ∧ F 808 72 ≤ 2000) ∧ ∀ j, 0 ≤ j → j < 25 → C 73 (F 808 72 + j) = L j
section FM
variable {h : zHeap} {F : Nat → Nat → Int} {C : Nat → Int → Int} {D L : Int → Int}
theorem moL.at (N : moL F C L) {i j : Int} (h0 : 0 ≤ j) (h1 : j < 25) (hi : i = F 808 72 + j) : C 73 i = L j := by rw [hi]; exact N.2 j h0 h1
theorem moL.ml (N : moL F C L) (w u v : Int) : moL (mlF F w u v) C L := N
theorem moL.sW (N : moL F C L) {a : Nat} (f : Int → Int) (h : a ≠ 73) : moL F (zsW C a f) L := by
  unfold moL
  rw [zsW_a (Ne.symm h)]; exact N
theorem m_areThere (S : St h) (M : moV F C D) (O : dOK D) (N : moL F C L) (P : lOK L) : zc 308 [zR (some 72)] (zw h F C) = some (zI (i32 (if thB D L = true then 1 else 0)), zw h F C) := by
  have p0 := P.1
  have n0 := N.1
  have b1 := O.2.1
  have b2 := O.2.2.1
  have e0 : C 73 (F 808 72) = L 0 := N.at (j := 0) (by omega) (by omega) (by omega)
  obtain ⟨_, L1, _⟩ := zandJ (fun i b (_ : Unit) => zr 308 4 [yR (some 72), yI (i32 (if b = true then 1 else 0)), yI (i32 i)] [] (zw h F C)) (fun i => decide (L (1 + 3 * i) < D 1) && decide (L (2 + 3 * i) < D 2)) (fun _ => True) (L 0) (by omega) (fun i b _ i0 i1 _ => by
    have g := P.2 i i0 i1
    have e1 : C 73 (F 808 72 + 1 + 3 * i) = L (1 + 3 * i) := N.at (by omega) (by omega) (by omega)
    have e2 : C 73 (F 808 72 + 2 + 3 * i) = L (2 + 3 * i) := N.at (by omega) (by omega) (by omega)
    refine ⟨(), ?_, trivial⟩
    rw [e_Model_areThere_4]
    cases b with
    | false => simp (disch := omega) only [if_true, if_false, not_true_eq_false, not_false_eq_true, zoI_s, zoR_s, zoH_s, zoL_s, zbI_s, zbV_s, zbR_s, zbL_s, zif_dec, i32_0, ne_eq, i32_lt, i32_le, i32_eq, i32_add, i32_mul, i32_sub, i32_neg, zrz_0, zrz_1, zif_t, zif_f, zsF_s, zsF_k, zsF_a, zsC_s, zsC_a, zsC_i, zsW_s, zsW_a, Int.add_zero, Int.zero_add, true_and, false_and, and_false, Bool.false_eq_true, decide_true, decide_false, Bool.true_and, Bool.false_and, Bool.true_or, Bool.false_or, sub1, if_pos, if_neg, wv_72 S, wr_768 S, wr_769 S, wr_777 S, wr_785 S, wr_786 S, wr_787 S, wr_789 S, wr_790 S, wr_791 S, wr_802 S, wr_803 S, wr_804 S, wr_805 S, wr_806 S, wr_807 S, wr_809 S, wg_770 S, wp_770 S, wg_771 S, wp_771 S, wg_772 S, wp_772 S, wg_773 S, wp_773 S, wg_774 S, wp_774 S, wg_775 S, wp_775 S, wg_776 S, wp_776 S, wg_778 S, wp_778 S, wg_779 S, wp_779 S, wg_780 S, wp_780 S, wg_781 S, wp_781 S, wg_782 S, wp_782 S, wg_783 S, wp_783 S, wg_784 S, wp_784 S, wg_788 S, wp_788 S, wg_792 S, wp_792 S, wg_793 S, wp_793 S, wg_794 S, wp_794 S, wg_795 S, wp_795 S, wg_796 S, wp_796 S, wg_797 S, wp_797 S, wg_798 S, wp_798 S, wg_799 S, wp_799 S, wg_800 S, wp_800 S, wg_801 S, wp_801 S, wg_808 S, wp_808 S, wg_810 S, wp_810 S, wa_73 S, ws_73 S, e0]
    | true =>
      by_cases c1 : L (1 + 3 * i) < D 1
      · by_cases c2 : L (2 + 3 * i) < D 2
        · simp (disch := omega) only [if_true, if_false, not_true_eq_false, not_false_eq_true, zoI_s, zoR_s, zoH_s, zoL_s, zbI_s, zbV_s, zbR_s, zbL_s, zif_dec, i32_0, ne_eq, i32_lt, i32_le, i32_eq, i32_add, i32_mul, i32_sub, i32_neg, zrz_0, zrz_1, zif_t, zif_f, zsF_s, zsF_k, zsF_a, zsC_s, zsC_a, zsC_i, zsW_s, zsW_a, Int.add_zero, Int.zero_add, true_and, false_and, and_false, Bool.false_eq_true, decide_true, decide_false, Bool.true_and, Bool.false_and, Bool.true_or, Bool.false_or, sub1, if_pos, if_neg, wv_72 S, wr_768 S, wr_769 S, wr_777 S, wr_785 S, wr_786 S, wr_787 S, wr_789 S, wr_790 S, wr_791 S, wr_802 S, wr_803 S, wr_804 S, wr_805 S, wr_806 S, wr_807 S, wr_809 S, wg_770 S, wp_770 S, wg_771 S, wp_771 S, wg_772 S, wp_772 S, wg_773 S, wp_773 S, wg_774 S, wp_774 S, wg_775 S, wp_775 S, wg_776 S, wp_776 S, wg_778 S, wp_778 S, wg_779 S, wp_779 S, wg_780 S, wp_780 S, wg_781 S, wp_781 S, wg_782 S, wp_782 S, wg_783 S, wp_783 S, wg_784 S, wp_784 S, wg_788 S, wp_788 S, wg_792 S, wp_792 S, wg_793 S, wp_793 S, wg_794 S, wp_794 S, wg_795 S, wp_795 S, wg_796 S, wp_796 S, wg_797 S, wp_797 S, wg_798 S, wp_798 S, wg_799 S, wp_799 S, wg_800 S, wp_800 S, wg_801 S, wp_801 S, wg_808 S, wp_808 S, wg_810 S, wp_810 S, wa_73 S, ws_73 S, e0, e1, e2, M.2.1.2.1, M.2.1.2.2, c1, c2]
        · simp (disch := omega) only [if_true, if_false, not_true_eq_false, not_false_eq_true, zoI_s, zoR_s, zoH_s, zoL_s, zbI_s, zbV_s, zbR_s, zbL_s, zif_dec, i32_0, ne_eq, i32_lt, i32_le, i32_eq, i32_add, i32_mul, i32_sub, i32_neg, zrz_0, zrz_1, zif_t, zif_f, zsF_s, zsF_k, zsF_a, zsC_s, zsC_a, zsC_i, zsW_s, zsW_a, Int.add_zero, Int.zero_add, true_and, false_and, and_false, Bool.false_eq_true, decide_true, decide_false, Bool.true_and, Bool.false_and, Bool.true_or, Bool.false_or, sub1, if_pos, if_neg, wv_72 S, wr_768 S, wr_769 S, wr_777 S, wr_785 S, wr_786 S, wr_787 S, wr_789 S, wr_790 S, wr_791 S, wr_802 S, wr_803 S, wr_804 S, wr_805 S, wr_806 S, wr_807 S, wr_809 S, wg_770 S, wp_770 S, wg_771 S, wp_771 S, wg_772 S, wp_772 S, wg_773 S, wp_773 S, wg_774 S, wp_774 S, wg_775 S, wp_775 S, wg_776 S, wp_776 S, wg_778 S, wp_778 S, wg_779 S, wp_779 S, wg_780 S, wp_780 S, wg_781 S, wp_781 S, wg_782 S, wp_782 S, wg_783 S, wp_783 S, wg_784 S, wp_784 S, wg_788 S, wp_788 S, wg_792 S, wp_792 S, wg_793 S, wp_793 S, wg_794 S, wp_794 S, wg_795 S, wp_795 S, wg_796 S, wp_796 S, wg_797 S, wp_797 S, wg_798 S, wp_798 S, wg_799 S, wp_799 S, wg_800 S, wp_800 S, wg_801 S, wp_801 S, wg_808 S, wp_808 S, wg_810 S, wp_810 S, wa_73 S, ws_73 S, e0, e1, e2, M.2.1.2.1, M.2.1.2.2, c1, c2]
      · simp (disch := omega) only [if_true, if_false, not_true_eq_false, not_false_eq_true, zoI_s, zoR_s, zoH_s, zoL_s, zbI_s, zbV_s, zbR_s, zbL_s, zif_dec, i32_0, ne_eq, i32_lt, i32_le, i32_eq, i32_add, i32_mul, i32_sub, i32_neg, zrz_0, zrz_1, zif_t, zif_f, zsF_s, zsF_k, zsF_a, zsC_s, zsC_a, zsC_i, zsW_s, zsW_a, Int.add_zero, Int.zero_add, true_and, false_and, and_false, Bool.false_eq_true, decide_true, decide_false, Bool.true_and, Bool.false_and, Bool.true_or, Bool.false_or, sub1, if_pos, if_neg, wv_72 S, wr_768 S, wr_769 S, wr_777 S, wr_785 S, wr_786 S, wr_787 S, wr_789 S, wr_790 S, wr_791 S, wr_802 S, wr_803 S, wr_804 S, wr_805 S, wr_806 S, wr_807 S, wr_809 S, wg_770 S, wp_770 S, wg_771 S, wp_771 S, wg_772 S, wp_772 S, wg_773 S, wp_773 S, wg_774 S, wp_774 S, wg_775 S, wp_775 S, wg_776 S, wp_776 S, wg_778 S, wp_778 S, wg_779 S, wp_779 S, wg_780 S, wp_780 S, wg_781 S, wp_781 S, wg_782 S, wp_782 S, wg_783 S, wp_783 S, wg_784 S, wp_784 S, wg_788 S, wp_788 S, wg_792 S, wp_792 S, wg_793 S, wp_793 S, wg_794 S, wp_794 S, wg_795 S, wp_795 S, wg_796 S, wp_796 S, wg_797 S, wp_797 S, wg_798 S, wp_798 S, wg_799 S, wp_799 S, wg_800 S, wp_800 S, wg_801 S, wp_801 S, wg_808 S, wp_808 S, wg_810 S, wp_810 S, wa_73 S, ws_73 S, e0, e1, e2, M.2.1.2.1, M.2.1.2.2, c1]) true () trivial
  rw [if_pos rfl, Bool.true_and, show alB (fun i => decide (L (1 + 3 * i) < D 1) && decide (L (2 + 3 * i) < D 2)) (L 0) = thB D L from rfl] at L1
  rw [e_Model_areThere, L1, e_Model_areThere_4]
  simp (disch := omega) only [if_true, if_false, not_true_eq_false, not_false_eq_true, zoI_s, zoR_s, zoH_s, zoL_s, zbI_s, zbV_s, zbR_s, zbL_s, zif_dec, i32_0, ne_eq, i32_lt, i32_le, i32_eq, i32_add, i32_mul, i32_sub, i32_neg, zrz_0, zrz_1, zif_t, zif_f, zsF_s, zsF_k, zsF_a, zsC_s, zsC_a, zsC_i, zsW_s, zsW_a, Int.add_zero, Int.zero_add, true_and, false_and, and_false, Bool.false_eq_true, decide_true, decide_false, Bool.true_and, Bool.false_and, Bool.true_or, Bool.false_or, sub1, if_pos, if_neg, wv_72 S, wr_768 S, wr_769 S, wr_777 S, wr_785 S, wr_786 S, wr_787 S, wr_789 S, wr_790 S, wr_791 S, wr_802 S, wr_803 S, wr_804 S, wr_805 S, wr_806 S, wr_807 S, wr_809 S, wg_770 S, wp_770 S, wg_771 S, wp_771 S, wg_772 S, wp_772 S, wg_773 S, wp_773 S, wg_774 S, wp_774 S, wg_775 S, wp_775 S, wg_776 S, wp_776 S, wg_778 S, wp_778 S, wg_779 S, wp_779 S, wg_780 S, wp_780 S, wg_781 S, wp_781 S, wg_782 S, wp_782 S, wg_783 S, wp_783 S, wg_784 S, wp_784 S, wg_788 S, wp_788 S, wg_792 S, wp_792 S, wg_793 S, wp_793 S, wg_794 S, wp_794 S, wg_795 S, wp_795 S, wg_796 S, wp_796 S, wg_797 S, wp_797 S, wg_798 S, wp_798 S, wg_799 S, wp_799 S, wg_800 S, wp_800 S, wg_801 S, wp_801 S, wg_808 S, wp_808 S, wg_810 S, wp_810 S, wa_73 S, ws_73 S, e0, zrz_b]
theorem m_noteBy (S : St h) (M : moV F C D) (O : dOK D) {c n p q : Int} (c0 : 0 ≤ c) (c1 : c < 80) (n0 : 0 ≤ n) (n1 : n ≤ 100) (p0 : 0 ≤ p) (p1 : p < D 1) (q0 : 0 ≤ q) (q1 : q < D 2) (w u v : Int) : zc 306 [zR (some 72), zI (i32 c), zI (i32 n), zI (i32 p), zI (i32 q)] (zw h (mlF F w u v) C) = some (zI (i32 (noteS D (driS (c / 8) n) (c % 8) (D 3) p q)), zw h (mlF F (driS (c / 8) n) (c % 8) (D 3)) C) := by
  have b6 := O.2.2.2.1
  have m1 := M.1
  have dr := driS_rng (w := c / 8) (n := n) (by omega) (by omega) n0
  have e3 : C 73 (F 778 72 + 3) = D 3 := m_cold M
  have ed : driS (c / 8) n = if c / 8 ≤ n then 0 else c / 8 - n := by
    unfold driS
    by_cases z : c / 8 < n
    · rw [if_pos z, if_pos (by omega)]
    · rw [if_neg z]
      by_cases z2 : c / 8 ≤ n
      · rw [if_pos z2]; omega
      · rw [if_neg z2]
  rw [e_Model_noteBy]
  by_cases cc : c / 8 ≤ n
  · rw [if_pos cc] at ed
    rw [ed]
    simp (disch := omega) only [if_true, if_false, not_true_eq_false, not_false_eq_true, zoI_s, zoR_s, zoH_s, zoL_s, zbI_s, zbV_s, zbR_s, zbL_s, zif_dec, i32_0, ne_eq, i32_lt, i32_le, i32_eq, i32_add, i32_mul, i32_sub, i32_neg, zrz_0, zrz_1, zif_t, zif_f, zsF_s, zsF_k, zsF_a, zsC_s, zsC_a, zsC_i, zsW_s, zsW_a, Int.add_zero, Int.zero_add, true_and, false_and, and_false, Bool.false_eq_true, decide_true, decide_false, Bool.true_and, Bool.false_and, Bool.true_or, Bool.false_or, sub1, if_pos, if_neg, wv_72 S, wr_768 S, wr_769 S, wr_777 S, wr_785 S, wr_786 S, wr_787 S, wr_789 S, wr_790 S, wr_791 S, wr_802 S, wr_803 S, wr_804 S, wr_805 S, wr_806 S, wr_807 S, wr_809 S, wg_770 S, wp_770 S, wg_771 S, wp_771 S, wg_772 S, wp_772 S, wg_773 S, wp_773 S, wg_774 S, wp_774 S, wg_775 S, wp_775 S, wg_776 S, wp_776 S, wg_778 S, wp_778 S, wg_779 S, wp_779 S, wg_780 S, wp_780 S, wg_781 S, wp_781 S, wg_782 S, wp_782 S, wg_783 S, wp_783 S, wg_784 S, wp_784 S, wg_788 S, wp_788 S, wg_792 S, wp_792 S, wg_793 S, wp_793 S, wg_794 S, wp_794 S, wg_795 S, wp_795 S, wg_796 S, wp_796 S, wg_797 S, wp_797 S, wg_798 S, wp_798 S, wg_799 S, wp_799 S, wg_800 S, wp_800 S, wg_801 S, wp_801 S, wg_808 S, wp_808 S, wg_810 S, wp_810 S, wa_73 S, ws_73 S, i32_div, i32_rem, mlF_0, mlF_1, mlF_2, mlF_o, e3, m_notw S M O]
  · rw [if_neg cc] at ed
    rw [ed] at dr ⊢
    simp (disch := omega) only [if_true, if_false, not_true_eq_false, not_false_eq_true, zoI_s, zoR_s, zoH_s, zoL_s, zbI_s, zbV_s, zbR_s, zbL_s, zif_dec, i32_0, ne_eq, i32_lt, i32_le, i32_eq, i32_add, i32_mul, i32_sub, i32_neg, zrz_0, zrz_1, zif_t, zif_f, zsF_s, zsF_k, zsF_a, zsC_s, zsC_a, zsC_i, zsW_s, zsW_a, Int.add_zero, Int.zero_add, true_and, false_and, and_false, Bool.false_eq_true, decide_true, decide_false, Bool.true_and, Bool.false_and, Bool.true_or, Bool.false_or, sub1, if_pos, if_neg, wv_72 S, wr_768 S, wr_769 S, wr_777 S, wr_785 S, wr_786 S, wr_787 S, wr_789 S, wr_790 S, wr_791 S, wr_802 S, wr_803 S, wr_804 S, wr_805 S, wr_806 S, wr_807 S, wr_809 S, wg_770 S, wp_770 S, wg_771 S, wp_771 S, wg_772 S, wp_772 S, wg_773 S, wp_773 S, wg_774 S, wp_774 S, wg_775 S, wp_775 S, wg_776 S, wp_776 S, wg_778 S, wp_778 S, wg_779 S, wp_779 S, wg_780 S, wp_780 S, wg_781 S, wp_781 S, wg_782 S, wp_782 S, wg_783 S, wp_783 S, wg_784 S, wp_784 S, wg_788 S, wp_788 S, wg_792 S, wp_792 S, wg_793 S, wp_793 S, wg_794 S, wp_794 S, wg_795 S, wp_795 S, wg_796 S, wp_796 S, wg_797 S, wp_797 S, wg_798 S, wp_798 S, wg_799 S, wp_799 S, wg_800 S, wp_800 S, wg_801 S, wp_801 S, wg_808 S, wp_808 S, wg_810 S, wp_810 S, wa_73 S, ws_73 S, i32_div, i32_rem, mlF_0, mlF_1, mlF_2, mlF_o, e3, m_notw S M O]
theorem m_isSo (S : St h) (M : moV F C D) (O : dOK D) (N : moL F C L) (P : lOK L) (T : thB D L = true) {c : Int} (c0 : 0 ≤ c) (c1 : c < 80) (w u v : Int) : ∃ w' u' v', zc 307 [zR (some 72), zI (i32 c)] (zw h (mlF F w u v) C) = some (zI (i32 (if soB D L c = true then 1 else 0)), zw h (mlF F w' u' v') C) := by
  have p0 := P.1
  have n0 := N.1
  have e0 : C 73 (F 808 72) = L 0 := N.at (j := 0) (by omega) (by omega) (by omega)
  obtain ⟨t, L1, _⟩ := zandJ (fun i b (t : Int × Int × Int) => zr 307 4 [yR (some 72), yI (i32 c), yI (i32 (if b = true then 1 else 0)), yI (i32 i), none] [] (zw h (mlF F t.1 t.2.1 t.2.2) C)) (fun i => decide (noteS D (driS (c / 8) i) (c % 8) (D 3) (L (1 + 3 * i)) (L (2 + 3 * i)) = L (3 + 3 * i))) (fun _ => True) (L 0) (by omega) (fun i b t i0 i1 _ => by
    have g := P.2 i i0 i1
    have tt := th_at T i0 i1
    have e1 : C 73 (F 808 72 + 1 + 3 * i) = L (1 + 3 * i) := N.at (by omega) (by omega) (by omega)
    have e2 : C 73 (F 808 72 + 1 + 3 * i + 1) = L (2 + 3 * i) := N.at (by omega) (by omega) (by omega)
    have e3 : C 73 (F 808 72 + 1 + 3 * i + 2) = L (3 + 3 * i) := N.at (by omega) (by omega) (by omega)
    have nr := noteS_rng (D := D) (w := driS (c / 8) i) (k := c % 8) (c := D 3) (p := L (1 + 3 * i)) (q := L (2 + 3 * i))
    rw [e_Model_isSo_4]
    cases b with
    | false =>
      simp (disch := omega) only [if_true, if_false, not_true_eq_false, not_false_eq_true, zoI_s, zoR_s, zoH_s, zoL_s, zbI_s, zbV_s, zbR_s, zbL_s, zif_dec, i32_0, ne_eq, i32_lt, i32_le, i32_eq, i32_add, i32_mul, i32_sub, i32_neg, zrz_0, zrz_1, zif_t, zif_f, zsF_s, zsF_k, zsF_a, zsC_s, zsC_a, zsC_i, zsW_s, zsW_a, Int.add_zero, Int.zero_add, true_and, false_and, and_false, Bool.false_eq_true, decide_true, decide_false, Bool.true_and, Bool.false_and, Bool.true_or, Bool.false_or, sub1, if_pos, if_neg, wv_72 S, wr_768 S, wr_769 S, wr_777 S, wr_785 S, wr_786 S, wr_787 S, wr_789 S, wr_790 S, wr_791 S, wr_802 S, wr_803 S, wr_804 S, wr_805 S, wr_806 S, wr_807 S, wr_809 S, wg_770 S, wp_770 S, wg_771 S, wp_771 S, wg_772 S, wp_772 S, wg_773 S, wp_773 S, wg_774 S, wp_774 S, wg_775 S, wp_775 S, wg_776 S, wp_776 S, wg_778 S, wp_778 S, wg_779 S, wp_779 S, wg_780 S, wp_780 S, wg_781 S, wp_781 S, wg_782 S, wp_782 S, wg_783 S, wp_783 S, wg_784 S, wp_784 S, wg_788 S, wp_788 S, wg_792 S, wp_792 S, wg_793 S, wp_793 S, wg_794 S, wp_794 S, wg_795 S, wp_795 S, wg_796 S, wp_796 S, wg_797 S, wp_797 S, wg_798 S, wp_798 S, wg_799 S, wp_799 S, wg_800 S, wp_800 S, wg_801 S, wp_801 S, wg_808 S, wp_808 S, wg_810 S, wp_810 S, wa_73 S, ws_73 S, mlF_o, e0, d_Model_isSo_4_w4]
      exact ⟨(_, _, _), rfl, trivial⟩
    | true =>
      by_cases c2 : noteS D (driS (c / 8) i) (c % 8) (D 3) (L (1 + 3 * i)) (L (2 + 3 * i)) = L (3 + 3 * i)
      · simp (disch := omega) only [if_true, if_false, not_true_eq_false, not_false_eq_true, zoI_s, zoR_s, zoH_s, zoL_s, zbI_s, zbV_s, zbR_s, zbL_s, zif_dec, i32_0, ne_eq, i32_lt, i32_le, i32_eq, i32_add, i32_mul, i32_sub, i32_neg, zrz_0, zrz_1, zif_t, zif_f, zsF_s, zsF_k, zsF_a, zsC_s, zsC_a, zsC_i, zsW_s, zsW_a, Int.add_zero, Int.zero_add, true_and, false_and, and_false, Bool.false_eq_true, decide_true, decide_false, Bool.true_and, Bool.false_and, Bool.true_or, Bool.false_or, sub1, if_pos, if_neg, wv_72 S, wr_768 S, wr_769 S, wr_777 S, wr_785 S, wr_786 S, wr_787 S, wr_789 S, wr_790 S, wr_791 S, wr_802 S, wr_803 S, wr_804 S, wr_805 S, wr_806 S, wr_807 S, wr_809 S, wg_770 S, wp_770 S, wg_771 S, wp_771 S, wg_772 S, wp_772 S, wg_773 S, wp_773 S, wg_774 S, wp_774 S, wg_775 S, wp_775 S, wg_776 S, wp_776 S, wg_778 S, wp_778 S, wg_779 S, wp_779 S, wg_780 S, wp_780 S, wg_781 S, wp_781 S, wg_782 S, wp_782 S, wg_783 S, wp_783 S, wg_784 S, wp_784 S, wg_788 S, wp_788 S, wg_792 S, wp_792 S, wg_793 S, wp_793 S, wg_794 S, wp_794 S, wg_795 S, wp_795 S, wg_796 S, wp_796 S, wg_797 S, wp_797 S, wg_798 S, wp_798 S, wg_799 S, wp_799 S, wg_800 S, wp_800 S, wg_801 S, wp_801 S, wg_808 S, wp_808 S, wg_810 S, wp_810 S, wa_73 S, ws_73 S, mlF_o, e0, e1, e2, e3, m_noteBy S M O, c2, d_Model_isSo_4_w4]
        exact ⟨(_, _, _), rfl, trivial⟩
      · simp (disch := omega) only [if_true, if_false, not_true_eq_false, not_false_eq_true, zoI_s, zoR_s, zoH_s, zoL_s, zbI_s, zbV_s, zbR_s, zbL_s, zif_dec, i32_0, ne_eq, i32_lt, i32_le, i32_eq, i32_add, i32_mul, i32_sub, i32_neg, zrz_0, zrz_1, zif_t, zif_f, zsF_s, zsF_k, zsF_a, zsC_s, zsC_a, zsC_i, zsW_s, zsW_a, Int.add_zero, Int.zero_add, true_and, false_and, and_false, Bool.false_eq_true, decide_true, decide_false, Bool.true_and, Bool.false_and, Bool.true_or, Bool.false_or, sub1, if_pos, if_neg, wv_72 S, wr_768 S, wr_769 S, wr_777 S, wr_785 S, wr_786 S, wr_787 S, wr_789 S, wr_790 S, wr_791 S, wr_802 S, wr_803 S, wr_804 S, wr_805 S, wr_806 S, wr_807 S, wr_809 S, wg_770 S, wp_770 S, wg_771 S, wp_771 S, wg_772 S, wp_772 S, wg_773 S, wp_773 S, wg_774 S, wp_774 S, wg_775 S, wp_775 S, wg_776 S, wp_776 S, wg_778 S, wp_778 S, wg_779 S, wp_779 S, wg_780 S, wp_780 S, wg_781 S, wp_781 S, wg_782 S, wp_782 S, wg_783 S, wp_783 S, wg_784 S, wp_784 S, wg_788 S, wp_788 S, wg_792 S, wp_792 S, wg_793 S, wp_793 S, wg_794 S, wp_794 S, wg_795 S, wp_795 S, wg_796 S, wp_796 S, wg_797 S, wp_797 S, wg_798 S, wp_798 S, wg_799 S, wp_799 S, wg_800 S, wp_800 S, wg_801 S, wp_801 S, wg_808 S, wp_808 S, wg_810 S, wp_810 S, wa_73 S, ws_73 S, mlF_o, e0, e1, e2, e3, m_noteBy S M O, c2, d_Model_isSo_4_w4]
        exact ⟨(_, _, _), rfl, trivial⟩) true (w, u, v) trivial
  dsimp only at L1
  rw [if_pos rfl, Bool.true_and, show alB (fun i => decide (noteS D (driS (c / 8) i) (c % 8) (D 3) (L (1 + 3 * i)) (L (2 + 3 * i)) = L (3 + 3 * i))) (L 0) = soB D L c from rfl] at L1
  refine ⟨t.1, t.2.1, t.2.2, ?_⟩
  rw [e_Model_isSo, L1, e_Model_isSo_4]
  simp (disch := omega) only [if_true, if_false, not_true_eq_false, not_false_eq_true, zoI_s, zoR_s, zoH_s, zoL_s, zbI_s, zbV_s, zbR_s, zbL_s, zif_dec, i32_0, ne_eq, i32_lt, i32_le, i32_eq, i32_add, i32_mul, i32_sub, i32_neg, zrz_0, zrz_1, zif_t, zif_f, zsF_s, zsF_k, zsF_a, zsC_s, zsC_a, zsC_i, zsW_s, zsW_a, Int.add_zero, Int.zero_add, true_and, false_and, and_false, Bool.false_eq_true, decide_true, decide_false, Bool.true_and, Bool.false_and, Bool.true_or, Bool.false_or, sub1, if_pos, if_neg, wv_72 S, wr_768 S, wr_769 S, wr_777 S, wr_785 S, wr_786 S, wr_787 S, wr_789 S, wr_790 S, wr_791 S, wr_802 S, wr_803 S, wr_804 S, wr_805 S, wr_806 S, wr_807 S, wr_809 S, wg_770 S, wp_770 S, wg_771 S, wp_771 S, wg_772 S, wp_772 S, wg_773 S, wp_773 S, wg_774 S, wp_774 S, wg_775 S, wp_775 S, wg_776 S, wp_776 S, wg_778 S, wp_778 S, wg_779 S, wp_779 S, wg_780 S, wp_780 S, wg_781 S, wp_781 S, wg_782 S, wp_782 S, wg_783 S, wp_783 S, wg_784 S, wp_784 S, wg_788 S, wp_788 S, wg_792 S, wp_792 S, wg_793 S, wp_793 S, wg_794 S, wp_794 S, wg_795 S, wp_795 S, wg_796 S, wp_796 S, wg_797 S, wp_797 S, wg_798 S, wp_798 S, wg_799 S, wp_799 S, wg_800 S, wp_800 S, wg_801 S, wp_801 S, wg_808 S, wp_808 S, wg_810 S, wp_810 S, wa_73 S, ws_73 S, mlF_o, e0, zrz_b]
theorem or_0 {s : Int} (s0 : 0 ≤ s) (s1 : s < 512) : i32 s ||| i32 0 = i32 s := by
  rw [b_ors s0 s1 (by omega) (by omega)]
  congr 1
  unfold ors
  rw [show (0 : Int).toNat = 0 from rfl, Nat.or_zero]
  omega
theorem m_whoseOf (S : St h) (M : moV F C D) (O : dOK D) (N : moL F C L) (P : lOK L) (T : thB D L = true) (w u v : Int) : ∃ w' u' v', zc 311 [zR (some 72)] (zw h (mlF F w u v) C) = some (zI (i32 (whoS D L)), zw h (mlF F w' u' v') C) := by
  have b0 := O.1
  obtain ⟨t, L1, _⟩ := zfoJ (fun r s (t : Int × Int × Int) => zr 311 4 [yR (some 72), yI (i32 s), yI (i32 r)] [] (zw h (mlF F t.1 t.2.1 t.2.2) C)) (whoF D L) (fun _ s _ => 0 ≤ s ∧ s < 64) 0 (D 0) (by omega) (fun r s t r0 r1 hi => by
    have b1 := O.2.2.2.2.1 r r0 r1
    have b5 := O.2.2.2.2.2.1 r r0 r1
    obtain ⟨w', u', v', e⟩ := m_isSo S M O N P T (c := 8 * D (4 + 2 * r) + D (5 + 2 * r)) (by omega) (by omega) t.1 t.2.1 t.2.2
    rw [show soB D L (8 * D (4 + 2 * r) + D (5 + 2 * r)) = soW D L (D (4 + 2 * r)) (D (5 + 2 * r)) by unfold soB; rw [show (8 * D (4 + 2 * r) + D (5 + 2 * r)) / 8 = D (4 + 2 * r) by omega, show (8 * D (4 + 2 * r) + D (5 + 2 * r)) % 8 = D (5 + 2 * r) by omega]] at e
    refine ⟨(w', u', v'), ?_, whoF_I O r s r0 r1 hi⟩
    rw [e_Model_whoseOf_4]
    unfold whoF
    cases ct : soW D L (D (4 + 2 * r)) (D (5 + 2 * r)) with
    | true =>
      rw [ct] at e
      simp (disch := omega) only [if_true, if_false, not_true_eq_false, not_false_eq_true, zoI_s, zoR_s, zoH_s, zoL_s, zbI_s, zbV_s, zbR_s, zbL_s, zif_dec, i32_0, ne_eq, i32_lt, i32_le, i32_eq, i32_add, i32_mul, i32_sub, i32_neg, zrz_0, zrz_1, zif_t, zif_f, zsF_s, zsF_k, zsF_a, zsC_s, zsC_a, zsC_i, zsW_s, zsW_a, Int.add_zero, Int.zero_add, true_and, false_and, and_false, Bool.false_eq_true, decide_true, decide_false, Bool.true_and, Bool.false_and, Bool.true_or, Bool.false_or, sub1, if_pos, if_neg, wv_72 S, wr_768 S, wr_769 S, wr_777 S, wr_785 S, wr_786 S, wr_787 S, wr_789 S, wr_790 S, wr_791 S, wr_802 S, wr_803 S, wr_804 S, wr_805 S, wr_806 S, wr_807 S, wr_809 S, wg_770 S, wp_770 S, wg_771 S, wp_771 S, wg_772 S, wp_772 S, wg_773 S, wp_773 S, wg_774 S, wp_774 S, wg_775 S, wp_775 S, wg_776 S, wp_776 S, wg_778 S, wp_778 S, wg_779 S, wp_779 S, wg_780 S, wp_780 S, wg_781 S, wp_781 S, wg_782 S, wp_782 S, wg_783 S, wp_783 S, wg_784 S, wp_784 S, wg_788 S, wp_788 S, wg_792 S, wp_792 S, wg_793 S, wp_793 S, wg_794 S, wp_794 S, wg_795 S, wp_795 S, wg_796 S, wp_796 S, wg_797 S, wp_797 S, wg_798 S, wp_798 S, wg_799 S, wp_799 S, wg_800 S, wp_800 S, wg_801 S, wp_801 S, wg_808 S, wp_808 S, wg_810 S, wp_810 S, mlF_o, M.2.1.1, m_wetOf S (M.ml _ _ _) O, m_keyOf S (M.ml _ _ _) O, e, b_or]
    | false =>
      rw [ct] at e
      simp (disch := omega) only [if_true, if_false, not_true_eq_false, not_false_eq_true, zoI_s, zoR_s, zoH_s, zoL_s, zbI_s, zbV_s, zbR_s, zbL_s, zif_dec, i32_0, ne_eq, i32_lt, i32_le, i32_eq, i32_add, i32_mul, i32_sub, i32_neg, zrz_0, zrz_1, zif_t, zif_f, zsF_s, zsF_k, zsF_a, zsC_s, zsC_a, zsC_i, zsW_s, zsW_a, Int.add_zero, Int.zero_add, true_and, false_and, and_false, Bool.false_eq_true, decide_true, decide_false, Bool.true_and, Bool.false_and, Bool.true_or, Bool.false_or, sub1, if_pos, if_neg, wv_72 S, wr_768 S, wr_769 S, wr_777 S, wr_785 S, wr_786 S, wr_787 S, wr_789 S, wr_790 S, wr_791 S, wr_802 S, wr_803 S, wr_804 S, wr_805 S, wr_806 S, wr_807 S, wr_809 S, wg_770 S, wp_770 S, wg_771 S, wp_771 S, wg_772 S, wp_772 S, wg_773 S, wp_773 S, wg_774 S, wp_774 S, wg_775 S, wp_775 S, wg_776 S, wp_776 S, wg_778 S, wp_778 S, wg_779 S, wp_779 S, wg_780 S, wp_780 S, wg_781 S, wp_781 S, wg_782 S, wp_782 S, wg_783 S, wp_783 S, wg_784 S, wp_784 S, wg_788 S, wp_788 S, wg_792 S, wp_792 S, wg_793 S, wp_793 S, wg_794 S, wp_794 S, wg_795 S, wp_795 S, wg_796 S, wp_796 S, wg_797 S, wp_797 S, wg_798 S, wp_798 S, wg_799 S, wp_799 S, wg_800 S, wp_800 S, wg_801 S, wp_801 S, wg_808 S, wp_808 S, wg_810 S, wp_810 S, mlF_o, M.2.1.1, m_wetOf S (M.ml _ _ _) O, m_keyOf S (M.ml _ _ _) O, e, or_0]) 0 (w, u, v) (by omega)
  rw [Int.sub_zero] at L1
  dsimp only at L1
  refine ⟨t.1, t.2.1, t.2.2, ?_⟩
  rw [e_Model_whoseOf, L1, e_Model_whoseOf_4]
  simp (disch := omega) only [if_true, if_false, not_true_eq_false, not_false_eq_true, zoI_s, zoR_s, zoH_s, zoL_s, zbI_s, zbV_s, zbR_s, zbL_s, zif_dec, i32_0, ne_eq, i32_lt, i32_le, i32_eq, i32_add, i32_mul, i32_sub, i32_neg, zrz_0, zrz_1, zif_t, zif_f, zsF_s, zsF_k, zsF_a, zsC_s, zsC_a, zsC_i, zsW_s, zsW_a, Int.add_zero, Int.zero_add, true_and, false_and, and_false, Bool.false_eq_true, decide_true, decide_false, Bool.true_and, Bool.false_and, Bool.true_or, Bool.false_or, sub1, if_pos, if_neg, wv_72 S, wr_768 S, wr_769 S, wr_777 S, wr_785 S, wr_786 S, wr_787 S, wr_789 S, wr_790 S, wr_791 S, wr_802 S, wr_803 S, wr_804 S, wr_805 S, wr_806 S, wr_807 S, wr_809 S, wg_770 S, wp_770 S, wg_771 S, wp_771 S, wg_772 S, wp_772 S, wg_773 S, wp_773 S, wg_774 S, wp_774 S, wg_775 S, wp_775 S, wg_776 S, wp_776 S, wg_778 S, wp_778 S, wg_779 S, wp_779 S, wg_780 S, wp_780 S, wg_781 S, wp_781 S, wg_782 S, wp_782 S, wg_783 S, wp_783 S, wg_784 S, wp_784 S, wg_788 S, wp_788 S, wg_792 S, wp_792 S, wg_793 S, wp_793 S, wg_794 S, wp_794 S, wg_795 S, wp_795 S, wg_796 S, wp_796 S, wg_797 S, wp_797 S, wg_798 S, wp_798 S, wg_799 S, wp_799 S, wg_800 S, wp_800 S, wg_801 S, wp_801 S, wg_808 S, wp_808 S, wg_810 S, wp_810 S, mlF_o, M.2.1.1]
  rfl
theorem m_greatestBy (S : St h) (M : moV F C D) (O : dOK D) (N : moL F C L) (P : lOK L) (T : thB D L = true) {p q : Int} (p0 : 0 ≤ p) (p1 : p < D 1) (q0 : 0 ≤ q) (q1 : q < D 2) (w u v : Int) : ∃ f w' u' v', zc 309 [zR (some 72), zI (i32 p), zI (i32 q)] (zw h (mlF F w u v) C) = some (zI (i32 (grtS (soB D L) (nuS D L p q))), zw h (mlF F w' u' v') (zsW C 88 f)) := by
  have l0 := P.1
  have n0 := N.1
  obtain ⟨f0, L0, i0⟩ := zinv (fun k f => zr 309 2 [yR (some 72), yI (i32 p), yI (i32 q), yI (i32 k), none, none] [] (zw h (mlF F w u v) (zsW C 88 f))) (fun k f => ∀ j, 0 ≤ j → j < k → f j = 0) 0 9 (by omega) (fun k f k0 k1 hi => by
    refine ⟨up1 f k 0, ?_, fun j j0 j1 => ?_⟩
    · rw [e_Model_greatestBy_2]
      simp (disch := omega) only [if_true, if_false, not_true_eq_false, not_false_eq_true, zoI_s, zoR_s, zoH_s, zoL_s, zbI_s, zbV_s, zbR_s, zbL_s, zif_dec, i32_0, ne_eq, i32_lt, i32_le, i32_eq, i32_add, i32_mul, i32_sub, i32_neg, zrz_0, zrz_1, zif_t, zif_f, zsF_s, zsF_k, zsF_a, zsC_s, zsC_a, zsC_i, zsW_s, zsW_a, Int.add_zero, Int.zero_add, true_and, false_and, and_false, Bool.false_eq_true, decide_true, decide_false, Bool.true_and, Bool.false_and, Bool.true_or, Bool.false_or, sub1, if_pos, if_neg, wv_72 S, wr_768 S, wr_769 S, wr_777 S, wr_785 S, wr_786 S, wr_787 S, wr_789 S, wr_790 S, wr_791 S, wr_802 S, wr_803 S, wr_804 S, wr_805 S, wr_806 S, wr_807 S, wr_809 S, wg_770 S, wp_770 S, wg_771 S, wp_771 S, wg_772 S, wp_772 S, wg_773 S, wp_773 S, wg_774 S, wp_774 S, wg_775 S, wp_775 S, wg_776 S, wp_776 S, wg_778 S, wp_778 S, wg_779 S, wp_779 S, wg_780 S, wp_780 S, wg_781 S, wp_781 S, wg_782 S, wp_782 S, wg_783 S, wp_783 S, wg_784 S, wp_784 S, wg_788 S, wp_788 S, wg_792 S, wp_792 S, wg_793 S, wp_793 S, wg_794 S, wp_794 S, wg_795 S, wp_795 S, wg_796 S, wp_796 S, wg_797 S, wp_797 S, wg_798 S, wp_798 S, wg_799 S, wp_799 S, wg_800 S, wp_800 S, wg_801 S, wp_801 S, wg_808 S, wp_808 S, wg_810 S, wp_810 S, wa_88 S, ws_88 S, zsC_W, zsW_W]
    · by_cases c : j = k
      · rw [c, up1_s]
      · rw [up1_n c]; exact hi j j0 (by omega)) (C 88) (fun j _ _ => by omega)
  rw [zsW_id] at L0
  obtain ⟨⟨f, w5, w', u', v'⟩, L1, J1⟩ := zfoJ (fun c (t : (Int → Int) × Int) (j : (Int → Int) × Option zVal × Int × Int × Int) => zr 309 16 [yR (some 72), yI (i32 p), yI (i32 q), yI (i32 (t.2)), yI (i32 c), j.2.1] [] (zw h (mlF F j.2.2.1 j.2.2.2.1 j.2.2.2.2) (zsW C 88 j.1))) (grB (soB D L) (nuS D L p q)) (fun c t j => (∀ v, -1 ≤ v → v ≤ 7 → j.1 (v + 1) = t.1 v ∧ 0 ≤ t.1 v ∧ t.1 v ≤ c) ∧ 0 ≤ t.2 ∧ t.2 ≤ c) 0 80 (by omega) (fun c t j c0 c1 hi => by
    obtain ⟨Hh, g⟩ := t
    obtain ⟨f, w5, w, u, v⟩ := j
    obtain ⟨h1, h2⟩ := hi
    dsimp only at h1 h2 ⊢
    have M2 : moV F (zsW C 88 f) D := M.sW f (by omega)
    have N2 : moL F (zsW C 88 f) L := N.sW f (by omega)
    obtain ⟨w', u', v', e⟩ := m_isSo S M2 O N2 P T c0 c1 w u v
    have e0 : C 73 (F 808 72) = L 0 := N.at (j := 0) (by omega) (by omega) (by omega)
    have ne := m_noteBy S M2 O (c := c) (n := L 0) c0 c1 l0.1 (by omega) p0 p1 q0 q1 w' u' v'
    rw [show noteS D (driS (c / 8) (L 0)) (c % 8) (D 3) p q = nuS D L p q c from rfl] at ne
    have vr : -1 ≤ nuS D L p q c ∧ nuS D L p q c ≤ 7 := noteS_rng
    unfold grB
    dsimp only
    cases ct : soB D L c with
    | true =>
      rw [ct] at e
      generalize nuS D L p q c = y at ne vr
      have hv := h1 y vr.1 vr.2
      rw [if_pos rfl]
      dsimp only
      refine ⟨(up1 f (y + 1) (Hh y + 1), some (zI (i32 (y + 1))), driS (c / 8) (L 0), c % 8, D 3), ?_, fun z z0 z1 => ?_, ?_⟩
      · rw [e_Model_greatestBy_16]
        by_cases cg : g < Hh y + 1
        · simp (disch := omega) only [if_true, if_false, not_true_eq_false, not_false_eq_true, zoI_s, zoR_s, zoH_s, zoL_s, zbI_s, zbV_s, zbR_s, zbL_s, zif_dec, i32_0, ne_eq, i32_lt, i32_le, i32_eq, i32_add, i32_mul, i32_sub, i32_neg, zrz_0, zrz_1, zif_t, zif_f, zsF_s, zsF_k, zsF_a, zsC_s, zsC_a, zsC_i, zsW_s, zsW_a, Int.add_zero, Int.zero_add, true_and, false_and, and_false, Bool.false_eq_true, decide_true, decide_false, Bool.true_and, Bool.false_and, Bool.true_or, Bool.false_or, sub1, if_pos, if_neg, wv_72 S, wr_768 S, wr_769 S, wr_777 S, wr_785 S, wr_786 S, wr_787 S, wr_789 S, wr_790 S, wr_791 S, wr_802 S, wr_803 S, wr_804 S, wr_805 S, wr_806 S, wr_807 S, wr_809 S, wg_770 S, wp_770 S, wg_771 S, wp_771 S, wg_772 S, wp_772 S, wg_773 S, wp_773 S, wg_774 S, wp_774 S, wg_775 S, wp_775 S, wg_776 S, wp_776 S, wg_778 S, wp_778 S, wg_779 S, wp_779 S, wg_780 S, wp_780 S, wg_781 S, wp_781 S, wg_782 S, wp_782 S, wg_783 S, wp_783 S, wg_784 S, wp_784 S, wg_788 S, wp_788 S, wg_792 S, wp_792 S, wg_793 S, wp_793 S, wg_794 S, wp_794 S, wg_795 S, wp_795 S, wg_796 S, wp_796 S, wg_797 S, wp_797 S, wg_798 S, wp_798 S, wg_799 S, wp_799 S, wg_800 S, wp_800 S, wg_801 S, wp_801 S, wg_808 S, wp_808 S, wg_810 S, wp_810 S, wa_73 S, ws_73 S, wa_88 S, ws_88 S, mlF_o, e, e0, ne, hv.1, zsC_W, zsW_W, up1_s]
          all_goals rfl
        · simp (disch := omega) only [if_true, if_false, not_true_eq_false, not_false_eq_true, zoI_s, zoR_s, zoH_s, zoL_s, zbI_s, zbV_s, zbR_s, zbL_s, zif_dec, i32_0, ne_eq, i32_lt, i32_le, i32_eq, i32_add, i32_mul, i32_sub, i32_neg, zrz_0, zrz_1, zif_t, zif_f, zsF_s, zsF_k, zsF_a, zsC_s, zsC_a, zsC_i, zsW_s, zsW_a, Int.add_zero, Int.zero_add, true_and, false_and, and_false, Bool.false_eq_true, decide_true, decide_false, Bool.true_and, Bool.false_and, Bool.true_or, Bool.false_or, sub1, if_pos, if_neg, wv_72 S, wr_768 S, wr_769 S, wr_777 S, wr_785 S, wr_786 S, wr_787 S, wr_789 S, wr_790 S, wr_791 S, wr_802 S, wr_803 S, wr_804 S, wr_805 S, wr_806 S, wr_807 S, wr_809 S, wg_770 S, wp_770 S, wg_771 S, wp_771 S, wg_772 S, wp_772 S, wg_773 S, wp_773 S, wg_774 S, wp_774 S, wg_775 S, wp_775 S, wg_776 S, wp_776 S, wg_778 S, wp_778 S, wg_779 S, wp_779 S, wg_780 S, wp_780 S, wg_781 S, wp_781 S, wg_782 S, wp_782 S, wg_783 S, wp_783 S, wg_784 S, wp_784 S, wg_788 S, wp_788 S, wg_792 S, wp_792 S, wg_793 S, wp_793 S, wg_794 S, wp_794 S, wg_795 S, wp_795 S, wg_796 S, wp_796 S, wg_797 S, wp_797 S, wg_798 S, wp_798 S, wg_799 S, wp_799 S, wg_800 S, wp_800 S, wg_801 S, wp_801 S, wg_808 S, wp_808 S, wg_810 S, wp_810 S, wa_73 S, ws_73 S, wa_88 S, ws_88 S, mlF_o, e, e0, ne, hv.1, zsC_W, zsW_W, up1_s]
          all_goals rfl
      · dsimp only
        by_cases cz : z = y
        · rw [cz, up1_s, up1_s]; omega
        · have hz := h1 z z0 z1
          rw [up1_n cz, up1_n (by omega)]; omega
      · split <;> omega
    | false =>
      rw [ct] at e
      rw [if_neg (by simp)]
      dsimp only
      refine ⟨(f, w5, w', u', v'), ?_, fun z z0 z1 => ?_, by omega⟩
      · rw [e_Model_greatestBy_16]
        simp (disch := omega) only [if_true, if_false, not_true_eq_false, not_false_eq_true, zoI_s, zoR_s, zoH_s, zoL_s, zbI_s, zbV_s, zbR_s, zbL_s, zif_dec, i32_0, ne_eq, i32_lt, i32_le, i32_eq, i32_add, i32_mul, i32_sub, i32_neg, zrz_0, zrz_1, zif_t, zif_f, zsF_s, zsF_k, zsF_a, zsC_s, zsC_a, zsC_i, zsW_s, zsW_a, Int.add_zero, Int.zero_add, true_and, false_and, and_false, Bool.false_eq_true, decide_true, decide_false, Bool.true_and, Bool.false_and, Bool.true_or, Bool.false_or, sub1, if_pos, if_neg, wv_72 S, wr_768 S, wr_769 S, wr_777 S, wr_785 S, wr_786 S, wr_787 S, wr_789 S, wr_790 S, wr_791 S, wr_802 S, wr_803 S, wr_804 S, wr_805 S, wr_806 S, wr_807 S, wr_809 S, wg_770 S, wp_770 S, wg_771 S, wp_771 S, wg_772 S, wp_772 S, wg_773 S, wp_773 S, wg_774 S, wp_774 S, wg_775 S, wp_775 S, wg_776 S, wp_776 S, wg_778 S, wp_778 S, wg_779 S, wp_779 S, wg_780 S, wp_780 S, wg_781 S, wp_781 S, wg_782 S, wp_782 S, wg_783 S, wp_783 S, wg_784 S, wp_784 S, wg_788 S, wp_788 S, wg_792 S, wp_792 S, wg_793 S, wp_793 S, wg_794 S, wp_794 S, wg_795 S, wp_795 S, wg_796 S, wp_796 S, wg_797 S, wp_797 S, wg_798 S, wp_798 S, wg_799 S, wp_799 S, wg_800 S, wp_800 S, wg_801 S, wp_801 S, wg_808 S, wp_808 S, wg_810 S, wp_810 S, e]
      · have hz := h1 z z0 z1
        dsimp only
        omega) (fun _ => 0, 0) (f0, none, w, u, v) ⟨fun y y0 y1 => by
      dsimp only
      rw [i0 (y + 1) (by omega) (by omega)]
      omega, by dsimp only; omega⟩
  dsimp only at L1
  refine ⟨f, w', u', v', ?_⟩
  rw [e_Model_greatestBy, L0, e_Model_greatestBy_2]
  simp (disch := omega) only [if_true, if_false, not_true_eq_false, not_false_eq_true, zoI_s, zoR_s, zoH_s, zoL_s, zbI_s, zbV_s, zbR_s, zbL_s, zif_dec, i32_0, ne_eq, i32_lt, i32_le, i32_eq, i32_add, i32_mul, i32_sub, i32_neg, zrz_0, zrz_1, zif_t, zif_f, zsF_s, zsF_k, zsF_a, zsC_s, zsC_a, zsC_i, zsW_s, zsW_a, Int.add_zero, Int.zero_add, true_and, false_and, and_false, Bool.false_eq_true, decide_true, decide_false, Bool.true_and, Bool.false_and, Bool.true_or, Bool.false_or, sub1, if_pos, if_neg, L1]
  rw [e_Model_greatestBy_16]
  simp (disch := omega) only [if_true, if_false, not_true_eq_false, not_false_eq_true, zoI_s, zoR_s, zoH_s, zoL_s, zbI_s, zbV_s, zbR_s, zbL_s, zif_dec, i32_0, ne_eq, i32_lt, i32_le, i32_eq, i32_add, i32_mul, i32_sub, i32_neg, zrz_0, zrz_1, zif_t, zif_f, zsF_s, zsF_k, zsF_a, zsC_s, zsC_a, zsC_i, zsW_s, zsW_a, Int.add_zero, Int.zero_add, true_and, false_and, and_false, Bool.false_eq_true, decide_true, decide_false, Bool.true_and, Bool.false_and, Bool.true_or, Bool.false_or, sub1, if_pos, if_neg]
  rfl
theorem m_nextOf (S : St h) (M : moV F C D) (O : dOK D) (N : moL F C L) (P : lOK L) (T : thB D L = true) (w u v : Int) : ∃ f w' u' v', zc 310 [zR (some 72)] (zw h (mlF F w u v) C) = some (zI (i32 (nxtS D L)), zw h (mlF F w' u' v') (zsW C 88 f)) := by
  have b1 := O.2.1
  have b2 := O.2.2.1
  have cr := cnS_rng (soB D L) (k := 80) (by omega)
  have L2 := fun p t0 j0 (p0 : 0 ≤ p) (p1 : p < D 1) => zfoJ (fun q (t : Int × Int) (j : (Int → Int) × Option zVal × Int × Int × Int) => zr 310 12 [yR (some 72), yI (i32 (t.1)), yI (i32 (t.2)), yI (i32 p), yI (i32 q), j.2.1] [] (zw h (mlF F j.2.2.1 j.2.2.2.1 j.2.2.2.2) (zsW C 88 j.1))) (nxqF D L p) (fun q t _ => -1 ≤ t.1 ∧ t.1 ≤ 100 ∧ 0 ≤ t.2 ∧ t.2 ≤ 99) 0 (D 2) (by omega) (fun q t j q0 q1 hi => by
    obtain ⟨b1, l1⟩ := t
    obtain ⟨f, w5, w, u, v⟩ := j
    dsimp only at hi ⊢
    have M2 : moV F (zsW C 88 f) D := M.sW f (by omega)
    have N2 : moL F (zsW C 88 f) L := N.sW f (by omega)
    obtain ⟨f', w', u', v', e⟩ := m_greatestBy S M2 O N2 P T p0 p1 q0 q1 w u v
    rw [zsW_W] at e
    have gr := grt_rng (soB D L) (nuS D L p q)
    rw [e_Model_nextOf_12]
    unfold nxqF
    dsimp only
    by_cases cg : grtS (soB D L) (nuS D L p q) < l1
    · rw [if_pos cg]
      dsimp only
      refine ⟨(f', some (zI (i32 (grtS (soB D L) (nuS D L p q)))), w', u', v'), ?_, by omega⟩
      simp (disch := omega) only [if_true, if_false, not_true_eq_false, not_false_eq_true, zoI_s, zoR_s, zoH_s, zoL_s, zbI_s, zbV_s, zbR_s, zbL_s, zif_dec, i32_0, ne_eq, i32_lt, i32_le, i32_eq, i32_add, i32_mul, i32_sub, i32_neg, zrz_0, zrz_1, zif_t, zif_f, zsF_s, zsF_k, zsF_a, zsC_s, zsC_a, zsC_i, zsW_s, zsW_a, Int.add_zero, Int.zero_add, true_and, false_and, and_false, Bool.false_eq_true, decide_true, decide_false, Bool.true_and, Bool.false_and, Bool.true_or, Bool.false_or, sub1, if_pos, if_neg, wv_72 S, wr_768 S, wr_769 S, wr_777 S, wr_785 S, wr_786 S, wr_787 S, wr_789 S, wr_790 S, wr_791 S, wr_802 S, wr_803 S, wr_804 S, wr_805 S, wr_806 S, wr_807 S, wr_809 S, wg_770 S, wp_770 S, wg_771 S, wp_771 S, wg_772 S, wp_772 S, wg_773 S, wp_773 S, wg_774 S, wp_774 S, wg_775 S, wp_775 S, wg_776 S, wp_776 S, wg_778 S, wp_778 S, wg_779 S, wp_779 S, wg_780 S, wp_780 S, wg_781 S, wp_781 S, wg_782 S, wp_782 S, wg_783 S, wp_783 S, wg_784 S, wp_784 S, wg_788 S, wp_788 S, wg_792 S, wp_792 S, wg_793 S, wp_793 S, wg_794 S, wp_794 S, wg_795 S, wp_795 S, wg_796 S, wp_796 S, wg_797 S, wp_797 S, wg_798 S, wp_798 S, wg_799 S, wp_799 S, wg_800 S, wp_800 S, wg_801 S, wp_801 S, wg_808 S, wp_808 S, wg_810 S, wp_810 S, mlF_o, M.2.1.2.2, e]
      all_goals rfl
    · rw [if_neg cg]
      dsimp only
      refine ⟨(f', some (zI (i32 (grtS (soB D L) (nuS D L p q)))), w', u', v'), ?_, hi⟩
      simp (disch := omega) only [if_true, if_false, not_true_eq_false, not_false_eq_true, zoI_s, zoR_s, zoH_s, zoL_s, zbI_s, zbV_s, zbR_s, zbL_s, zif_dec, i32_0, ne_eq, i32_lt, i32_le, i32_eq, i32_add, i32_mul, i32_sub, i32_neg, zrz_0, zrz_1, zif_t, zif_f, zsF_s, zsF_k, zsF_a, zsC_s, zsC_a, zsC_i, zsW_s, zsW_a, Int.add_zero, Int.zero_add, true_and, false_and, and_false, Bool.false_eq_true, decide_true, decide_false, Bool.true_and, Bool.false_and, Bool.true_or, Bool.false_or, sub1, if_pos, if_neg, wv_72 S, wr_768 S, wr_769 S, wr_777 S, wr_785 S, wr_786 S, wr_787 S, wr_789 S, wr_790 S, wr_791 S, wr_802 S, wr_803 S, wr_804 S, wr_805 S, wr_806 S, wr_807 S, wr_809 S, wg_770 S, wp_770 S, wg_771 S, wp_771 S, wg_772 S, wp_772 S, wg_773 S, wp_773 S, wg_774 S, wp_774 S, wg_775 S, wp_775 S, wg_776 S, wp_776 S, wg_778 S, wp_778 S, wg_779 S, wp_779 S, wg_780 S, wp_780 S, wg_781 S, wp_781 S, wg_782 S, wp_782 S, wg_783 S, wp_783 S, wg_784 S, wp_784 S, wg_788 S, wp_788 S, wg_792 S, wp_792 S, wg_793 S, wp_793 S, wg_794 S, wp_794 S, wg_795 S, wp_795 S, wg_796 S, wp_796 S, wg_797 S, wp_797 S, wg_798 S, wp_798 S, wg_799 S, wp_799 S, wg_800 S, wp_800 S, wg_801 S, wp_801 S, wg_808 S, wp_808 S, wg_810 S, wp_810 S, mlF_o, M.2.1.2.2, e]
      all_goals rfl) t0 j0
  obtain ⟨⟨f, w5, w', u', v'⟩, L1, J1⟩ := zfoJ (fun p (t : Int × Int) (j : (Int → Int) × Option zVal × Int × Int × Int) => zr 310 6 [yR (some 72), yI (i32 (t.1)), yI (i32 (t.2)), yI (i32 p), none, j.2.1] [] (zw h (mlF F j.2.2.1 j.2.2.2.1 j.2.2.2.2) (zsW C 88 j.1))) (nxpF D L) (fun p t _ => -1 ≤ t.1 ∧ t.1 ≤ 100 ∧ 0 ≤ t.2 ∧ t.2 ≤ 99) 0 (D 1) (by omega) (fun p t j p0 p1 hi => by
    obtain ⟨j', e, i'⟩ := L2 p t j p0 p1 hi
    rw [Int.sub_zero] at e i'
    refine ⟨j', ?_, i'⟩
    rw [e_Model_nextOf_6]
    simp (disch := omega) only [if_true, if_false, not_true_eq_false, not_false_eq_true, zoI_s, zoR_s, zoH_s, zoL_s, zbI_s, zbV_s, zbR_s, zbL_s, zif_dec, i32_0, ne_eq, i32_lt, i32_le, i32_eq, i32_add, i32_mul, i32_sub, i32_neg, zrz_0, zrz_1, zif_t, zif_f, zsF_s, zsF_k, zsF_a, zsC_s, zsC_a, zsC_i, zsW_s, zsW_a, Int.add_zero, Int.zero_add, true_and, false_and, and_false, Bool.false_eq_true, decide_true, decide_false, Bool.true_and, Bool.false_and, Bool.true_or, Bool.false_or, sub1, if_pos, if_neg, wv_72 S, wr_768 S, wr_769 S, wr_777 S, wr_785 S, wr_786 S, wr_787 S, wr_789 S, wr_790 S, wr_791 S, wr_802 S, wr_803 S, wr_804 S, wr_805 S, wr_806 S, wr_807 S, wr_809 S, wg_770 S, wp_770 S, wg_771 S, wp_771 S, wg_772 S, wp_772 S, wg_773 S, wp_773 S, wg_774 S, wp_774 S, wg_775 S, wp_775 S, wg_776 S, wp_776 S, wg_778 S, wp_778 S, wg_779 S, wp_779 S, wg_780 S, wp_780 S, wg_781 S, wp_781 S, wg_782 S, wp_782 S, wg_783 S, wp_783 S, wg_784 S, wp_784 S, wg_788 S, wp_788 S, wg_792 S, wp_792 S, wg_793 S, wp_793 S, wg_794 S, wp_794 S, wg_795 S, wp_795 S, wg_796 S, wp_796 S, wg_797 S, wp_797 S, wg_798 S, wp_798 S, wg_799 S, wp_799 S, wg_800 S, wp_800 S, wg_801 S, wp_801 S, wg_808 S, wp_808 S, wg_810 S, wp_810 S, mlF_o, M.2.1.2.1, e]
    rw [e_Model_nextOf_12]
    simp (disch := omega) only [if_true, if_false, not_true_eq_false, not_false_eq_true, zoI_s, zoR_s, zoH_s, zoL_s, zbI_s, zbV_s, zbR_s, zbL_s, zif_dec, i32_0, ne_eq, i32_lt, i32_le, i32_eq, i32_add, i32_mul, i32_sub, i32_neg, zrz_0, zrz_1, zif_t, zif_f, zsF_s, zsF_k, zsF_a, zsC_s, zsC_a, zsC_i, zsW_s, zsW_a, Int.add_zero, Int.zero_add, true_and, false_and, and_false, Bool.false_eq_true, decide_true, decide_false, Bool.true_and, Bool.false_and, Bool.true_or, Bool.false_or, sub1, if_pos, if_neg, wv_72 S, wr_768 S, wr_769 S, wr_777 S, wr_785 S, wr_786 S, wr_787 S, wr_789 S, wr_790 S, wr_791 S, wr_802 S, wr_803 S, wr_804 S, wr_805 S, wr_806 S, wr_807 S, wr_809 S, wg_770 S, wp_770 S, wg_771 S, wp_771 S, wg_772 S, wp_772 S, wg_773 S, wp_773 S, wg_774 S, wp_774 S, wg_775 S, wp_775 S, wg_776 S, wp_776 S, wg_778 S, wp_778 S, wg_779 S, wp_779 S, wg_780 S, wp_780 S, wg_781 S, wp_781 S, wg_782 S, wp_782 S, wg_783 S, wp_783 S, wg_784 S, wp_784 S, wg_788 S, wp_788 S, wg_792 S, wp_792 S, wg_793 S, wp_793 S, wg_794 S, wp_794 S, wg_795 S, wp_795 S, wg_796 S, wp_796 S, wg_797 S, wp_797 S, wg_798 S, wp_798 S, wg_799 S, wp_799 S, wg_800 S, wp_800 S, wg_801 S, wp_801 S, wg_808 S, wp_808 S, wg_810 S, wp_810 S, mlF_o, M.2.1.2.2, d_Model_nextOf_6_w4]
    rfl) (-1, 99) (C 88, none, w, u, v) (by dsimp only; omega)
  rw [Int.sub_zero] at L1
  dsimp only at L1
  rw [zsW_id] at L1
  refine ⟨f, w', u', v', ?_⟩
  rw [e_Model_nextOf, L1, e_Model_nextOf_6]
  simp (disch := omega) only [if_true, if_false, not_true_eq_false, not_false_eq_true, zoI_s, zoR_s, zoH_s, zoL_s, zbI_s, zbV_s, zbR_s, zbL_s, zif_dec, i32_0, ne_eq, i32_lt, i32_le, i32_eq, i32_add, i32_mul, i32_sub, i32_neg, zrz_0, zrz_1, zif_t, zif_f, zsF_s, zsF_k, zsF_a, zsC_s, zsC_a, zsC_i, zsW_s, zsW_a, Int.add_zero, Int.zero_add, true_and, false_and, and_false, Bool.false_eq_true, decide_true, decide_false, Bool.true_and, Bool.false_and, Bool.true_or, Bool.false_or, sub1, if_pos, if_neg, wv_72 S, wr_768 S, wr_769 S, wr_777 S, wr_785 S, wr_786 S, wr_787 S, wr_789 S, wr_790 S, wr_791 S, wr_802 S, wr_803 S, wr_804 S, wr_805 S, wr_806 S, wr_807 S, wr_809 S, wg_770 S, wp_770 S, wg_771 S, wp_771 S, wg_772 S, wp_772 S, wg_773 S, wp_773 S, wg_774 S, wp_774 S, wg_775 S, wp_775 S, wg_776 S, wp_776 S, wg_778 S, wp_778 S, wg_779 S, wp_779 S, wg_780 S, wp_780 S, wg_781 S, wp_781 S, wg_782 S, wp_782 S, wg_783 S, wp_783 S, wg_784 S, wp_784 S, wg_788 S, wp_788 S, wg_792 S, wp_792 S, wg_793 S, wp_793 S, wg_794 S, wp_794 S, wg_795 S, wp_795 S, wg_796 S, wp_796 S, wg_797 S, wp_797 S, wg_798 S, wp_798 S, wg_799 S, wp_799 S, wg_800 S, wp_800 S, wg_801 S, wp_801 S, wg_808 S, wp_808 S, wg_810 S, wp_810 S, mlF_o, M.2.1.2.1]
  rfl
theorem nth_0 {T : Int → Bool} {c : Int} (c0 : 0 ≤ c) (c1 : c < 80) (hc : T c = true) (h0 : cnS T c = 0) : nthS T 0 = c := nth_eq c0 c1 hc h0
theorem surV_s {T : Int → Bool} {g : Int → Int} (hg : ∀ c, 0 ≤ c → 0 ≤ g c) {c : Int} (c0 : 0 ≤ c) (c1 : c < 80) : surV T g (c + 1) = if T c = true then (if cnS T c = 0 ∨ surV T g c = g c then g c else -2) else surV T g c := by
  have cr := cnS_rng T c0
  by_cases ct : T c = true
  · rw [if_pos ct]
    unfold surV
    rw [cnS_succ T c0, if_pos ct, if_neg (by omega), alB_succ _ c0, ct, Bool.not_true, Bool.false_or]
    by_cases z : cnS T c = 0
    · rw [if_pos z, if_pos (Or.inl z), nth_0 c0 c1 ct z]
      rw [if_pos]
      rw [decide_eq_true rfl, Bool.and_true, alB_iff]
      intro i i0 i1
      cases ti : T i with
      | false => rfl
      | true => have := cnS_lt i0 i1 ti; have := cnS_rng T i0; omega
    · rw [if_neg z]
      have g0 := hg c c0
      have n0 : 0 ≤ nthS T 0 := by
        rcases fstF_spec (fun c => T c && decide (cnS T c = 0)) 80 0 (by omega) with ⟨_, k2⟩ | ⟨k1, _⟩
        · exfalso
          have key : ∀ j : Nat, (j : Int) ≤ 80 → cnS T j = 0 := by
            intro j
            induction j with
            | zero => intro _; exact cnS_0 T
            | succ j ih =>
              intro hj
              have e := ih (by omega)
              rw [show ((j + 1 : Nat) : Int) = (j : Int) + 1 from rfl, cnS_succ T (by omega), e]
              have := k2 j (by omega) (by omega)
              rw [e, decide_eq_true rfl, Bool.and_true] at this
              rw [this]; rfl
          have := key c.toNat (by omega)
          rw [show ((c.toNat : Nat) : Int) = c by omega] at this
          exact z this
        · exact k1
      have gn := hg (nthS T 0) n0
      cases al : alB (fun c => !T c || decide (g c = g (nthS T 0))) c with
      | true =>
        rw [if_pos rfl, Bool.true_and]
        by_cases e : g c = g (nthS T 0)
        · rw [decide_eq_true e, if_pos rfl, if_pos (Or.inr e.symm)]; exact e.symm
        · rw [decide_eq_false e, if_neg (by simp), if_neg (fun y => y.elim z (fun y => e y.symm))]
      | false =>
        simp only [Bool.false_eq_true, if_false, Bool.false_and]
        rw [if_neg (fun y => y.elim z (fun y => by omega))]
  · rw [if_neg ct]
    have ct' : T c = false := by simpa using ct
    unfold surV
    rw [cnS_succ T c0, if_neg ct, Int.add_zero, alB_succ _ c0, ct', Bool.not_false, Bool.true_or, Bool.and_true]
theorem surV_rng {T : Int → Bool} {g : Int → Int} (hh : ∀ c, 0 ≤ c → 0 ≤ g c) (hg : ∀ c, 0 ≤ c → c ≤ 80 → g c ≤ 100) {c : Int} (c0 : 0 ≤ c) (c1 : c ≤ 80) : -2 ≤ surV T g c ∧ surV T g c ≤ 100 := by
  have key : ∀ j : Nat, (j : Int) ≤ 80 → -2 ≤ surV T g j ∧ surV T g j ≤ 100 := by
    intro j
    induction j with
    | zero => intro _; unfold surV; rw [show ((0 : Nat) : Int) = 0 from rfl, cnS_0, if_pos rfl]; omega
    | succ j ih =>
      intro hj
      have e := ih (by omega)
      have gj := hg j (by omega) (by omega)
      have gh := hh j (by omega)
      rw [show ((j + 1 : Nat) : Int) = (j : Int) + 1 from rfl, surV_s hh (by omega) (by omega)]
      split
      · split <;> omega
      · exact e
  have := key c.toNat (by omega)
  rwa [show ((c.toNat : Nat) : Int) = c by omega] at this
theorem m_fits46 {h : zHeap} {d l x n a b c : Int} (n0 : 0 ≤ n) (n1 : n ≤ 100) (a0 : -2 ≤ a) (a1 : a ≤ 100) (b0 : -2 ≤ b) (b1 : b ≤ 100) (c0 : 0 ≤ c) (c1 : c < 80) : zr 312 46 [yR (some 72), yI (i32 d), yI (i32 l), yI (i32 x), yI (i32 n), yI (i32 a), yI (i32 b), yI (i32 c)] [] h = zr 312 28 [yR (some 72), yI (i32 d), yI (i32 l), yI (i32 x), yI (i32 (n + 1)), yI (i32 ((if n = 0 ∨ a = c / 8 then c / 8 else -2))), yI (i32 ((if n = 0 ∨ b = c % 8 then c % 8 else -2))), yI (i32 (c + 1))] [] h := by
  rw [e_Model_fits_46]
  by_cases z : n = 0
  · simp (disch := omega) only [if_true, if_false, not_true_eq_false, not_false_eq_true, zoI_s, zoR_s, zoH_s, zoL_s, zbI_s, zbV_s, zbR_s, zbL_s, zif_dec, i32_0, ne_eq, i32_lt, i32_le, i32_eq, i32_add, i32_mul, i32_sub, i32_neg, zrz_0, zrz_1, zif_t, zif_f, zsF_s, zsF_k, zsF_a, zsC_s, zsC_a, zsC_i, zsW_s, zsW_a, Int.add_zero, Int.zero_add, true_and, false_and, and_false, Bool.false_eq_true, decide_true, decide_false, Bool.true_and, Bool.false_and, Bool.true_or, Bool.false_or, sub1, if_pos, if_neg, i32_div, i32_rem]
  · by_cases ca : a = c / 8
    · by_cases cb : b = c % 8
      · simp (disch := omega) only [if_true, if_false, not_true_eq_false, not_false_eq_true, zoI_s, zoR_s, zoH_s, zoL_s, zbI_s, zbV_s, zbR_s, zbL_s, zif_dec, i32_0, ne_eq, i32_lt, i32_le, i32_eq, i32_add, i32_mul, i32_sub, i32_neg, zrz_0, zrz_1, zif_t, zif_f, zsF_s, zsF_k, zsF_a, zsC_s, zsC_a, zsC_i, zsW_s, zsW_a, Int.add_zero, Int.zero_add, true_and, false_and, and_false, Bool.false_eq_true, decide_true, decide_false, Bool.true_and, Bool.false_and, Bool.true_or, Bool.false_or, sub1, if_pos, if_neg, i32_div, i32_rem]
      · simp (disch := omega) only [if_true, if_false, not_true_eq_false, not_false_eq_true, zoI_s, zoR_s, zoH_s, zoL_s, zbI_s, zbV_s, zbR_s, zbL_s, zif_dec, i32_0, ne_eq, i32_lt, i32_le, i32_eq, i32_add, i32_mul, i32_sub, i32_neg, zrz_0, zrz_1, zif_t, zif_f, zsF_s, zsF_k, zsF_a, zsC_s, zsC_a, zsC_i, zsW_s, zsW_a, Int.add_zero, Int.zero_add, true_and, false_and, and_false, Bool.false_eq_true, decide_true, decide_false, Bool.true_and, Bool.false_and, Bool.true_or, Bool.false_or, sub1, if_pos, if_neg, i32_div, i32_rem]
    · by_cases cb : b = c % 8
      · simp (disch := omega) only [if_true, if_false, not_true_eq_false, not_false_eq_true, zoI_s, zoR_s, zoH_s, zoL_s, zbI_s, zbV_s, zbR_s, zbL_s, zif_dec, i32_0, ne_eq, i32_lt, i32_le, i32_eq, i32_add, i32_mul, i32_sub, i32_neg, zrz_0, zrz_1, zif_t, zif_f, zsF_s, zsF_k, zsF_a, zsC_s, zsC_a, zsC_i, zsW_s, zsW_a, Int.add_zero, Int.zero_add, true_and, false_and, and_false, Bool.false_eq_true, decide_true, decide_false, Bool.true_and, Bool.false_and, Bool.true_or, Bool.false_or, sub1, if_pos, if_neg, i32_div, i32_rem]
      · simp (disch := omega) only [if_true, if_false, not_true_eq_false, not_false_eq_true, zoI_s, zoR_s, zoH_s, zoL_s, zbI_s, zbV_s, zbR_s, zbL_s, zif_dec, i32_0, ne_eq, i32_lt, i32_le, i32_eq, i32_add, i32_mul, i32_sub, i32_neg, zrz_0, zrz_1, zif_t, zif_f, zsF_s, zsF_k, zsF_a, zsC_s, zsC_a, zsC_i, zsW_s, zsW_a, Int.add_zero, Int.zero_add, true_and, false_and, and_false, Bool.false_eq_true, decide_true, decide_false, Bool.true_and, Bool.false_and, Bool.true_or, Bool.false_or, sub1, if_pos, if_neg, i32_div, i32_rem]
theorem m_fitsL (S : St h) (M : moV F C D) (O : dOK D) (N : moL F C L) (P : lOK L) (T : thB D L = true) {d l x : Int} (x0 : 0 ≤ x) (x2 : x < 2147483648) (x1 : ¬ (5 ≤ x ∧ x ≤ 9)) (w u v : Int) : ∃ f w' u' v', zr 312 28 [yR (some 72), yI (i32 d), yI (i32 l), yI (i32 x), yI (i32 0), yI (i32 (-1)), yI (i32 (-1)), yI (i32 0)] [] (zw h (mlF F w u v) C) = some (zI (i32 (fitS D L x)), zw h (mlF F w' u' v') (zsW C 88 f)) := by
  have hg8 : ∀ c : Int, 0 ≤ c → 0 ≤ c / 8 := fun c _ => by omega
  have hm8 : ∀ c : Int, 0 ≤ c → 0 ≤ c % 8 := fun c _ => by omega
  have cr := cnS_rng (soB D L) (k := 80) (by omega)
  -- the loop over the codes; it may end in the middle
  have key : ∀ (j : Nat) (c : Int) (t : Int × Int × Int), 0 ≤ c → c + j = 80 → ∃ t' : Int × Int × Int, zr 312 28 [yR (some 72), yI (i32 d), yI (i32 l), yI (i32 x), yI (i32 (cnS (soB D L) c)), yI (i32 (surV (soB D L) (fun c => c / 8) c)), yI (i32 (surV (soB D L) (fun c => c % 8) c)), yI (i32 c)] [] (zw h (mlF F t.1 t.2.1 t.2.2) C) = (if 10 ≤ x ∧ c ≤ nthS (soB D L) (x - 10) then some (zI (i32 (nthS (soB D L) (x - 10))), zw h (mlF F t'.1 t'.2.1 t'.2.2) C) else zr 312 28 [yR (some 72), yI (i32 d), yI (i32 l), yI (i32 x), yI (i32 (cnS (soB D L) 80)), yI (i32 (surV (soB D L) (fun c => c / 8) 80)), yI (i32 (surV (soB D L) (fun c => c % 8) 80)), yI (i32 80)] [] (zw h (mlF F t'.1 t'.2.1 t'.2.2) C)) := by
    intro j
    induction j with
    | zero =>
      intro c t c0 hc
      obtain rfl : c = 80 := by omega
      refine ⟨t, ?_⟩
      have : ¬ (10 ≤ x ∧ 80 ≤ nthS (soB D L) (x - 10)) := fun z => by
        rcases fstF_spec (fun c => soB D L c && decide (cnS (soB D L) c = x - 10)) 80 0 (by omega) with ⟨k1, _⟩ | ⟨_, k2, _⟩
        · have : nthS (soB D L) (x - 10) = -1 := k1
          omega
        · have : nthS (soB D L) (x - 10) < 0 + ((80 : Nat) : Int) := k2
          omega
      rw [if_neg this]
    | succ j ih =>
      intro c t c0 hc
      obtain ⟨w1, u1, v1, e⟩ := m_isSo S M O N P T (c := c) c0 (by omega) t.1 t.2.1 t.2.2
      have s1 := surV_s (T := soB D L) (g := fun c => c / 8) hg8 c0 (by omega)
      have s2 := surV_s (T := soB D L) (g := fun c => c % 8) hm8 c0 (by omega)
      have r1 := surV_rng (T := soB D L) (g := fun c => c / 8) (c := c) hg8 (fun c _ _ => by omega) c0 (by omega)
      have r2 := surV_rng (T := soB D L) (g := fun c => c % 8) (c := c) hm8 (fun c _ _ => by omega) c0 (by omega)
      have cc := cnS_rng (soB D L) c0
      have cs := cnS_succ (soB D L) c0
      have nc : ∀ y, (soB D L c = false ∨ cnS (soB D L) c ≠ y) → nthS (soB D L) y ≠ c := by
        intro y hy z
        rcases fstF_spec (fun c => soB D L c && decide (cnS (soB D L) c = y)) 80 0 (by omega) with ⟨k1, _⟩ | ⟨_, _, k3, _⟩
        · have : nthS (soB D L) y = -1 := k1
          omega
        · have k3' : (soB D L (nthS (soB D L) y) && decide (cnS (soB D L) (nthS (soB D L) y) = y)) = true := k3
          rw [z, Bool.and_eq_true] at k3'
          rcases hy with hy | hy
          · rw [hy] at k3'; cases k3'.1
          · exact hy (of_decide_eq_true k3'.2)
      cases ct : soB D L c with
      | false =>
        obtain ⟨t', ih⟩ := ih (c + 1) (w1, u1, v1) (by omega) (by omega)
        have ne := nc (x - 10) (Or.inl ct)
        rw [ct] at e cs s1 s2
        rw [if_neg (by simp)] at cs s1 s2
        rw [cs, s1, s2, Int.add_zero] at ih
        refine ⟨t', ?_⟩
        have ee : (10 ≤ x ∧ c ≤ nthS (soB D L) (x - 10)) ↔ (10 ≤ x ∧ c + 1 ≤ nthS (soB D L) (x - 10)) := by omega
        rw [e_Model_fits_28]
        simp (disch := omega) only [if_true, if_false, not_true_eq_false, not_false_eq_true, zoI_s, zoR_s, zoH_s, zoL_s, zbI_s, zbV_s, zbR_s, zbL_s, zif_dec, i32_0, ne_eq, i32_lt, i32_le, i32_eq, i32_add, i32_mul, i32_sub, i32_neg, zrz_0, zrz_1, zif_t, zif_f, zsF_s, zsF_k, zsF_a, zsC_s, zsC_a, zsC_i, zsW_s, zsW_a, Int.add_zero, Int.zero_add, true_and, false_and, and_false, Bool.false_eq_true, decide_true, decide_false, Bool.true_and, Bool.false_and, Bool.true_or, Bool.false_or, sub1, if_pos, if_neg, wv_72 S, wr_768 S, wr_769 S, wr_777 S, wr_785 S, wr_786 S, wr_787 S, wr_789 S, wr_790 S, wr_791 S, wr_802 S, wr_803 S, wr_804 S, wr_805 S, wr_806 S, wr_807 S, wr_809 S, wg_770 S, wp_770 S, wg_771 S, wp_771 S, wg_772 S, wp_772 S, wg_773 S, wp_773 S, wg_774 S, wp_774 S, wg_775 S, wp_775 S, wg_776 S, wp_776 S, wg_778 S, wp_778 S, wg_779 S, wp_779 S, wg_780 S, wp_780 S, wg_781 S, wp_781 S, wg_782 S, wp_782 S, wg_783 S, wp_783 S, wg_784 S, wp_784 S, wg_788 S, wp_788 S, wg_792 S, wp_792 S, wg_793 S, wp_793 S, wg_794 S, wp_794 S, wg_795 S, wp_795 S, wg_796 S, wp_796 S, wg_797 S, wp_797 S, wg_798 S, wp_798 S, wg_799 S, wp_799 S, wg_800 S, wp_800 S, wg_801 S, wp_801 S, wg_808 S, wp_808 S, wg_810 S, wp_810 S, e]
        rw [ih]
        by_cases cx : 10 ≤ x ∧ c ≤ nthS (soB D L) (x - 10)
        · rw [if_pos cx, if_pos (ee.mp cx)]
        · rw [if_neg cx, if_neg (fun z => cx (ee.mpr z))]
      | true =>
        rw [ct] at e cs s1 s2
        rw [if_pos rfl] at cs s1 s2
        by_cases cx : 10 ≤ x ∧ cnS (soB D L) c = x - 10
        · have en := nth_eq c0 (by omega) ct cx.2
          refine ⟨(w1, u1, v1), ?_⟩
          rw [if_pos ⟨cx.1, by omega⟩, en, e_Model_fits_28]
          simp (disch := omega) only [if_true, if_false, not_true_eq_false, not_false_eq_true, zoI_s, zoR_s, zoH_s, zoL_s, zbI_s, zbV_s, zbR_s, zbL_s, zif_dec, i32_0, ne_eq, i32_lt, i32_le, i32_eq, i32_add, i32_mul, i32_sub, i32_neg, zrz_0, zrz_1, zif_t, zif_f, zsF_s, zsF_k, zsF_a, zsC_s, zsC_a, zsC_i, zsW_s, zsW_a, Int.add_zero, Int.zero_add, true_and, false_and, and_false, Bool.false_eq_true, decide_true, decide_false, Bool.true_and, Bool.false_and, Bool.true_or, Bool.false_or, sub1, if_pos, if_neg, wv_72 S, wr_768 S, wr_769 S, wr_777 S, wr_785 S, wr_786 S, wr_787 S, wr_789 S, wr_790 S, wr_791 S, wr_802 S, wr_803 S, wr_804 S, wr_805 S, wr_806 S, wr_807 S, wr_809 S, wg_770 S, wp_770 S, wg_771 S, wp_771 S, wg_772 S, wp_772 S, wg_773 S, wp_773 S, wg_774 S, wp_774 S, wg_775 S, wp_775 S, wg_776 S, wp_776 S, wg_778 S, wp_778 S, wg_779 S, wp_779 S, wg_780 S, wp_780 S, wg_781 S, wp_781 S, wg_782 S, wp_782 S, wg_783 S, wp_783 S, wg_784 S, wp_784 S, wg_788 S, wp_788 S, wg_792 S, wp_792 S, wg_793 S, wp_793 S, wg_794 S, wp_794 S, wg_795 S, wp_795 S, wg_796 S, wp_796 S, wg_797 S, wp_797 S, wg_798 S, wp_798 S, wg_799 S, wp_799 S, wg_800 S, wp_800 S, wg_801 S, wp_801 S, wg_808 S, wp_808 S, wg_810 S, wp_810 S, e]
        · obtain ⟨t', ih⟩ := ih (c + 1) (w1, u1, v1) (by omega) (by omega)
          have e46 := m_fits46 (h := zw h (mlF F w1 u1 v1) C) (d := d) (l := l) (x := x) cc.1 (by omega) r1.1 r1.2 r2.1 r2.2 c0 (by omega)
          rw [cs, s1, s2] at ih
          refine ⟨t', ?_⟩
          have ee : (10 ≤ x ∧ c ≤ nthS (soB D L) (x - 10)) ↔ (10 ≤ x ∧ c + 1 ≤ nthS (soB D L) (x - 10)) := by
            by_cases h10 : 10 ≤ x
            · have ne := nc (x - 10) (Or.inr (fun z => cx ⟨h10, z⟩))
              omega
            · omega
          have goal : zr 312 28 [yR (some 72), yI (i32 d), yI (i32 l), yI (i32 x), yI (i32 (cnS (soB D L) c)), yI (i32 (surV (soB D L) (fun c => c / 8) c)), yI (i32 (surV (soB D L) (fun c => c % 8) c)), yI (i32 c)] [] (zw h (mlF F t.1 t.2.1 t.2.2) C) = zr 312 46 [yR (some 72), yI (i32 d), yI (i32 l), yI (i32 x), yI (i32 (cnS (soB D L) c)), yI (i32 (surV (soB D L) (fun c => c / 8) c)), yI (i32 (surV (soB D L) (fun c => c % 8) c)), yI (i32 c)] [] (zw h (mlF F w1 u1 v1) C) := by
            rw [e_Model_fits_28]
            by_cases h10 : x < 10
            · simp (disch := omega) only [if_true, if_false, not_true_eq_false, not_false_eq_true, zoI_s, zoR_s, zoH_s, zoL_s, zbI_s, zbV_s, zbR_s, zbL_s, zif_dec, i32_0, ne_eq, i32_lt, i32_le, i32_eq, i32_add, i32_mul, i32_sub, i32_neg, zrz_0, zrz_1, zif_t, zif_f, zsF_s, zsF_k, zsF_a, zsC_s, zsC_a, zsC_i, zsW_s, zsW_a, Int.add_zero, Int.zero_add, true_and, false_and, and_false, Bool.false_eq_true, decide_true, decide_false, Bool.true_and, Bool.false_and, Bool.true_or, Bool.false_or, sub1, if_pos, if_neg, wv_72 S, wr_768 S, wr_769 S, wr_777 S, wr_785 S, wr_786 S, wr_787 S, wr_789 S, wr_790 S, wr_791 S, wr_802 S, wr_803 S, wr_804 S, wr_805 S, wr_806 S, wr_807 S, wr_809 S, wg_770 S, wp_770 S, wg_771 S, wp_771 S, wg_772 S, wp_772 S, wg_773 S, wp_773 S, wg_774 S, wp_774 S, wg_775 S, wp_775 S, wg_776 S, wp_776 S, wg_778 S, wp_778 S, wg_779 S, wp_779 S, wg_780 S, wp_780 S, wg_781 S, wp_781 S, wg_782 S, wp_782 S, wg_783 S, wp_783 S, wg_784 S, wp_784 S, wg_788 S, wp_788 S, wg_792 S, wp_792 S, wg_793 S, wp_793 S, wg_794 S, wp_794 S, wg_795 S, wp_795 S, wg_796 S, wp_796 S, wg_797 S, wp_797 S, wg_798 S, wp_798 S, wg_799 S, wp_799 S, wg_800 S, wp_800 S, wg_801 S, wp_801 S, wg_808 S, wp_808 S, wg_810 S, wp_810 S, e]
            · simp (disch := omega) only [if_true, if_false, not_true_eq_false, not_false_eq_true, zoI_s, zoR_s, zoH_s, zoL_s, zbI_s, zbV_s, zbR_s, zbL_s, zif_dec, i32_0, ne_eq, i32_lt, i32_le, i32_eq, i32_add, i32_mul, i32_sub, i32_neg, zrz_0, zrz_1, zif_t, zif_f, zsF_s, zsF_k, zsF_a, zsC_s, zsC_a, zsC_i, zsW_s, zsW_a, Int.add_zero, Int.zero_add, true_and, false_and, and_false, Bool.false_eq_true, decide_true, decide_false, Bool.true_and, Bool.false_and, Bool.true_or, Bool.false_or, sub1, if_pos, if_neg, wv_72 S, wr_768 S, wr_769 S, wr_777 S, wr_785 S, wr_786 S, wr_787 S, wr_789 S, wr_790 S, wr_791 S, wr_802 S, wr_803 S, wr_804 S, wr_805 S, wr_806 S, wr_807 S, wr_809 S, wg_770 S, wp_770 S, wg_771 S, wp_771 S, wg_772 S, wp_772 S, wg_773 S, wp_773 S, wg_774 S, wp_774 S, wg_775 S, wp_775 S, wg_776 S, wp_776 S, wg_778 S, wp_778 S, wg_779 S, wp_779 S, wg_780 S, wp_780 S, wg_781 S, wp_781 S, wg_782 S, wp_782 S, wg_783 S, wp_783 S, wg_784 S, wp_784 S, wg_788 S, wp_788 S, wg_792 S, wp_792 S, wg_793 S, wp_793 S, wg_794 S, wp_794 S, wg_795 S, wp_795 S, wg_796 S, wp_796 S, wg_797 S, wp_797 S, wg_798 S, wp_798 S, wg_799 S, wp_799 S, wg_800 S, wp_800 S, wg_801 S, wp_801 S, wg_808 S, wp_808 S, wg_810 S, wp_810 S, e]
          rw [goal, e46]
          dsimp only at ih
          rw [ih]
          by_cases cy : 10 ≤ x ∧ c ≤ nthS (soB D L) (x - 10)
          · rw [if_pos cy, if_pos (ee.mp cy)]
          · rw [if_neg cy, if_neg (fun z => cy (ee.mpr z))]
  obtain ⟨t', k⟩ := key 80 0 (w, u, v) (by omega) (by omega)
  have q1 : surV (soB D L) (fun c => c / 8) 0 = -1 := by unfold surV; rw [cnS_0, if_pos rfl]
  have q2 : surV (soB D L) (fun c => c % 8) 0 = -1 := by unfold surV; rw [cnS_0, if_pos rfl]
  rw [cnS_0, q1, q2] at k
  dsimp only at k
  have r1 := surV_rng (T := soB D L) (g := fun c => c / 8) (c := 80) hg8 (fun c _ _ => by omega) (by omega) (by omega)
  have r2 := surV_rng (T := soB D L) (g := fun c => c % 8) (c := 80) hm8 (fun c _ _ => by omega) (by omega) (by omega)
  have nn : -1 ≤ nthS (soB D L) (x - 10) ∧ nthS (soB D L) (x - 10) < 80 := by
    rcases fstF_spec (fun c => soB D L c && decide (cnS (soB D L) c = x - 10)) 80 0 (by omega) with ⟨k1, _⟩ | ⟨k1, k2, _⟩
    · have : nthS (soB D L) (x - 10) = -1 := k1
      omega
    · have : nthS (soB D L) (x - 10) < 0 + ((80 : Nat) : Int) := k2
      have : 0 ≤ nthS (soB D L) (x - 10) := k1
      omega
  unfold fitS surS
  by_cases x10 : 10 ≤ x ∧ 0 ≤ nthS (soB D L) (x - 10)
  · rw [if_pos x10] at k
    refine ⟨C 88, t'.1, t'.2.1, t'.2.2, ?_⟩
    rw [k, zsW_id, if_neg (by omega), if_neg (by omega), if_neg (by omega), if_neg (by omega), if_neg (by omega), if_pos (by omega)]
  · rw [if_neg x10] at k
    by_cases c3 : x = 3
    · obtain ⟨w2, u2, v2, e⟩ := m_whoseOf S M O N P T t'.1 t'.2.1 t'.2.2
      refine ⟨C 88, w2, u2, v2, ?_⟩
      rw [k, zsW_id, e_Model_fits_28]
      simp (disch := omega) only [if_true, if_false, not_true_eq_false, not_false_eq_true, zoI_s, zoR_s, zoH_s, zoL_s, zbI_s, zbV_s, zbR_s, zbL_s, zif_dec, i32_0, ne_eq, i32_lt, i32_le, i32_eq, i32_add, i32_mul, i32_sub, i32_neg, zrz_0, zrz_1, zif_t, zif_f, zsF_s, zsF_k, zsF_a, zsC_s, zsC_a, zsC_i, zsW_s, zsW_a, Int.add_zero, Int.zero_add, true_and, false_and, and_false, Bool.false_eq_true, decide_true, decide_false, Bool.true_and, Bool.false_and, Bool.true_or, Bool.false_or, sub1, if_pos, if_neg, wv_72 S, wr_768 S, wr_769 S, wr_777 S, wr_785 S, wr_786 S, wr_787 S, wr_789 S, wr_790 S, wr_791 S, wr_802 S, wr_803 S, wr_804 S, wr_805 S, wr_806 S, wr_807 S, wr_809 S, wg_770 S, wp_770 S, wg_771 S, wp_771 S, wg_772 S, wp_772 S, wg_773 S, wp_773 S, wg_774 S, wp_774 S, wg_775 S, wp_775 S, wg_776 S, wp_776 S, wg_778 S, wp_778 S, wg_779 S, wp_779 S, wg_780 S, wp_780 S, wg_781 S, wp_781 S, wg_782 S, wp_782 S, wg_783 S, wp_783 S, wg_784 S, wp_784 S, wg_788 S, wp_788 S, wg_792 S, wp_792 S, wg_793 S, wp_793 S, wg_794 S, wp_794 S, wg_795 S, wp_795 S, wg_796 S, wp_796 S, wg_797 S, wp_797 S, wg_798 S, wp_798 S, wg_799 S, wp_799 S, wg_800 S, wp_800 S, wg_801 S, wp_801 S, wg_808 S, wp_808 S, wg_810 S, wp_810 S, e]
    · by_cases c4 : x = 4
      · by_cases cz : cnS (soB D L) 80 = 0
        · refine ⟨C 88, t'.1, t'.2.1, t'.2.2, ?_⟩
          rw [k, zsW_id, e_Model_fits_28]
          simp (disch := omega) only [if_true, if_false, not_true_eq_false, not_false_eq_true, zoI_s, zoR_s, zoH_s, zoL_s, zbI_s, zbV_s, zbR_s, zbL_s, zif_dec, i32_0, ne_eq, i32_lt, i32_le, i32_eq, i32_add, i32_mul, i32_sub, i32_neg, zrz_0, zrz_1, zif_t, zif_f, zsF_s, zsF_k, zsF_a, zsC_s, zsC_a, zsC_i, zsW_s, zsW_a, Int.add_zero, Int.zero_add, true_and, false_and, and_false, Bool.false_eq_true, decide_true, decide_false, Bool.true_and, Bool.false_and, Bool.true_or, Bool.false_or, sub1, if_pos, if_neg, wv_72 S, wr_768 S, wr_769 S, wr_777 S, wr_785 S, wr_786 S, wr_787 S, wr_789 S, wr_790 S, wr_791 S, wr_802 S, wr_803 S, wr_804 S, wr_805 S, wr_806 S, wr_807 S, wr_809 S, wg_770 S, wp_770 S, wg_771 S, wp_771 S, wg_772 S, wp_772 S, wg_773 S, wp_773 S, wg_774 S, wp_774 S, wg_775 S, wp_775 S, wg_776 S, wp_776 S, wg_778 S, wp_778 S, wg_779 S, wp_779 S, wg_780 S, wp_780 S, wg_781 S, wp_781 S, wg_782 S, wp_782 S, wg_783 S, wp_783 S, wg_784 S, wp_784 S, wg_788 S, wp_788 S, wg_792 S, wp_792 S, wg_793 S, wp_793 S, wg_794 S, wp_794 S, wg_795 S, wp_795 S, wg_796 S, wp_796 S, wg_797 S, wp_797 S, wg_798 S, wp_798 S, wg_799 S, wp_799 S, wg_800 S, wp_800 S, wg_801 S, wp_801 S, wg_808 S, wp_808 S, wg_810 S, wp_810 S]
        · obtain ⟨f, w2, u2, v2, e⟩ := m_nextOf S M O N P T t'.1 t'.2.1 t'.2.2
          refine ⟨f, w2, u2, v2, ?_⟩
          rw [k, e_Model_fits_28]
          simp (disch := omega) only [if_true, if_false, not_true_eq_false, not_false_eq_true, zoI_s, zoR_s, zoH_s, zoL_s, zbI_s, zbV_s, zbR_s, zbL_s, zif_dec, i32_0, ne_eq, i32_lt, i32_le, i32_eq, i32_add, i32_mul, i32_sub, i32_neg, zrz_0, zrz_1, zif_t, zif_f, zsF_s, zsF_k, zsF_a, zsC_s, zsC_a, zsC_i, zsW_s, zsW_a, Int.add_zero, Int.zero_add, true_and, false_and, and_false, Bool.false_eq_true, decide_true, decide_false, Bool.true_and, Bool.false_and, Bool.true_or, Bool.false_or, sub1, if_pos, if_neg, wv_72 S, wr_768 S, wr_769 S, wr_777 S, wr_785 S, wr_786 S, wr_787 S, wr_789 S, wr_790 S, wr_791 S, wr_802 S, wr_803 S, wr_804 S, wr_805 S, wr_806 S, wr_807 S, wr_809 S, wg_770 S, wp_770 S, wg_771 S, wp_771 S, wg_772 S, wp_772 S, wg_773 S, wp_773 S, wg_774 S, wp_774 S, wg_775 S, wp_775 S, wg_776 S, wp_776 S, wg_778 S, wp_778 S, wg_779 S, wp_779 S, wg_780 S, wp_780 S, wg_781 S, wp_781 S, wg_782 S, wp_782 S, wg_783 S, wp_783 S, wg_784 S, wp_784 S, wg_788 S, wp_788 S, wg_792 S, wp_792 S, wg_793 S, wp_793 S, wg_794 S, wp_794 S, wg_795 S, wp_795 S, wg_796 S, wp_796 S, wg_797 S, wp_797 S, wg_798 S, wp_798 S, wg_799 S, wp_799 S, wg_800 S, wp_800 S, wg_801 S, wp_801 S, wg_808 S, wp_808 S, wg_810 S, wp_810 S, e]
      · refine ⟨C 88, t'.1, t'.2.1, t'.2.2, ?_⟩
        rw [k, zsW_id, e_Model_fits_28]
        by_cases c0 : x = 0
        · simp (disch := omega) only [if_true, if_false, not_true_eq_false, not_false_eq_true, zoI_s, zoR_s, zoH_s, zoL_s, zbI_s, zbV_s, zbR_s, zbL_s, zif_dec, i32_0, ne_eq, i32_lt, i32_le, i32_eq, i32_add, i32_mul, i32_sub, i32_neg, zrz_0, zrz_1, zif_t, zif_f, zsF_s, zsF_k, zsF_a, zsC_s, zsC_a, zsC_i, zsW_s, zsW_a, Int.add_zero, Int.zero_add, true_and, false_and, and_false, Bool.false_eq_true, decide_true, decide_false, Bool.true_and, Bool.false_and, Bool.true_or, Bool.false_or, sub1, if_pos, if_neg, wv_72 S, wr_768 S, wr_769 S, wr_777 S, wr_785 S, wr_786 S, wr_787 S, wr_789 S, wr_790 S, wr_791 S, wr_802 S, wr_803 S, wr_804 S, wr_805 S, wr_806 S, wr_807 S, wr_809 S, wg_770 S, wp_770 S, wg_771 S, wp_771 S, wg_772 S, wp_772 S, wg_773 S, wp_773 S, wg_774 S, wp_774 S, wg_775 S, wp_775 S, wg_776 S, wp_776 S, wg_778 S, wp_778 S, wg_779 S, wp_779 S, wg_780 S, wp_780 S, wg_781 S, wp_781 S, wg_782 S, wp_782 S, wg_783 S, wp_783 S, wg_784 S, wp_784 S, wg_788 S, wp_788 S, wg_792 S, wp_792 S, wg_793 S, wp_793 S, wg_794 S, wp_794 S, wg_795 S, wp_795 S, wg_796 S, wp_796 S, wg_797 S, wp_797 S, wg_798 S, wp_798 S, wg_799 S, wp_799 S, wg_800 S, wp_800 S, wg_801 S, wp_801 S, wg_808 S, wp_808 S, wg_810 S, wp_810 S]
        · by_cases c1 : x = 1
          · by_cases cs : surV (soB D L) (fun c => c / 8) 80 < 0
            · simp (disch := omega) only [if_true, if_false, not_true_eq_false, not_false_eq_true, zoI_s, zoR_s, zoH_s, zoL_s, zbI_s, zbV_s, zbR_s, zbL_s, zif_dec, i32_0, ne_eq, i32_lt, i32_le, i32_eq, i32_add, i32_mul, i32_sub, i32_neg, zrz_0, zrz_1, zif_t, zif_f, zsF_s, zsF_k, zsF_a, zsC_s, zsC_a, zsC_i, zsW_s, zsW_a, Int.add_zero, Int.zero_add, true_and, false_and, and_false, Bool.false_eq_true, decide_true, decide_false, Bool.true_and, Bool.false_and, Bool.true_or, Bool.false_or, sub1, if_pos, if_neg, wv_72 S, wr_768 S, wr_769 S, wr_777 S, wr_785 S, wr_786 S, wr_787 S, wr_789 S, wr_790 S, wr_791 S, wr_802 S, wr_803 S, wr_804 S, wr_805 S, wr_806 S, wr_807 S, wr_809 S, wg_770 S, wp_770 S, wg_771 S, wp_771 S, wg_772 S, wp_772 S, wg_773 S, wp_773 S, wg_774 S, wp_774 S, wg_775 S, wp_775 S, wg_776 S, wp_776 S, wg_778 S, wp_778 S, wg_779 S, wp_779 S, wg_780 S, wp_780 S, wg_781 S, wp_781 S, wg_782 S, wp_782 S, wg_783 S, wp_783 S, wg_784 S, wp_784 S, wg_788 S, wp_788 S, wg_792 S, wp_792 S, wg_793 S, wp_793 S, wg_794 S, wp_794 S, wg_795 S, wp_795 S, wg_796 S, wp_796 S, wg_797 S, wp_797 S, wg_798 S, wp_798 S, wg_799 S, wp_799 S, wg_800 S, wp_800 S, wg_801 S, wp_801 S, wg_808 S, wp_808 S, wg_810 S, wp_810 S]
            · simp (disch := omega) only [if_true, if_false, not_true_eq_false, not_false_eq_true, zoI_s, zoR_s, zoH_s, zoL_s, zbI_s, zbV_s, zbR_s, zbL_s, zif_dec, i32_0, ne_eq, i32_lt, i32_le, i32_eq, i32_add, i32_mul, i32_sub, i32_neg, zrz_0, zrz_1, zif_t, zif_f, zsF_s, zsF_k, zsF_a, zsC_s, zsC_a, zsC_i, zsW_s, zsW_a, Int.add_zero, Int.zero_add, true_and, false_and, and_false, Bool.false_eq_true, decide_true, decide_false, Bool.true_and, Bool.false_and, Bool.true_or, Bool.false_or, sub1, if_pos, if_neg, wv_72 S, wr_768 S, wr_769 S, wr_777 S, wr_785 S, wr_786 S, wr_787 S, wr_789 S, wr_790 S, wr_791 S, wr_802 S, wr_803 S, wr_804 S, wr_805 S, wr_806 S, wr_807 S, wr_809 S, wg_770 S, wp_770 S, wg_771 S, wp_771 S, wg_772 S, wp_772 S, wg_773 S, wp_773 S, wg_774 S, wp_774 S, wg_775 S, wp_775 S, wg_776 S, wp_776 S, wg_778 S, wp_778 S, wg_779 S, wp_779 S, wg_780 S, wp_780 S, wg_781 S, wp_781 S, wg_782 S, wp_782 S, wg_783 S, wp_783 S, wg_784 S, wp_784 S, wg_788 S, wp_788 S, wg_792 S, wp_792 S, wg_793 S, wp_793 S, wg_794 S, wp_794 S, wg_795 S, wp_795 S, wg_796 S, wp_796 S, wg_797 S, wp_797 S, wg_798 S, wp_798 S, wg_799 S, wp_799 S, wg_800 S, wp_800 S, wg_801 S, wp_801 S, wg_808 S, wp_808 S, wg_810 S, wp_810 S]
          · by_cases c2 : x = 2
            · by_cases cs : surV (soB D L) (fun c => c % 8) 80 < 0
              · simp (disch := omega) only [if_true, if_false, not_true_eq_false, not_false_eq_true, zoI_s, zoR_s, zoH_s, zoL_s, zbI_s, zbV_s, zbR_s, zbL_s, zif_dec, i32_0, ne_eq, i32_lt, i32_le, i32_eq, i32_add, i32_mul, i32_sub, i32_neg, zrz_0, zrz_1, zif_t, zif_f, zsF_s, zsF_k, zsF_a, zsC_s, zsC_a, zsC_i, zsW_s, zsW_a, Int.add_zero, Int.zero_add, true_and, false_and, and_false, Bool.false_eq_true, decide_true, decide_false, Bool.true_and, Bool.false_and, Bool.true_or, Bool.false_or, sub1, if_pos, if_neg, wv_72 S, wr_768 S, wr_769 S, wr_777 S, wr_785 S, wr_786 S, wr_787 S, wr_789 S, wr_790 S, wr_791 S, wr_802 S, wr_803 S, wr_804 S, wr_805 S, wr_806 S, wr_807 S, wr_809 S, wg_770 S, wp_770 S, wg_771 S, wp_771 S, wg_772 S, wp_772 S, wg_773 S, wp_773 S, wg_774 S, wp_774 S, wg_775 S, wp_775 S, wg_776 S, wp_776 S, wg_778 S, wp_778 S, wg_779 S, wp_779 S, wg_780 S, wp_780 S, wg_781 S, wp_781 S, wg_782 S, wp_782 S, wg_783 S, wp_783 S, wg_784 S, wp_784 S, wg_788 S, wp_788 S, wg_792 S, wp_792 S, wg_793 S, wp_793 S, wg_794 S, wp_794 S, wg_795 S, wp_795 S, wg_796 S, wp_796 S, wg_797 S, wp_797 S, wg_798 S, wp_798 S, wg_799 S, wp_799 S, wg_800 S, wp_800 S, wg_801 S, wp_801 S, wg_808 S, wp_808 S, wg_810 S, wp_810 S]
              · simp (disch := omega) only [if_true, if_false, not_true_eq_false, not_false_eq_true, zoI_s, zoR_s, zoH_s, zoL_s, zbI_s, zbV_s, zbR_s, zbL_s, zif_dec, i32_0, ne_eq, i32_lt, i32_le, i32_eq, i32_add, i32_mul, i32_sub, i32_neg, zrz_0, zrz_1, zif_t, zif_f, zsF_s, zsF_k, zsF_a, zsC_s, zsC_a, zsC_i, zsW_s, zsW_a, Int.add_zero, Int.zero_add, true_and, false_and, and_false, Bool.false_eq_true, decide_true, decide_false, Bool.true_and, Bool.false_and, Bool.true_or, Bool.false_or, sub1, if_pos, if_neg, wv_72 S, wr_768 S, wr_769 S, wr_777 S, wr_785 S, wr_786 S, wr_787 S, wr_789 S, wr_790 S, wr_791 S, wr_802 S, wr_803 S, wr_804 S, wr_805 S, wr_806 S, wr_807 S, wr_809 S, wg_770 S, wp_770 S, wg_771 S, wp_771 S, wg_772 S, wp_772 S, wg_773 S, wp_773 S, wg_774 S, wp_774 S, wg_775 S, wp_775 S, wg_776 S, wp_776 S, wg_778 S, wp_778 S, wg_779 S, wp_779 S, wg_780 S, wp_780 S, wg_781 S, wp_781 S, wg_782 S, wp_782 S, wg_783 S, wp_783 S, wg_784 S, wp_784 S, wg_788 S, wp_788 S, wg_792 S, wp_792 S, wg_793 S, wp_793 S, wg_794 S, wp_794 S, wg_795 S, wp_795 S, wg_796 S, wp_796 S, wg_797 S, wp_797 S, wg_798 S, wp_798 S, wg_799 S, wp_799 S, wg_800 S, wp_800 S, wg_801 S, wp_801 S, wg_808 S, wp_808 S, wg_810 S, wp_810 S]
            · simp (disch := omega) only [if_true, if_false, not_true_eq_false, not_false_eq_true, zoI_s, zoR_s, zoH_s, zoL_s, zbI_s, zbV_s, zbR_s, zbL_s, zif_dec, i32_0, ne_eq, i32_lt, i32_le, i32_eq, i32_add, i32_mul, i32_sub, i32_neg, zrz_0, zrz_1, zif_t, zif_f, zsF_s, zsF_k, zsF_a, zsC_s, zsC_a, zsC_i, zsW_s, zsW_a, Int.add_zero, Int.zero_add, true_and, false_and, and_false, Bool.false_eq_true, decide_true, decide_false, Bool.true_and, Bool.false_and, Bool.true_or, Bool.false_or, sub1, if_pos, if_neg, wv_72 S, wr_768 S, wr_769 S, wr_777 S, wr_785 S, wr_786 S, wr_787 S, wr_789 S, wr_790 S, wr_791 S, wr_802 S, wr_803 S, wr_804 S, wr_805 S, wr_806 S, wr_807 S, wr_809 S, wg_770 S, wp_770 S, wg_771 S, wp_771 S, wg_772 S, wp_772 S, wg_773 S, wp_773 S, wg_774 S, wp_774 S, wg_775 S, wp_775 S, wg_776 S, wp_776 S, wg_778 S, wp_778 S, wg_779 S, wp_779 S, wg_780 S, wp_780 S, wg_781 S, wp_781 S, wg_782 S, wp_782 S, wg_783 S, wp_783 S, wg_784 S, wp_784 S, wg_788 S, wp_788 S, wg_792 S, wp_792 S, wg_793 S, wp_793 S, wg_794 S, wp_794 S, wg_795 S, wp_795 S, wg_796 S, wp_796 S, wg_797 S, wp_797 S, wg_798 S, wp_798 S, wg_799 S, wp_799 S, wg_800 S, wp_800 S, wg_801 S, wp_801 S, wg_808 S, wp_808 S, wg_810 S, wp_810 S]
end FM
theorem m_fits {d l w : Int} (hd : inI d) (hl : inI l) (hw : inI w) : ans1 312 72 [zI (i32 d), zI (i32 l), zI (i32 w)] (fun A => zI (i32 (if (0 ≤ d ∧ d < A 0) ∧ (0 ≤ l ∧ l < A 2) ∧ thB (dOf A d) (lOf A l) = true then fitS (dOf A d) (lOf A l) w else -2))) := by
  intro h F C Q
  have S := Q.1
  unfold inI at hd hl hw
  by_cases c1 : 0 ≤ d ∧ d < C 73 0
  · have M := miF_V Q c1.1 c1.2
    have O := Q.dO c1.1 c1.2
    have Q1 := Q.tq (miF_tq (F := F) (C := C) d)
    by_cases c2 : 0 ≤ l ∧ l < C 73 2
    · have P := Q.lO c2.1 c2.2
      have o := Q.2.2.1.2.2
      have M1 : moV (zsF (miF F C d) 808 72 (1180 + 25 * l)) C (dOf (C 73) d) := M
      have N : moL (zsF (miF F C d) 808 72 (1180 + 25 * l)) C (lOf (C 73) l) := ⟨⟨show 0 ≤ 1180 + 25 * l by omega, show 1180 + 25 * l ≤ 2000 by omega⟩, fun j _ _ => rfl⟩
      have T1 : tq F C (zsF (miF F C d) 808 72 (1180 + 25 * l)) C := (miF_tq d).sF (by omega) (by omega)
      have ek := m_areThere S M1 O N P
      cases ct : thB (dOf (C 73) d) (lOf (C 73) l) with
      | false =>
        rw [ct] at ek
        refine ⟨_, C, ?_, T1⟩
        show _ = some (zI (i32 (if _ then _ else _)), _)
        rw [if_neg (fun z => by rw [ct] at z; cases z.2.2)]
        simp (disch := omega) only [if_true, if_false, not_true_eq_false, not_false_eq_true, zoI_s, zoR_s, zoH_s, zoL_s, zbI_s, zbV_s, zbR_s, zbL_s, zif_dec, i32_0, ne_eq, i32_lt, i32_le, i32_eq, i32_add, i32_mul, i32_sub, i32_neg, zrz_0, zrz_1, zif_t, zif_f, zsF_s, zsF_k, zsF_a, zsC_s, zsC_a, zsC_i, zsW_s, zsW_a, Int.add_zero, Int.zero_add, true_and, false_and, and_false, Bool.false_eq_true, decide_true, decide_false, Bool.true_and, Bool.false_and, Bool.true_or, Bool.false_or, sub1, if_pos, if_neg, wv_72 S, wr_768 S, wr_769 S, wr_777 S, wr_785 S, wr_786 S, wr_787 S, wr_789 S, wr_790 S, wr_791 S, wr_802 S, wr_803 S, wr_804 S, wr_805 S, wr_806 S, wr_807 S, wr_809 S, wg_770 S, wp_770 S, wg_771 S, wp_771 S, wg_772 S, wp_772 S, wg_773 S, wp_773 S, wg_774 S, wp_774 S, wg_775 S, wp_775 S, wg_776 S, wp_776 S, wg_778 S, wp_778 S, wg_779 S, wp_779 S, wg_780 S, wp_780 S, wg_781 S, wp_781 S, wg_782 S, wp_782 S, wg_783 S, wp_783 S, wg_784 S, wp_784 S, wg_788 S, wp_788 S, wg_792 S, wp_792 S, wg_793 S, wp_793 S, wg_794 S, wp_794 S, wg_795 S, wp_795 S, wg_796 S, wp_796 S, wg_797 S, wp_797 S, wg_798 S, wp_798 S, wg_799 S, wp_799 S, wg_800 S, wp_800 S, wg_801 S, wp_801 S, wg_808 S, wp_808 S, wg_810 S, wp_810 S, m_isD Q, m_isL Q1, e_Model_fits, ek]
      | true =>
        rw [ct] at ek
        dsimp only
        rw [if_pos ⟨c1, c2, ct⟩]
        by_cases cw : w < 0 ∨ (5 ≤ w ∧ w ≤ 9)
        · refine ⟨_, C, ?_, T1⟩
          unfold fitS
          by_cases w0 : w < 0
          · simp (disch := omega) only [if_true, if_false, not_true_eq_false, not_false_eq_true, zoI_s, zoR_s, zoH_s, zoL_s, zbI_s, zbV_s, zbR_s, zbL_s, zif_dec, i32_0, ne_eq, i32_lt, i32_le, i32_eq, i32_add, i32_mul, i32_sub, i32_neg, zrz_0, zrz_1, zif_t, zif_f, zsF_s, zsF_k, zsF_a, zsC_s, zsC_a, zsC_i, zsW_s, zsW_a, Int.add_zero, Int.zero_add, true_and, false_and, and_false, Bool.false_eq_true, decide_true, decide_false, Bool.true_and, Bool.false_and, Bool.true_or, Bool.false_or, sub1, if_pos, if_neg, wv_72 S, wr_768 S, wr_769 S, wr_777 S, wr_785 S, wr_786 S, wr_787 S, wr_789 S, wr_790 S, wr_791 S, wr_802 S, wr_803 S, wr_804 S, wr_805 S, wr_806 S, wr_807 S, wr_809 S, wg_770 S, wp_770 S, wg_771 S, wp_771 S, wg_772 S, wp_772 S, wg_773 S, wp_773 S, wg_774 S, wp_774 S, wg_775 S, wp_775 S, wg_776 S, wp_776 S, wg_778 S, wp_778 S, wg_779 S, wp_779 S, wg_780 S, wp_780 S, wg_781 S, wp_781 S, wg_782 S, wp_782 S, wg_783 S, wp_783 S, wg_784 S, wp_784 S, wg_788 S, wp_788 S, wg_792 S, wp_792 S, wg_793 S, wp_793 S, wg_794 S, wp_794 S, wg_795 S, wp_795 S, wg_796 S, wp_796 S, wg_797 S, wp_797 S, wg_798 S, wp_798 S, wg_799 S, wp_799 S, wg_800 S, wp_800 S, wg_801 S, wp_801 S, wg_808 S, wp_808 S, wg_810 S, wp_810 S, m_isD Q, m_isL Q1, e_Model_fits, ek, m_isIn, ib_0]
          · simp (disch := omega) only [if_true, if_false, not_true_eq_false, not_false_eq_true, zoI_s, zoR_s, zoH_s, zoL_s, zbI_s, zbV_s, zbR_s, zbL_s, zif_dec, i32_0, ne_eq, i32_lt, i32_le, i32_eq, i32_add, i32_mul, i32_sub, i32_neg, zrz_0, zrz_1, zif_t, zif_f, zsF_s, zsF_k, zsF_a, zsC_s, zsC_a, zsC_i, zsW_s, zsW_a, Int.add_zero, Int.zero_add, true_and, false_and, and_false, Bool.false_eq_true, decide_true, decide_false, Bool.true_and, Bool.false_and, Bool.true_or, Bool.false_or, sub1, if_pos, if_neg, wv_72 S, wr_768 S, wr_769 S, wr_777 S, wr_785 S, wr_786 S, wr_787 S, wr_789 S, wr_790 S, wr_791 S, wr_802 S, wr_803 S, wr_804 S, wr_805 S, wr_806 S, wr_807 S, wr_809 S, wg_770 S, wp_770 S, wg_771 S, wp_771 S, wg_772 S, wp_772 S, wg_773 S, wp_773 S, wg_774 S, wp_774 S, wg_775 S, wp_775 S, wg_776 S, wp_776 S, wg_778 S, wp_778 S, wg_779 S, wp_779 S, wg_780 S, wp_780 S, wg_781 S, wp_781 S, wg_782 S, wp_782 S, wg_783 S, wp_783 S, wg_784 S, wp_784 S, wg_788 S, wp_788 S, wg_792 S, wp_792 S, wg_793 S, wp_793 S, wg_794 S, wp_794 S, wg_795 S, wp_795 S, wg_796 S, wp_796 S, wg_797 S, wp_797 S, wg_798 S, wp_798 S, wg_799 S, wp_799 S, wg_800 S, wp_800 S, wg_801 S, wp_801 S, wg_808 S, wp_808 S, wg_810 S, wp_810 S, m_isD Q, m_isL Q1, e_Model_fits, ek, m_isIn, ib_0]
        · obtain ⟨f, w2, u2, v2, e⟩ := m_fitsL S M1 O N P ct (d := d) (l := l) (x := w) (by omega) (by omega) (by omega) (zsF (miF F C d) 808 72 (1180 + 25 * l) 782 72) (zsF (miF F C d) 808 72 (1180 + 25 * l) 783 72) (zsF (miF F C d) 808 72 (1180 + 25 * l) 784 72)
          rw [mlF_id] at e
          refine ⟨_, _, ?_, (T1.ml w2 u2 v2).sW (a := 88) (f := f) (by omega) (by omega)⟩
          rw [← e]
          simp (disch := omega) only [if_true, if_false, not_true_eq_false, not_false_eq_true, zoI_s, zoR_s, zoH_s, zoL_s, zbI_s, zbV_s, zbR_s, zbL_s, zif_dec, i32_0, ne_eq, i32_lt, i32_le, i32_eq, i32_add, i32_mul, i32_sub, i32_neg, zrz_0, zrz_1, zif_t, zif_f, zsF_s, zsF_k, zsF_a, zsC_s, zsC_a, zsC_i, zsW_s, zsW_a, Int.add_zero, Int.zero_add, true_and, false_and, and_false, Bool.false_eq_true, decide_true, decide_false, Bool.true_and, Bool.false_and, Bool.true_or, Bool.false_or, sub1, if_pos, if_neg, wv_72 S, wr_768 S, wr_769 S, wr_777 S, wr_785 S, wr_786 S, wr_787 S, wr_789 S, wr_790 S, wr_791 S, wr_802 S, wr_803 S, wr_804 S, wr_805 S, wr_806 S, wr_807 S, wr_809 S, wg_770 S, wp_770 S, wg_771 S, wp_771 S, wg_772 S, wp_772 S, wg_773 S, wp_773 S, wg_774 S, wp_774 S, wg_775 S, wp_775 S, wg_776 S, wp_776 S, wg_778 S, wp_778 S, wg_779 S, wp_779 S, wg_780 S, wp_780 S, wg_781 S, wp_781 S, wg_782 S, wp_782 S, wg_783 S, wp_783 S, wg_784 S, wp_784 S, wg_788 S, wp_788 S, wg_792 S, wp_792 S, wg_793 S, wp_793 S, wg_794 S, wp_794 S, wg_795 S, wp_795 S, wg_796 S, wp_796 S, wg_797 S, wp_797 S, wg_798 S, wp_798 S, wg_799 S, wp_799 S, wg_800 S, wp_800 S, wg_801 S, wp_801 S, wg_808 S, wp_808 S, wg_810 S, wp_810 S, m_isD Q, m_isL Q1, e_Model_fits, ek, m_isIn, ib_0]
    · refine ⟨_, C, ?_, miF_tq d⟩
      show _ = some (zI (i32 (if _ then _ else _)), _)
      rw [if_neg (fun z => c2 z.2.1)]
      simp (disch := omega) only [if_true, if_false, not_true_eq_false, not_false_eq_true, zoI_s, zoR_s, zoH_s, zoL_s, zbI_s, zbV_s, zbR_s, zbL_s, zif_dec, i32_0, ne_eq, i32_lt, i32_le, i32_eq, i32_add, i32_mul, i32_sub, i32_neg, zrz_0, zrz_1, zif_t, zif_f, zsF_s, zsF_k, zsF_a, zsC_s, zsC_a, zsC_i, zsW_s, zsW_a, Int.add_zero, Int.zero_add, true_and, false_and, and_false, Bool.false_eq_true, decide_true, decide_false, Bool.true_and, Bool.false_and, Bool.true_or, Bool.false_or, sub1, if_pos, if_neg, wv_72 S, wr_768 S, wr_769 S, wr_777 S, wr_785 S, wr_786 S, wr_787 S, wr_789 S, wr_790 S, wr_791 S, wr_802 S, wr_803 S, wr_804 S, wr_805 S, wr_806 S, wr_807 S, wr_809 S, wg_770 S, wp_770 S, wg_771 S, wp_771 S, wg_772 S, wp_772 S, wg_773 S, wp_773 S, wg_774 S, wp_774 S, wg_775 S, wp_775 S, wg_776 S, wp_776 S, wg_778 S, wp_778 S, wg_779 S, wp_779 S, wg_780 S, wp_780 S, wg_781 S, wp_781 S, wg_782 S, wp_782 S, wg_783 S, wp_783 S, wg_784 S, wp_784 S, wg_788 S, wp_788 S, wg_792 S, wp_792 S, wg_793 S, wp_793 S, wg_794 S, wp_794 S, wg_795 S, wp_795 S, wg_796 S, wp_796 S, wg_797 S, wp_797 S, wg_798 S, wp_798 S, wg_799 S, wp_799 S, wg_800 S, wp_800 S, wg_801 S, wp_801 S, wg_808 S, wp_808 S, wg_810 S, wp_810 S, m_isD Q, m_isL0 Q1, e_Model_fits]
  · refine ⟨F, C, ?_, tq.rfl⟩
    show _ = some (zI (i32 (if _ then _ else _)), _)
    rw [if_neg (fun z => c1 z.1)]
    simp (disch := omega) only [if_true, if_false, not_true_eq_false, not_false_eq_true, zoI_s, zoR_s, zoH_s, zoL_s, zbI_s, zbV_s, zbR_s, zbL_s, zif_dec, i32_0, ne_eq, i32_lt, i32_le, i32_eq, i32_add, i32_mul, i32_sub, i32_neg, zrz_0, zrz_1, zif_t, zif_f, zsF_s, zsF_k, zsF_a, zsC_s, zsC_a, zsC_i, zsW_s, zsW_a, Int.add_zero, Int.zero_add, true_and, false_and, and_false, Bool.false_eq_true, decide_true, decide_false, Bool.true_and, Bool.false_and, Bool.true_or, Bool.false_or, sub1, if_pos, if_neg, wv_72 S, wr_768 S, wr_769 S, wr_777 S, wr_785 S, wr_786 S, wr_787 S, wr_789 S, wr_790 S, wr_791 S, wr_802 S, wr_803 S, wr_804 S, wr_805 S, wr_806 S, wr_807 S, wr_809 S, wg_770 S, wp_770 S, wg_771 S, wp_771 S, wg_772 S, wp_772 S, wg_773 S, wp_773 S, wg_774 S, wp_774 S, wg_775 S, wp_775 S, wg_776 S, wp_776 S, wg_778 S, wp_778 S, wg_779 S, wp_779 S, wg_780 S, wp_780 S, wg_781 S, wp_781 S, wg_782 S, wp_782 S, wg_783 S, wp_783 S, wg_784 S, wp_784 S, wg_788 S, wp_788 S, wg_792 S, wp_792 S, wg_793 S, wp_793 S, wg_794 S, wp_794 S, wg_795 S, wp_795 S, wg_796 S, wp_796 S, wg_797 S, wp_797 S, wg_798 S, wp_798 S, wg_799 S, wp_799 S, wg_800 S, wp_800 S, wg_801 S, wp_801 S, wg_808 S, wp_808 S, wg_810 S, wp_810 S, m_isD0 Q, m_are30 Q, e_Model_fits]
