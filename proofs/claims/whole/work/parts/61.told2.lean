/-! fault, duchy, deed, fact, count -/
section T1
variable {h : zHeap} {F : Nat → Nat → Int} {C : Nat → Int → Int} {a : Nat} {D : Int → Int}
theorem tg_581 (S : St h) : zgI (zw h F C) (some 1) 581 = some (i32 (F 581 1)) := zw_gI S.2.2.2.2.2.1.2.2.1.1
theorem tp_581 (S : St h) (x : Int) : zpI (zw h F C) (some 1) 581 (i32 x) = some (zw h (zsF F 581 1 x) C) := zw_pI S.2.2.2.2.2.1.2.2.1.1 x
theorem tg_582 (S : St h) : zgI (zw h F C) (some 1) 582 = some (i32 (F 582 1)) := zw_gI S.2.2.2.2.2.1.2.2.1.2
theorem tp_582 (S : St h) (x : Int) : zpI (zw h F C) (some 1) 582 (i32 x) = some (zw h (zsF F 582 1 x) C) := zw_pI S.2.2.2.2.2.1.2.2.1.2 x
theorem pv_2 (S : St h) {m : Nat} {as : List zVal} : zv 8 m (zR (some 2) :: as) (zw h F C) = zc m (zR (some 2) :: as) (zw h F C) := zw_v S.2.2.2.2.2.1.2.2.2.1.1
theorem pr_512 (S : St h) : zgR (zw h F C) (some 2) 512 = some (some 3) := zw_gR S.2.2.2.2.2.1.2.2.2.1.2.1
theorem pg_513 (S : St h) : zgI (zw h F C) (some 2) 513 = some (i32 (F 513 2)) := zw_gI S.2.2.2.2.2.1.2.2.2.1.2.2.1
theorem pp_513 (S : St h) (x : Int) : zpI (zw h F C) (some 2) 513 (i32 x) = some (zw h (zsF F 513 2 x) C) := zw_pI S.2.2.2.2.2.1.2.2.2.1.2.2.1 x
theorem pa_3 (S : St h) {i : Int} (h0 : 0 ≤ i) (h1 : i < 600) : zaB (zw h F C) (some 3) (i32 i) = some (i32 (C 3 i)) := zw_aB (n := 600) S.2.2.2.2.2.1.2.2.2.1.2.2.2.1 (Or.inl rfl) (by unfold zK0; omega) (by omega) h0 h1
theorem ps_3 (S : St h) {i : Int} (h0 : 0 ≤ i) (h1 : i < 600) {x : Int32} {y : Int} (hy : znar 1 x = i32 y) : zaC (zw h F C) (some 3) (i32 i) x = some (zw h F (zsC C 3 i y)) := zw_aC (n := 600) S.2.2.2.2.2.1.2.2.2.1.2.2.2.1 (Or.inl rfl) (by unfold zK0; omega) (by omega) h0 h1 hy
end T1
def faultQ (A : Int → Int) (w : Int) : Int := if w = 0 then A 5 else if w = 1 then A 6 else -1
theorem c_faultQ {w : Int} (hw : inI w) : ans1 153 0 [zI (i32 w)] (fun A => zI (i32 (faultQ A w))) := by
  intro h F C Q
  have S := Q.1
  unfold inI at hw
  unfold faultQ
  refine ⟨F, C, ?_, tq.rfl⟩
  have e5 : F 581 1 = C 73 5 := Q.2.1.1.1
  have e6 : F 582 1 = C 73 6 := Q.2.1.1.2.1
  by_cases c0 : w = 0
  · simp (disch := omega) only [if_true, if_false, not_true_eq_false, not_false_eq_true, zoI_s, zoR_s, zoH_s, zoL_s, zbI_s, zbV_s, zbR_s, zbL_s, zif_dec, i32_0, ne_eq, i32_lt, i32_le, i32_eq, i32_add, i32_mul, i32_sub, i32_neg, zrz_0, zrz_1, zif_t, zif_f, zsF_s, zsF_k, zsF_a, zsC_s, zsC_a, zsC_i, zsW_s, zsW_a, Int.add_zero, Int.zero_add, true_and, false_and, and_false, Bool.false_eq_true, decide_true, decide_false, Bool.true_and, Bool.false_and, Bool.true_or, Bool.false_or, sub1, and_true, if_pos, if_neg, wv_0 S, wr_704 S, wr_705 S, wr_706 S, wr_707 S, wr_708 S, wr_709 S, wr_710 S, wr_711 S, tg_581 S, e5, e_Main_fault, c0]
  · by_cases c1 : w = 1
    · simp (disch := omega) only [if_true, if_false, not_true_eq_false, not_false_eq_true, zoI_s, zoR_s, zoH_s, zoL_s, zbI_s, zbV_s, zbR_s, zbL_s, zif_dec, i32_0, ne_eq, i32_lt, i32_le, i32_eq, i32_add, i32_mul, i32_sub, i32_neg, zrz_0, zrz_1, zif_t, zif_f, zsF_s, zsF_k, zsF_a, zsC_s, zsC_a, zsC_i, zsW_s, zsW_a, Int.add_zero, Int.zero_add, true_and, false_and, and_false, Bool.false_eq_true, decide_true, decide_false, Bool.true_and, Bool.false_and, Bool.true_or, Bool.false_or, sub1, and_true, if_pos, if_neg, wv_0 S, wr_704 S, wr_705 S, wr_706 S, wr_707 S, wr_708 S, wr_709 S, wr_710 S, wr_711 S, tg_582 S, e6, e_Main_fault, c1]
    · simp (disch := omega) only [if_true, if_false, not_true_eq_false, not_false_eq_true, zoI_s, zoR_s, zoH_s, zoL_s, zbI_s, zbV_s, zbR_s, zbL_s, zif_dec, i32_0, ne_eq, i32_lt, i32_le, i32_eq, i32_add, i32_mul, i32_sub, i32_neg, zrz_0, zrz_1, zif_t, zif_f, zsF_s, zsF_k, zsF_a, zsC_s, zsC_a, zsC_i, zsW_s, zsW_a, Int.add_zero, Int.zero_add, true_and, false_and, and_false, Bool.false_eq_true, decide_true, decide_false, Bool.true_and, Bool.false_and, Bool.true_or, Bool.false_or, sub1, and_true, if_pos, if_neg, wv_0 S, wr_704 S, wr_705 S, wr_706 S, wr_707 S, wr_708 S, wr_709 S, wr_710 S, wr_711 S, e_Main_fault]
theorem m_faultQ {w : Int} (hw : inI w) : ans1 225 72 [zI (i32 w)] (fun A => zI (i32 (faultQ A w))) := by
  intro h F C Q
  have S := Q.1
  unfold inI at hw
  unfold faultQ
  refine ⟨F, C, ?_, tq.rfl⟩
  by_cases c0 : w = 0
  · simp (disch := omega) only [if_true, if_false, not_true_eq_false, not_false_eq_true, zoI_s, zoR_s, zoH_s, zoL_s, zbI_s, zbV_s, zbR_s, zbL_s, zif_dec, i32_0, ne_eq, i32_lt, i32_le, i32_eq, i32_add, i32_mul, i32_sub, i32_neg, zrz_0, zrz_1, zif_t, zif_f, zsF_s, zsF_k, zsF_a, zsC_s, zsC_a, zsC_i, zsW_s, zsW_a, Int.add_zero, Int.zero_add, true_and, false_and, and_false, Bool.false_eq_true, decide_true, decide_false, Bool.true_and, Bool.false_and, Bool.true_or, Bool.false_or, sub1, and_true, if_pos, if_neg, wv_72 S, wr_768 S, wr_769 S, wr_777 S, wr_785 S, wr_786 S, wr_787 S, wr_789 S, wr_790 S, wr_791 S, wr_802 S, wr_803 S, wr_804 S, wr_805 S, wr_806 S, wr_807 S, wr_809 S, wg_770 S, wp_770 S, wg_771 S, wp_771 S, wg_772 S, wp_772 S, wg_773 S, wp_773 S, wg_774 S, wp_774 S, wg_775 S, wp_775 S, wg_776 S, wp_776 S, wg_778 S, wp_778 S, wg_779 S, wp_779 S, wg_780 S, wp_780 S, wg_781 S, wp_781 S, wg_782 S, wp_782 S, wg_783 S, wp_783 S, wg_784 S, wp_784 S, wg_788 S, wp_788 S, wg_792 S, wp_792 S, wg_793 S, wp_793 S, wg_794 S, wp_794 S, wg_795 S, wp_795 S, wg_796 S, wp_796 S, wg_797 S, wp_797 S, wg_798 S, wp_798 S, wg_799 S, wp_799 S, wg_800 S, wp_800 S, wg_801 S, wp_801 S, wg_808 S, wp_808 S, wg_810 S, wp_810 S, wa_73 S, ws_73 S, e_Model_fault, c0]
  · by_cases c1 : w = 1
    · simp (disch := omega) only [if_true, if_false, not_true_eq_false, not_false_eq_true, zoI_s, zoR_s, zoH_s, zoL_s, zbI_s, zbV_s, zbR_s, zbL_s, zif_dec, i32_0, ne_eq, i32_lt, i32_le, i32_eq, i32_add, i32_mul, i32_sub, i32_neg, zrz_0, zrz_1, zif_t, zif_f, zsF_s, zsF_k, zsF_a, zsC_s, zsC_a, zsC_i, zsW_s, zsW_a, Int.add_zero, Int.zero_add, true_and, false_and, and_false, Bool.false_eq_true, decide_true, decide_false, Bool.true_and, Bool.false_and, Bool.true_or, Bool.false_or, sub1, and_true, if_pos, if_neg, wv_72 S, wr_768 S, wr_769 S, wr_777 S, wr_785 S, wr_786 S, wr_787 S, wr_789 S, wr_790 S, wr_791 S, wr_802 S, wr_803 S, wr_804 S, wr_805 S, wr_806 S, wr_807 S, wr_809 S, wg_770 S, wp_770 S, wg_771 S, wp_771 S, wg_772 S, wp_772 S, wg_773 S, wp_773 S, wg_774 S, wp_774 S, wg_775 S, wp_775 S, wg_776 S, wp_776 S, wg_778 S, wp_778 S, wg_779 S, wp_779 S, wg_780 S, wp_780 S, wg_781 S, wp_781 S, wg_782 S, wp_782 S, wg_783 S, wp_783 S, wg_784 S, wp_784 S, wg_788 S, wp_788 S, wg_792 S, wp_792 S, wg_793 S, wp_793 S, wg_794 S, wp_794 S, wg_795 S, wp_795 S, wg_796 S, wp_796 S, wg_797 S, wp_797 S, wg_798 S, wp_798 S, wg_799 S, wp_799 S, wg_800 S, wp_800 S, wg_801 S, wp_801 S, wg_808 S, wp_808 S, wg_810 S, wp_810 S, wa_73 S, ws_73 S, e_Model_fault, c1]
    · simp (disch := omega) only [if_true, if_false, not_true_eq_false, not_false_eq_true, zoI_s, zoR_s, zoH_s, zoL_s, zbI_s, zbV_s, zbR_s, zbL_s, zif_dec, i32_0, ne_eq, i32_lt, i32_le, i32_eq, i32_add, i32_mul, i32_sub, i32_neg, zrz_0, zrz_1, zif_t, zif_f, zsF_s, zsF_k, zsF_a, zsC_s, zsC_a, zsC_i, zsW_s, zsW_a, Int.add_zero, Int.zero_add, true_and, false_and, and_false, Bool.false_eq_true, decide_true, decide_false, Bool.true_and, Bool.false_and, Bool.true_or, Bool.false_or, sub1, and_true, if_pos, if_neg, wv_72 S, wr_768 S, wr_769 S, wr_777 S, wr_785 S, wr_786 S, wr_787 S, wr_789 S, wr_790 S, wr_791 S, wr_802 S, wr_803 S, wr_804 S, wr_805 S, wr_806 S, wr_807 S, wr_809 S, wg_770 S, wp_770 S, wg_771 S, wp_771 S, wg_772 S, wp_772 S, wg_773 S, wp_773 S, wg_774 S, wp_774 S, wg_775 S, wp_775 S, wg_776 S, wp_776 S, wg_778 S, wp_778 S, wg_779 S, wp_779 S, wg_780 S, wp_780 S, wg_781 S, wp_781 S, wg_782 S, wp_782 S, wg_783 S, wp_783 S, wg_784 S, wp_784 S, wg_788 S, wp_788 S, wg_792 S, wp_792 S, wg_793 S, wp_793 S, wg_794 S, wp_794 S, wg_795 S, wp_795 S, wg_796 S, wp_796 S, wg_797 S, wp_797 S, wg_798 S, wp_798 S, wg_799 S, wp_799 S, wg_800 S, wp_800 S, wg_801 S, wp_801 S, wg_808 S, wp_808 S, wg_810 S, wp_810 S, e_Model_fault]
def countQ (A : Int → Int) (s : Int) : Int := if 0 ≤ s ∧ s ≤ 2 then A s else -2
theorem c_countQ {w : Int} (hw : inI w) : ans1 186 0 [zI (i32 w)] (fun A => zI (i32 (countQ A w))) := by
  intro h F C Q
  have S := Q.1
  unfold inI at hw
  unfold countQ
  refine ⟨F, C, ?_, tq.rfl⟩
  by_cases c0 : w < 0
  · simp (disch := omega) only [if_true, if_false, not_true_eq_false, not_false_eq_true, zoI_s, zoR_s, zoH_s, zoL_s, zbI_s, zbV_s, zbR_s, zbL_s, zif_dec, i32_0, ne_eq, i32_lt, i32_le, i32_eq, i32_add, i32_mul, i32_sub, i32_neg, zrz_0, zrz_1, zif_t, zif_f, zsF_s, zsF_k, zsF_a, zsC_s, zsC_a, zsC_i, zsW_s, zsW_a, Int.add_zero, Int.zero_add, true_and, false_and, and_false, Bool.false_eq_true, decide_true, decide_false, Bool.true_and, Bool.false_and, Bool.true_or, Bool.false_or, sub1, and_true, if_pos, if_neg, wv_0 S, wr_704 S, wr_705 S, wr_706 S, wr_707 S, wr_708 S, wr_709 S, wr_710 S, wr_711 S, e_Main_count, e_Main_isSort]
  · by_cases c1 : 3 ≤ w
    · simp (disch := omega) only [if_true, if_false, not_true_eq_false, not_false_eq_true, zoI_s, zoR_s, zoH_s, zoL_s, zbI_s, zbV_s, zbR_s, zbL_s, zif_dec, i32_0, ne_eq, i32_lt, i32_le, i32_eq, i32_add, i32_mul, i32_sub, i32_neg, zrz_0, zrz_1, zif_t, zif_f, zsF_s, zsF_k, zsF_a, zsC_s, zsC_a, zsC_i, zsW_s, zsW_a, Int.add_zero, Int.zero_add, true_and, false_and, and_false, Bool.false_eq_true, decide_true, decide_false, Bool.true_and, Bool.false_and, Bool.true_or, Bool.false_or, sub1, and_true, if_pos, if_neg, wv_0 S, wr_704 S, wr_705 S, wr_706 S, wr_707 S, wr_708 S, wr_709 S, wr_710 S, wr_711 S, e_Main_count, e_Main_isSort]
    · have e := Q.2.1.2.2.1 w (by omega) (by omega)
      simp (disch := omega) only [if_true, if_false, not_true_eq_false, not_false_eq_true, zoI_s, zoR_s, zoH_s, zoL_s, zbI_s, zbV_s, zbR_s, zbL_s, zif_dec, i32_0, ne_eq, i32_lt, i32_le, i32_eq, i32_add, i32_mul, i32_sub, i32_neg, zrz_0, zrz_1, zif_t, zif_f, zsF_s, zsF_k, zsF_a, zsC_s, zsC_a, zsC_i, zsW_s, zsW_a, Int.add_zero, Int.zero_add, true_and, false_and, and_false, Bool.false_eq_true, decide_true, decide_false, Bool.true_and, Bool.false_and, Bool.true_or, Bool.false_or, sub1, and_true, if_pos, if_neg, wv_0 S, wr_704 S, wr_705 S, wr_706 S, wr_707 S, wr_708 S, wr_709 S, wr_710 S, wr_711 S, e_Main_count, e_Main_isSort, tr_577 S, ta_4 S]
      rw [show C 4 w = C 73 w from e]
theorem m_countQ {w : Int} (hw : inI w) : ans1 320 72 [zI (i32 w)] (fun A => zI (i32 (countQ A w))) := by
  intro h F C Q
  have S := Q.1
  unfold inI at hw
  unfold countQ
  refine ⟨F, C, ?_, tq.rfl⟩
  by_cases c0 : 0 ≤ w ∧ w ≤ 2
  · simp (disch := omega) only [if_true, if_false, not_true_eq_false, not_false_eq_true, zoI_s, zoR_s, zoH_s, zoL_s, zbI_s, zbV_s, zbR_s, zbL_s, zif_dec, i32_0, ne_eq, i32_lt, i32_le, i32_eq, i32_add, i32_mul, i32_sub, i32_neg, zrz_0, zrz_1, zif_t, zif_f, zsF_s, zsF_k, zsF_a, zsC_s, zsC_a, zsC_i, zsW_s, zsW_a, Int.add_zero, Int.zero_add, true_and, false_and, and_false, Bool.false_eq_true, decide_true, decide_false, Bool.true_and, Bool.false_and, Bool.true_or, Bool.false_or, sub1, and_true, if_pos, if_neg, wv_72 S, wr_768 S, wr_769 S, wr_777 S, wr_785 S, wr_786 S, wr_787 S, wr_789 S, wr_790 S, wr_791 S, wr_802 S, wr_803 S, wr_804 S, wr_805 S, wr_806 S, wr_807 S, wr_809 S, wg_770 S, wp_770 S, wg_771 S, wp_771 S, wg_772 S, wp_772 S, wg_773 S, wp_773 S, wg_774 S, wp_774 S, wg_775 S, wp_775 S, wg_776 S, wp_776 S, wg_778 S, wp_778 S, wg_779 S, wp_779 S, wg_780 S, wp_780 S, wg_781 S, wp_781 S, wg_782 S, wp_782 S, wg_783 S, wp_783 S, wg_784 S, wp_784 S, wg_788 S, wp_788 S, wg_792 S, wp_792 S, wg_793 S, wp_793 S, wg_794 S, wp_794 S, wg_795 S, wp_795 S, wg_796 S, wp_796 S, wg_797 S, wp_797 S, wg_798 S, wp_798 S, wg_799 S, wp_799 S, wg_800 S, wp_800 S, wg_801 S, wp_801 S, wg_808 S, wp_808 S, wg_810 S, wp_810 S, wa_73 S, ws_73 S, e_Model_count, m_isIn, ib_0]
  · simp (disch := omega) only [if_true, if_false, not_true_eq_false, not_false_eq_true, zoI_s, zoR_s, zoH_s, zoL_s, zbI_s, zbV_s, zbR_s, zbL_s, zif_dec, i32_0, ne_eq, i32_lt, i32_le, i32_eq, i32_add, i32_mul, i32_sub, i32_neg, zrz_0, zrz_1, zif_t, zif_f, zsF_s, zsF_k, zsF_a, zsC_s, zsC_a, zsC_i, zsW_s, zsW_a, Int.add_zero, Int.zero_add, true_and, false_and, and_false, Bool.false_eq_true, decide_true, decide_false, Bool.true_and, Bool.false_and, Bool.true_or, Bool.false_or, sub1, and_true, if_pos, if_neg, wv_72 S, wr_768 S, wr_769 S, wr_777 S, wr_785 S, wr_786 S, wr_787 S, wr_789 S, wr_790 S, wr_791 S, wr_802 S, wr_803 S, wr_804 S, wr_805 S, wr_806 S, wr_807 S, wr_809 S, wg_770 S, wp_770 S, wg_771 S, wp_771 S, wg_772 S, wp_772 S, wg_773 S, wp_773 S, wg_774 S, wp_774 S, wg_775 S, wp_775 S, wg_776 S, wp_776 S, wg_778 S, wp_778 S, wg_779 S, wp_779 S, wg_780 S, wp_780 S, wg_781 S, wp_781 S, wg_782 S, wp_782 S, wg_783 S, wp_783 S, wg_784 S, wp_784 S, wg_788 S, wp_788 S, wg_792 S, wp_792 S, wg_793 S, wp_793 S, wg_794 S, wp_794 S, wg_795 S, wp_795 S, wg_796 S, wp_796 S, wg_797 S, wp_797 S, wg_798 S, wp_798 S, wg_799 S, wp_799 S, wg_800 S, wp_800 S, wg_801 S, wp_801 S, wg_808 S, wp_808 S, wg_810 S, wp_810 S, e_Model_count, m_isIn, ib_0]
def detS (D : Int → Int) (w : Int) : Int := if w < 0 then -1 else if w / 10 = 0 then (if w % 10 < 4 then D (w % 10) else -1) else if w / 10 = 1 then (if w % 10 < D 0 then D (4 + 2 * (w % 10)) else -1) else if w / 10 = 2 then (if w % 10 < D 0 then D (5 + 2 * (w % 10)) else -1) else if w / 10 = 3 then (if w % 10 < D 1 then D (16 + w % 10) else -1) else if w / 10 = 4 then (if w % 10 < D 2 then D (20 + 2 * (w % 10)) else -1) else if w / 10 = 5 then (if w % 10 < D 2 then D (21 + 2 * (w % 10)) else -1) else if w / 10 = 6 then (if w % 10 < 8 then D (36 + w % 10) else -1) else -1
theorem s00 : decide (i32 0 = i32 0) = true := by decide
theorem s01 : decide (i32 0 = i32 1) = false := by decide
theorem s02 : decide (i32 0 = i32 2) = false := by decide
theorem s03 : decide (i32 0 = i32 3) = false := by decide
theorem s04 : decide (i32 0 = i32 4) = false := by decide
theorem s05 : decide (i32 0 = i32 5) = false := by decide
theorem s06 : decide (i32 0 = i32 6) = false := by decide
theorem s10 : decide (i32 1 = i32 0) = false := by decide
theorem s11 : decide (i32 1 = i32 1) = true := by decide
theorem s12 : decide (i32 1 = i32 2) = false := by decide
theorem s13 : decide (i32 1 = i32 3) = false := by decide
theorem s14 : decide (i32 1 = i32 4) = false := by decide
theorem s15 : decide (i32 1 = i32 5) = false := by decide
theorem s16 : decide (i32 1 = i32 6) = false := by decide
theorem s20 : decide (i32 2 = i32 0) = false := by decide
theorem s21 : decide (i32 2 = i32 1) = false := by decide
theorem s22 : decide (i32 2 = i32 2) = true := by decide
theorem s23 : decide (i32 2 = i32 3) = false := by decide
theorem s24 : decide (i32 2 = i32 4) = false := by decide
theorem s25 : decide (i32 2 = i32 5) = false := by decide
theorem s26 : decide (i32 2 = i32 6) = false := by decide
theorem s30 : decide (i32 3 = i32 0) = false := by decide
theorem s31 : decide (i32 3 = i32 1) = false := by decide
theorem s32 : decide (i32 3 = i32 2) = false := by decide
theorem s33 : decide (i32 3 = i32 3) = true := by decide
theorem s34 : decide (i32 3 = i32 4) = false := by decide
theorem s35 : decide (i32 3 = i32 5) = false := by decide
theorem s36 : decide (i32 3 = i32 6) = false := by decide
theorem s40 : decide (i32 4 = i32 0) = false := by decide
theorem s41 : decide (i32 4 = i32 1) = false := by decide
theorem s42 : decide (i32 4 = i32 2) = false := by decide
theorem s43 : decide (i32 4 = i32 3) = false := by decide
theorem s44 : decide (i32 4 = i32 4) = true := by decide
theorem s45 : decide (i32 4 = i32 5) = false := by decide
theorem s46 : decide (i32 4 = i32 6) = false := by decide
theorem s50 : decide (i32 5 = i32 0) = false := by decide
theorem s51 : decide (i32 5 = i32 1) = false := by decide
theorem s52 : decide (i32 5 = i32 2) = false := by decide
theorem s53 : decide (i32 5 = i32 3) = false := by decide
theorem s54 : decide (i32 5 = i32 4) = false := by decide
theorem s55 : decide (i32 5 = i32 5) = true := by decide
theorem s56 : decide (i32 5 = i32 6) = false := by decide
theorem s60 : decide (i32 6 = i32 0) = false := by decide
theorem s61 : decide (i32 6 = i32 1) = false := by decide
theorem s62 : decide (i32 6 = i32 2) = false := by decide
theorem s63 : decide (i32 6 = i32 3) = false := by decide
theorem s64 : decide (i32 6 = i32 4) = false := by decide
theorem s65 : decide (i32 6 = i32 5) = false := by decide
theorem s66 : decide (i32 6 = i32 6) = true := by decide
theorem if10 (x : Int32) : (if i32 10 = 0 then none else some x) = some x := if_neg (by decide)
section T2
variable {h : zHeap} {F : Nat → Nat → Int} {C : Nat → Int → Int} {a : Nat} {D : Int → Int}
theorem c_headD (H : duS h a) (V : duV F C a D) {i : Int} (i0 : 0 ≤ i) (i1 : i < 10) : zc 45 [zR (some a), zI (i32 i)] (zw h F C) = some (zI (i32 (if i < 4 then D i else -1)), zw h F C) := by
  rw [e_Duchy_headline]
  rcases (show i = 0 ∨ i = 1 ∨ i = 2 ∨ i = 3 ∨ 4 ≤ i by omega) with rfl | rfl | rfl | rfl | c
  · simp (disch := omega) only [if_true, if_false, not_true_eq_false, not_false_eq_true, zoI_s, zoR_s, zoH_s, zoL_s, zbI_s, zbV_s, zbR_s, zbL_s, zif_dec, i32_0, ne_eq, i32_lt, i32_le, i32_eq, i32_add, i32_mul, i32_sub, i32_neg, zrz_0, zrz_1, zif_t, zif_f, zsF_s, zsF_k, zsF_a, zsC_s, zsC_a, zsC_i, zsW_s, zsW_a, Int.add_zero, Int.zero_add, true_and, false_and, and_false, Bool.false_eq_true, decide_true, decide_false, Bool.true_and, Bool.false_and, Bool.true_or, Bool.false_or, sub1, and_true, if_pos, if_neg, dv H, dg_128 H, dp_128 H, dg_129 H, dp_129 H, dg_130 H, dp_130 H, dg_131 H, dp_131 H, dr_132 H, da_132 H, dr_133 H, da_133 H, dr_134 H, da_134 H, dr_135 H, da_135 H, dr_136 H, da_136 H, dr_137 H, da_137 H, V.1.1]
  · simp (disch := omega) only [if_true, if_false, not_true_eq_false, not_false_eq_true, zoI_s, zoR_s, zoH_s, zoL_s, zbI_s, zbV_s, zbR_s, zbL_s, zif_dec, i32_0, ne_eq, i32_lt, i32_le, i32_eq, i32_add, i32_mul, i32_sub, i32_neg, zrz_0, zrz_1, zif_t, zif_f, zsF_s, zsF_k, zsF_a, zsC_s, zsC_a, zsC_i, zsW_s, zsW_a, Int.add_zero, Int.zero_add, true_and, false_and, and_false, Bool.false_eq_true, decide_true, decide_false, Bool.true_and, Bool.false_and, Bool.true_or, Bool.false_or, sub1, and_true, if_pos, if_neg, dv H, dg_128 H, dp_128 H, dg_129 H, dp_129 H, dg_130 H, dp_130 H, dg_131 H, dp_131 H, dr_132 H, da_132 H, dr_133 H, da_133 H, dr_134 H, da_134 H, dr_135 H, da_135 H, dr_136 H, da_136 H, dr_137 H, da_137 H, V.1.2.1]
  · simp (disch := omega) only [if_true, if_false, not_true_eq_false, not_false_eq_true, zoI_s, zoR_s, zoH_s, zoL_s, zbI_s, zbV_s, zbR_s, zbL_s, zif_dec, i32_0, ne_eq, i32_lt, i32_le, i32_eq, i32_add, i32_mul, i32_sub, i32_neg, zrz_0, zrz_1, zif_t, zif_f, zsF_s, zsF_k, zsF_a, zsC_s, zsC_a, zsC_i, zsW_s, zsW_a, Int.add_zero, Int.zero_add, true_and, false_and, and_false, Bool.false_eq_true, decide_true, decide_false, Bool.true_and, Bool.false_and, Bool.true_or, Bool.false_or, sub1, and_true, if_pos, if_neg, dv H, dg_128 H, dp_128 H, dg_129 H, dp_129 H, dg_130 H, dp_130 H, dg_131 H, dp_131 H, dr_132 H, da_132 H, dr_133 H, da_133 H, dr_134 H, da_134 H, dr_135 H, da_135 H, dr_136 H, da_136 H, dr_137 H, da_137 H, V.1.2.2.1]
  · simp (disch := omega) only [if_true, if_false, not_true_eq_false, not_false_eq_true, zoI_s, zoR_s, zoH_s, zoL_s, zbI_s, zbV_s, zbR_s, zbL_s, zif_dec, i32_0, ne_eq, i32_lt, i32_le, i32_eq, i32_add, i32_mul, i32_sub, i32_neg, zrz_0, zrz_1, zif_t, zif_f, zsF_s, zsF_k, zsF_a, zsC_s, zsC_a, zsC_i, zsW_s, zsW_a, Int.add_zero, Int.zero_add, true_and, false_and, and_false, Bool.false_eq_true, decide_true, decide_false, Bool.true_and, Bool.false_and, Bool.true_or, Bool.false_or, sub1, and_true, if_pos, if_neg, dv H, dg_128 H, dp_128 H, dg_129 H, dp_129 H, dg_130 H, dp_130 H, dg_131 H, dp_131 H, dr_132 H, da_132 H, dr_133 H, da_133 H, dr_134 H, da_134 H, dr_135 H, da_135 H, dr_136 H, da_136 H, dr_137 H, da_137 H, V.1.2.2.2]
  · simp (disch := omega) only [if_true, if_false, not_true_eq_false, not_false_eq_true, zoI_s, zoR_s, zoH_s, zoL_s, zbI_s, zbV_s, zbR_s, zbL_s, zif_dec, i32_0, ne_eq, i32_lt, i32_le, i32_eq, i32_add, i32_mul, i32_sub, i32_neg, zrz_0, zrz_1, zif_t, zif_f, zsF_s, zsF_k, zsF_a, zsC_s, zsC_a, zsC_i, zsW_s, zsW_a, Int.add_zero, Int.zero_add, true_and, false_and, and_false, Bool.false_eq_true, decide_true, decide_false, Bool.true_and, Bool.false_and, Bool.true_or, Bool.false_or, sub1, and_true, if_pos, if_neg]
theorem c_detD (H : duS h a) (V : duV F C a D) (O : dOK D) {w : Int} (h1 : -2147483648 ≤ w) (h2 : w < 2147483648) : zc 44 [zR (some a), zI (i32 w)] (zw h F C) = some (zI (i32 (detS D w)), zw h F C) := by
  have b0 := O.1
  have b1 := O.2.1
  have b2 := O.2.2.1
  unfold detS
  by_cases c : w < 0
  · have dc : decide (0 ≤ i32 w) = false := dF (by rw [i32_0, i32_le (by omega) (by omega) (by omega) (by omega)]; omega)
    rw [if_pos c]
    simp only [zoI_s, zoR_s, zoH_s, zoL_s, zbI_s, zbV_s, zbR_s, zbL_s, zif_t, zif_f, zrz_0, zrz_1, decide_true, decide_false, e_Duchy_detail, dc]
  · have dc : decide (0 ≤ i32 w) = true := dT (by rw [i32_0, i32_le (by omega) (by omega) (by omega) (by omega)]; omega)
    have rm := i32_rem (a := w) (b := 10) (by omega) (by omega) (by omega) (by omega)
    have dv0 := i32_div (a := w) (b := 10) (by omega) (by omega) (by omega) (by omega)
    have m0 : 0 ≤ w % 10 ∧ w % 10 < 10 := by omega
    rw [if_neg c]
    by_cases c0 : w / 10 = 0
    · have e := c_headD (F := F) (C := C) H V m0.1 m0.2
      rw [if_pos c0]
      simp only [zoI_s, zoR_s, zoH_s, zoL_s, zbI_s, zbV_s, zbR_s, zbL_s, zif_t, zif_f, zrz_0, zrz_1, decide_true, decide_false, e_Duchy_detail, dc, if10, rm, dv0, c0, s00, dv H, e]
    · rw [if_neg c0]
      by_cases c1 : w / 10 = 1
      · rw [if_pos c1]
        have e1 := c_hasReed (F := F) (C := C) H V O (x := w % 10) (by omega) (by omega)
        by_cases d : w % 10 < D 0
        · have e := V.2.1 (w % 10) (by omega) d
          have e2 := da_132 (F := F) (C := C) H (i := w % 10) (by omega) (by omega)
          rw [if_pos ⟨m0.1, d⟩] at e1
          rw [if_pos d, ← e]
          simp only [zoI_s, zoR_s, zoH_s, zoL_s, zbI_s, zbV_s, zbR_s, zbL_s, zif_t, zif_f, zrz_0, zrz_1, decide_true, decide_false, e_Duchy_detail, dc, if10, rm, dv0, c1, s10, s11, dv H, e1, d10, dr_132 H, e2]
        · rw [if_neg (fun z => d z.2)] at e1
          rw [if_neg d]
          simp only [zoI_s, zoR_s, zoH_s, zoL_s, zbI_s, zbV_s, zbR_s, zbL_s, zif_t, zif_f, zrz_0, zrz_1, decide_true, decide_false, e_Duchy_detail, dc, if10, rm, dv0, c1, s10, s11, dv H, e1, d0eq]
      · rw [if_neg c1]
        by_cases c2 : w / 10 = 2
        · rw [if_pos c2]
          have e1 := c_hasReed (F := F) (C := C) H V O (x := w % 10) (by omega) (by omega)
          by_cases d : w % 10 < D 0
          · have e := V.2.2.1 (w % 10) (by omega) d
            have e2 := da_133 (F := F) (C := C) H (i := w % 10) (by omega) (by omega)
            rw [if_pos ⟨m0.1, d⟩] at e1
            rw [if_pos d, ← e]
            simp only [zoI_s, zoR_s, zoH_s, zoL_s, zbI_s, zbV_s, zbR_s, zbL_s, zif_t, zif_f, zrz_0, zrz_1, decide_true, decide_false, e_Duchy_detail, dc, if10, rm, dv0, c2, s20, s21, s22, dv H, e1, d10, dr_133 H, e2]
          · rw [if_neg (fun z => d z.2)] at e1
            rw [if_neg d]
            simp only [zoI_s, zoR_s, zoH_s, zoL_s, zbI_s, zbV_s, zbR_s, zbL_s, zif_t, zif_f, zrz_0, zrz_1, decide_true, decide_false, e_Duchy_detail, dc, if10, rm, dv0, c2, s20, s21, s22, dv H, e1, d0eq]
        · rw [if_neg c2]
          by_cases c3 : w / 10 = 3
          · rw [if_pos c3]
            have e1 := c_hasPlayer (F := F) (C := C) H V O (x := w % 10) (by omega) (by omega)
            by_cases d : w % 10 < D 1
            · have e := V.2.2.2.1 (w % 10) (by omega) d
              have e2 := da_134 (F := F) (C := C) H (i := w % 10) (by omega) (by omega)
              rw [if_pos ⟨m0.1, d⟩] at e1
              rw [if_pos d, ← e]
              simp only [zoI_s, zoR_s, zoH_s, zoL_s, zbI_s, zbV_s, zbR_s, zbL_s, zif_t, zif_f, zrz_0, zrz_1, decide_true, decide_false, e_Duchy_detail, dc, if10, rm, dv0, c3, s30, s31, s32, s33, dv H, e1, d10, dr_134 H, e2]
            · rw [if_neg (fun z => d z.2)] at e1
              rw [if_neg d]
              simp only [zoI_s, zoR_s, zoH_s, zoL_s, zbI_s, zbV_s, zbR_s, zbL_s, zif_t, zif_f, zrz_0, zrz_1, decide_true, decide_false, e_Duchy_detail, dc, if10, rm, dv0, c3, s30, s31, s32, s33, dv H, e1, d0eq]
          · rw [if_neg c3]
            by_cases c4 : w / 10 = 4
            · rw [if_pos c4]
              have e1 := c_hasQuestion (F := F) (C := C) H V O (x := w % 10) (by omega) (by omega)
              by_cases d : w % 10 < D 2
              · have e := V.2.2.2.2.1 (w % 10) (by omega) d
                have e2 := da_135 (F := F) (C := C) H (i := w % 10) (by omega) (by omega)
                rw [if_pos ⟨m0.1, d⟩] at e1
                rw [if_pos d, ← e]
                simp only [zoI_s, zoR_s, zoH_s, zoL_s, zbI_s, zbV_s, zbR_s, zbL_s, zif_t, zif_f, zrz_0, zrz_1, decide_true, decide_false, e_Duchy_detail, dc, if10, rm, dv0, c4, s40, s41, s42, s43, s44, dv H, e1, d10, dr_135 H, e2]
              · rw [if_neg (fun z => d z.2)] at e1
                rw [if_neg d]
                simp only [zoI_s, zoR_s, zoH_s, zoL_s, zbI_s, zbV_s, zbR_s, zbL_s, zif_t, zif_f, zrz_0, zrz_1, decide_true, decide_false, e_Duchy_detail, dc, if10, rm, dv0, c4, s40, s41, s42, s43, s44, dv H, e1, d0eq]
            · rw [if_neg c4]
              by_cases c5 : w / 10 = 5
              · rw [if_pos c5]
                have e1 := c_hasQuestion (F := F) (C := C) H V O (x := w % 10) (by omega) (by omega)
                by_cases d : w % 10 < D 2
                · have e := V.2.2.2.2.2.1 (w % 10) (by omega) d
                  have e2 := da_136 (F := F) (C := C) H (i := w % 10) (by omega) (by omega)
                  rw [if_pos ⟨m0.1, d⟩] at e1
                  rw [if_pos d, ← e]
                  simp only [zoI_s, zoR_s, zoH_s, zoL_s, zbI_s, zbV_s, zbR_s, zbL_s, zif_t, zif_f, zrz_0, zrz_1, decide_true, decide_false, e_Duchy_detail, dc, if10, rm, dv0, c5, s50, s51, s52, s53, s54, s55, dv H, e1, d10, dr_136 H, e2]
                · rw [if_neg (fun z => d z.2)] at e1
                  rw [if_neg d]
                  simp only [zoI_s, zoR_s, zoH_s, zoL_s, zbI_s, zbV_s, zbR_s, zbL_s, zif_t, zif_f, zrz_0, zrz_1, decide_true, decide_false, e_Duchy_detail, dc, if10, rm, dv0, c5, s50, s51, s52, s53, s54, s55, dv H, e1, d0eq]
              · rw [if_neg c5]
                by_cases c6 : w / 10 = 6
                · rw [if_pos c6]
                  by_cases d : w % 10 < 8
                  · have e := V.2.2.2.2.2.2 (w % 10) (by omega) d
                    have e2 := da_137 (F := F) (C := C) H (i := w % 10) (by omega) (by omega)
                    have d8 : decide (i32 8 ≤ i32 (w % 10)) = false := dF (by rw [i32_le (by omega) (by omega) (by omega) (by omega)]; omega)
                    rw [if_pos d, ← e]
                    simp only [zoI_s, zoR_s, zoH_s, zoL_s, zbI_s, zbV_s, zbR_s, zbL_s, zif_t, zif_f, zrz_0, zrz_1, decide_true, decide_false, e_Duchy_detail, dc, if10, rm, dv0, c6, s60, s61, s62, s63, s64, s65, s66, d8, dr_137 H, e2]
                  · have d8 : decide (i32 8 ≤ i32 (w % 10)) = true := dT (by rw [i32_le (by omega) (by omega) (by omega) (by omega)]; omega)
                    rw [if_neg d]
                    simp only [zoI_s, zoR_s, zoH_s, zoL_s, zbI_s, zbV_s, zbR_s, zbL_s, zif_t, zif_f, zrz_0, zrz_1, decide_true, decide_false, e_Duchy_detail, dc, if10, rm, dv0, c6, s60, s61, s62, s63, s64, s65, s66, d8]
                · rw [if_neg c6]
                  have q0 : decide (i32 (w / 10) = i32 0) = false := dF (by rw [i32_eq (by omega) (by omega) (by omega) (by omega)]; omega)
                  have q1 : decide (i32 (w / 10) = i32 1) = false := dF (by rw [i32_eq (by omega) (by omega) (by omega) (by omega)]; omega)
                  have q2 : decide (i32 (w / 10) = i32 2) = false := dF (by rw [i32_eq (by omega) (by omega) (by omega) (by omega)]; omega)
                  have q3 : decide (i32 (w / 10) = i32 3) = false := dF (by rw [i32_eq (by omega) (by omega) (by omega) (by omega)]; omega)
                  have q4 : decide (i32 (w / 10) = i32 4) = false := dF (by rw [i32_eq (by omega) (by omega) (by omega) (by omega)]; omega)
                  have q5 : decide (i32 (w / 10) = i32 5) = false := dF (by rw [i32_eq (by omega) (by omega) (by omega) (by omega)]; omega)
                  have q6 : decide (i32 (w / 10) = i32 6) = false := dF (by rw [i32_eq (by omega) (by omega) (by omega) (by omega)]; omega)
                  simp only [zoI_s, zoR_s, zoH_s, zoL_s, zbI_s, zbV_s, zbR_s, zbL_s, zif_t, zif_f, zrz_0, zrz_1, decide_true, decide_false, e_Duchy_detail, dc, if10, rm, dv0, q0, q1, q2, q3, q4, q5, q6]
end T2
theorem i32_divn {w : Int} (h1 : -2147483648 ≤ w) (h2 : w < 0) : ∃ z, (-2147483648 ≤ z ∧ z ≤ 0) ∧ i32 w / i32 10 = i32 z := by
  have e : w.tdiv 10 = -((-w) / 10) := by
    have h3 := Int.neg_tdiv (-w) 10
    rw [Int.neg_neg] at h3
    rw [h3, Int.tdiv_eq_ediv_of_nonneg (by omega)]
  refine ⟨-((-w) / 10), ⟨by omega, by omega⟩, ?_⟩
  rw [← Int32.toInt_inj, Int32.toInt_div, i32_int h1 (by omega), i32_int (by omega) (by omega), e, i32_int (by omega) (by omega), Int.bmod_eq_of_le (by omega) (by omega)]
def duchyQ (A : Int → Int) (d w : Int) : Int := if 0 ≤ d ∧ d < A 0 then detS (dOf A d) w else -1
theorem c_duchyQ {d w : Int} (hd : inI d) (hw : inI w) : ans1 154 0 [zI (i32 d), zI (i32 w)] (fun A => zI (i32 (duchyQ A d w))) := by
  intro h F C Q
  have S := Q.1
  unfold inI at hd hw
  unfold duchyQ
  refine ⟨F, C, ?_, tq.rfl⟩
  by_cases c1 : 0 ≤ d ∧ d < C 73 0
  · have H := Q.dS c1.1 c1.2
    have V := Q.dV c1.1 c1.2
    have O := Q.dO c1.1 c1.2
    simp (disch := omega) only [if_true, if_false, not_true_eq_false, not_false_eq_true, zoI_s, zoR_s, zoH_s, zoL_s, zbI_s, zbV_s, zbR_s, zbL_s, zif_dec, i32_0, ne_eq, i32_lt, i32_le, i32_eq, i32_add, i32_mul, i32_sub, i32_neg, zrz_0, zrz_1, zif_t, zif_f, zsF_s, zsF_k, zsF_a, zsC_s, zsC_a, zsC_i, zsW_s, zsW_a, Int.add_zero, Int.zero_add, true_and, false_and, and_false, Bool.false_eq_true, decide_true, decide_false, Bool.true_and, Bool.false_and, Bool.true_or, Bool.false_or, sub1, and_true, if_pos, if_neg, wv_0 S, wr_704 S, wr_705 S, wr_706 S, wr_707 S, wr_708 S, wr_709 S, wr_710 S, wr_711 S, wv_68 S, wr_384 S, wr_385 S, wr_386 S, tv_1 S, dv H, dg_128 H, dp_128 H, dg_129 H, dp_129 H, dg_130 H, dp_130 H, dg_131 H, dp_131 H, dr_132 H, da_132 H, dr_133 H, da_133 H, dr_134 H, da_134 H, dr_135 H, da_135 H, dr_136 H, da_136 H, dr_137 H, da_137 H, c_dAt Q, Option.isNone_some, Option.isSome_some, c_hasReed H V O, c_hasPlayer H V O, c_hasQuestion H V O, c_hasAll H V O, c_isAnswer, c_within, ib_0, e_Main_duchy, c_detD H V O]
  · simp (disch := omega) only [if_true, if_false, not_true_eq_false, not_false_eq_true, zoI_s, zoR_s, zoH_s, zoL_s, zbI_s, zbV_s, zbR_s, zbL_s, zif_dec, i32_0, ne_eq, i32_lt, i32_le, i32_eq, i32_add, i32_mul, i32_sub, i32_neg, zrz_0, zrz_1, zif_t, zif_f, zsF_s, zsF_k, zsF_a, zsC_s, zsC_a, zsC_i, zsW_s, zsW_a, Int.add_zero, Int.zero_add, true_and, false_and, and_false, Bool.false_eq_true, decide_true, decide_false, Bool.true_and, Bool.false_and, Bool.true_or, Bool.false_or, sub1, and_true, if_pos, if_neg, wv_0 S, wr_704 S, wr_705 S, wr_706 S, wr_707 S, wr_708 S, wr_709 S, wr_710 S, wr_711 S, tv_1 S, c_dAt0 Q, Option.isNone_none, Option.isSome_none, e_Main_duchy]
theorem m_duchyQ {d w : Int} (hd : inI d) (hw : inI w) : ans1 235 72 [zI (i32 d), zI (i32 w)] (fun A => zI (i32 (duchyQ A d w))) := by
  intro h F C Q
  have S := Q.1
  unfold inI at hd hw
  unfold duchyQ
  by_cases c1 : 0 ≤ d ∧ d < C 73 0
  · have M := miF_V Q c1.1 c1.2
    have O := Q.dO c1.1 c1.2
    have m := M.1
    have b0 := O.1
    have b1 := O.2.1
    have b2 := O.2.2.1
    refine ⟨_, C, ?_, miF_tq d⟩
    have ei := m_isD Q c1.1 c1.2
    dsimp only
    rw [if_pos c1]
    unfold detS
    have eI := m_isIn (h := zw h (miF F C d) C) (x := w) (a := 0) (b := 3) (by omega) (by omega) (by omega) (by omega) (by omega) (by omega)
    by_cases c : w < 0
    · obtain ⟨z, hz, ez⟩ := i32_divn (w := w) (by omega) c
      rw [if_neg (by omega)] at eI
      rw [if_pos c]
      have q1 : decide (i32 z = i32 1) = false := dF (by rw [i32_eq (by omega) (by omega) (by omega) (by omega)]; omega)
      have q2 : decide (i32 z = i32 2) = false := dF (by rw [i32_eq (by omega) (by omega) (by omega) (by omega)]; omega)
      have q3 : decide (i32 z = i32 3) = false := dF (by rw [i32_eq (by omega) (by omega) (by omega) (by omega)]; omega)
      have q4 : decide (i32 z = i32 4) = false := dF (by rw [i32_eq (by omega) (by omega) (by omega) (by omega)]; omega)
      have q5 : decide (i32 z = i32 5) = false := dF (by rw [i32_eq (by omega) (by omega) (by omega) (by omega)]; omega)
      have q6 : decide (i32 z = i32 6) = false := dF (by rw [i32_eq (by omega) (by omega) (by omega) (by omega)]; omega)
      simp only [zoI_s, zoR_s, zoH_s, zoL_s, zbI_s, zbV_s, zbR_s, zbL_s, zif_t, zif_f, zrz_0, zrz_1, decide_true, decide_false, e_Model_duchy, wv_72 S, ei, d1ne, eI, d0eq, if10, ez, q1, q2, q3, q4, q5, q6]
    · rw [if_neg c]
      have rm := i32_rem (a := w) (b := 10) (by omega) (by omega) (by omega) (by omega)
      have dv0 := i32_div (a := w) (b := 10) (by omega) (by omega) (by omega) (by omega)
      have m0 : 0 ≤ w % 10 ∧ w % 10 < 10 := by omega
      have mm : 0 ≤ miF F C d 778 72 ∧ miF F C d 778 72 ≤ 1000 := m
      by_cases ci : w ≤ 3
      · have e := M.2.2 w (by omega) (by omega)
        rw [if_pos (by omega)] at eI
        rw [if_pos (show w / 10 = 0 by omega), if_pos (show w % 10 < 4 by omega), show w % 10 = w by omega]
        have e2 := wa_73 (F := miF F C d) (C := C) S (i := miF F C d 778 72 + w) (by omega) (by omega)
        simp only [zoI_s, zoR_s, zoH_s, zoL_s, zbI_s, zbV_s, zbR_s, zbL_s, zif_t, zif_f, zrz_0, zrz_1, decide_true, decide_false, e_Model_duchy, wv_72 S, ei, d1ne, eI, d10, wr_768 S, wg_778 S, i32_add, e2, e]
      · rw [if_neg (by omega)] at eI
        by_cases c0 : w / 10 = 0
        · rw [if_pos c0, if_neg (show ¬ (w % 10 < 4) by omega)]
          simp only [zoI_s, zoR_s, zoH_s, zoL_s, zbI_s, zbV_s, zbR_s, zbL_s, zif_t, zif_f, zrz_0, zrz_1, decide_true, decide_false, e_Model_duchy, wv_72 S, ei, d1ne, eI, d0eq, if10, rm, dv0, c0, s01, s02, s03, s04, s05, s06]
        · rw [if_neg c0]
          by_cases c1 : w / 10 = 1
          · rw [if_pos c1]
            have e1 := m_isReed S M O (x := w % 10) (by omega) (by omega)
            by_cases dd : w % 10 < dOf (C 73) d 0
            · have e2 := m_wetOf S M O (by omega) dd
              rw [if_pos ⟨m0.1, by omega⟩] at e1
              rw [if_pos dd]
              simp only [zoI_s, zoR_s, zoH_s, zoL_s, zbI_s, zbV_s, zbR_s, zbL_s, zif_t, zif_f, zrz_0, zrz_1, decide_true, decide_false, e_Model_duchy, wv_72 S, ei, d1ne, eI, d0eq, if10, rm, dv0, c1, s11, e1, d10, e2]
            · rw [if_neg (fun z => dd (by omega))] at e1
              rw [if_neg dd]
              simp only [zoI_s, zoR_s, zoH_s, zoL_s, zbI_s, zbV_s, zbR_s, zbL_s, zif_t, zif_f, zrz_0, zrz_1, decide_true, decide_false, e_Model_duchy, wv_72 S, ei, d1ne, eI, d0eq, if10, rm, dv0, c1, s11, e1]
          · rw [if_neg c1]
            by_cases c2 : w / 10 = 2
            · rw [if_pos c2]
              have e1 := m_isReed S M O (x := w % 10) (by omega) (by omega)
              by_cases dd : w % 10 < dOf (C 73) d 0
              · have e2 := m_keyOf S M O (by omega) dd
                rw [if_pos ⟨m0.1, by omega⟩] at e1
                rw [if_pos dd]
                simp only [zoI_s, zoR_s, zoH_s, zoL_s, zbI_s, zbV_s, zbR_s, zbL_s, zif_t, zif_f, zrz_0, zrz_1, decide_true, decide_false, e_Model_duchy, wv_72 S, ei, d1ne, eI, d0eq, if10, rm, dv0, c2, s21, s22, e1, d10, e2]
              · rw [if_neg (fun z => dd (by omega))] at e1
                rw [if_neg dd]
                simp only [zoI_s, zoR_s, zoH_s, zoL_s, zbI_s, zbV_s, zbR_s, zbL_s, zif_t, zif_f, zrz_0, zrz_1, decide_true, decide_false, e_Model_duchy, wv_72 S, ei, d1ne, eI, d0eq, if10, rm, dv0, c2, s21, s22, e1]
            · rw [if_neg c2]
              by_cases c3 : w / 10 = 3
              · rw [if_pos c3]
                have e1 := m_isPlayer S M O (x := w % 10) (by omega) (by omega)
                by_cases dd : w % 10 < dOf (C 73) d 1
                · have e2 := m_breathOf S M O (by omega) dd
                  rw [if_pos ⟨m0.1, by omega⟩] at e1
                  rw [if_pos dd]
                  simp only [zoI_s, zoR_s, zoH_s, zoL_s, zbI_s, zbV_s, zbR_s, zbL_s, zif_t, zif_f, zrz_0, zrz_1, decide_true, decide_false, e_Model_duchy, wv_72 S, ei, d1ne, eI, d0eq, if10, rm, dv0, c3, s31, s32, s33, e1, d10, e2]
                · rw [if_neg (fun z => dd (by omega))] at e1
                  rw [if_neg dd]
                  simp only [zoI_s, zoR_s, zoH_s, zoL_s, zbI_s, zbV_s, zbR_s, zbL_s, zif_t, zif_f, zrz_0, zrz_1, decide_true, decide_false, e_Model_duchy, wv_72 S, ei, d1ne, eI, d0eq, if10, rm, dv0, c3, s31, s32, s33, e1]
              · rw [if_neg c3]
                by_cases c4 : w / 10 = 4
                · rw [if_pos c4]
                  have e1 := m_isQuestion S M O (x := w % 10) (by omega) (by omega)
                  by_cases dd : w % 10 < dOf (C 73) d 2
                  · have e2 := m_depthOf S M O (by omega) dd
                    rw [if_pos ⟨m0.1, by omega⟩] at e1
                    rw [if_pos dd]
                    simp only [zoI_s, zoR_s, zoH_s, zoL_s, zbI_s, zbV_s, zbR_s, zbL_s, zif_t, zif_f, zrz_0, zrz_1, decide_true, decide_false, e_Model_duchy, wv_72 S, ei, d1ne, eI, d0eq, if10, rm, dv0, c4, s41, s42, s43, s44, e1, d10, e2]
                  · rw [if_neg (fun z => dd (by omega))] at e1
                    rw [if_neg dd]
                    simp only [zoI_s, zoR_s, zoH_s, zoL_s, zbI_s, zbV_s, zbR_s, zbL_s, zif_t, zif_f, zrz_0, zrz_1, decide_true, decide_false, e_Model_duchy, wv_72 S, ei, d1ne, eI, d0eq, if10, rm, dv0, c4, s41, s42, s43, s44, e1]
                · rw [if_neg c4]
                  by_cases c5 : w / 10 = 5
                  · rw [if_pos c5]
                    have e1 := m_isQuestion S M O (x := w % 10) (by omega) (by omega)
                    by_cases dd : w % 10 < dOf (C 73) d 2
                    · have e2 := m_kindOf S M O (by omega) dd
                      rw [if_pos ⟨m0.1, by omega⟩] at e1
                      rw [if_pos dd]
                      simp only [zoI_s, zoR_s, zoH_s, zoL_s, zbI_s, zbV_s, zbR_s, zbL_s, zif_t, zif_f, zrz_0, zrz_1, decide_true, decide_false, e_Model_duchy, wv_72 S, ei, d1ne, eI, d0eq, if10, rm, dv0, c5, s51, s52, s53, s54, s55, e1, d10, e2]
                    · rw [if_neg (fun z => dd (by omega))] at e1
                      rw [if_neg dd]
                      simp only [zoI_s, zoR_s, zoH_s, zoL_s, zbI_s, zbV_s, zbR_s, zbL_s, zif_t, zif_f, zrz_0, zrz_1, decide_true, decide_false, e_Model_duchy, wv_72 S, ei, d1ne, eI, d0eq, if10, rm, dv0, c5, s51, s52, s53, s54, s55, e1]
                  · rw [if_neg c5]
                    by_cases c6 : w / 10 = 6
                    · rw [if_pos c6]
                      by_cases dd : w % 10 < 8
                      · have e := M.at (i := miF F C d 778 72 + 36 + w % 10) (j := 36 + w % 10) (by omega) (by omega) (by omega)
                        have e2 := wa_73 (F := miF F C d) (C := C) S (i := miF F C d 778 72 + 36 + w % 10) (by omega) (by omega)
                        have d8 : decide (i32 8 ≤ i32 (w % 10)) = false := dF (by rw [i32_le (by omega) (by omega) (by omega) (by omega)]; omega)
                        rw [if_pos dd]
                        simp only [zoI_s, zoR_s, zoH_s, zoL_s, zbI_s, zbV_s, zbR_s, zbL_s, zif_t, zif_f, zrz_0, zrz_1, decide_true, decide_false, e_Model_duchy, wv_72 S, ei, d1ne, eI, d0eq, if10, rm, dv0, c6, s61, s62, s63, s64, s65, s66, d8, wr_768 S, wg_778 S, i32_add, e2, e]
                      · have d8 : decide (i32 8 ≤ i32 (w % 10)) = true := dT (by rw [i32_le (by omega) (by omega) (by omega) (by omega)]; omega)
                        rw [if_neg dd]
                        simp only [zoI_s, zoR_s, zoH_s, zoL_s, zbI_s, zbV_s, zbR_s, zbL_s, zif_t, zif_f, zrz_0, zrz_1, decide_true, decide_false, e_Model_duchy, wv_72 S, ei, d1ne, eI, d0eq, if10, rm, dv0, c6, s61, s62, s63, s64, s65, s66, d8]
                    · rw [if_neg c6]
                      have q1 : decide (i32 (w / 10) = i32 1) = false := dF (by rw [i32_eq (by omega) (by omega) (by omega) (by omega)]; omega)
                      have q2 : decide (i32 (w / 10) = i32 2) = false := dF (by rw [i32_eq (by omega) (by omega) (by omega) (by omega)]; omega)
                      have q3 : decide (i32 (w / 10) = i32 3) = false := dF (by rw [i32_eq (by omega) (by omega) (by omega) (by omega)]; omega)
                      have q4 : decide (i32 (w / 10) = i32 4) = false := dF (by rw [i32_eq (by omega) (by omega) (by omega) (by omega)]; omega)
                      have q5 : decide (i32 (w / 10) = i32 5) = false := dF (by rw [i32_eq (by omega) (by omega) (by omega) (by omega)]; omega)
                      have q6 : decide (i32 (w / 10) = i32 6) = false := dF (by rw [i32_eq (by omega) (by omega) (by omega) (by omega)]; omega)
                      simp only [zoI_s, zoR_s, zoH_s, zoL_s, zbI_s, zbV_s, zbR_s, zbL_s, zif_t, zif_f, zrz_0, zrz_1, decide_true, decide_false, e_Model_duchy, wv_72 S, ei, d1ne, eI, d0eq, if10, rm, dv0, q1, q2, q3, q4, q5, q6]
  · refine ⟨F, C, ?_, tq.rfl⟩
    have e := m_isD0 Q (d := d) (by omega) (by omega) c1
    dsimp only
    rw [if_neg c1]
    simp only [zoI_s, zoR_s, zoH_s, zoL_s, zbI_s, zbV_s, zbR_s, zbL_s, zif_t, zif_f, zrz_0, zrz_1, decide_true, decide_false, e_Model_duchy, wv_72 S, e, d0ne]
def deedQ (A : Int → Int) (y k w : Int) : Int := if 0 ≤ y ∧ y < A 1 then (if k = -1 then (if w = 0 then yOf A y 0 else -2) else if (0 ≤ k ∧ k < yOf A y 0) ∧ (0 ≤ w ∧ w ≤ 5) then yOf A y (1 + w + 6 * k) else -2) else -2
theorem c_deedQ {y k w : Int} (hy : inI y) (hk : inI k) (hw : inI w) : ans1 156 0 [zI (i32 y), zI (i32 k), zI (i32 w)] (fun A => zI (i32 (deedQ A y k w))) := by
  intro h F C Q
  have S := Q.1
  unfold inI at hy hk hw
  unfold deedQ
  refine ⟨F, C, ?_, tq.rfl⟩
  by_cases c1 : 0 ≤ y ∧ y < C 73 1
  · have Hy := Q.yS c1.1 c1.2
    have Vy := Q.yV c1.1 c1.2
    have Oy := Q.yO c1.1 c1.2
    have b := Oy.1
    by_cases ck : k = -1
    · by_cases cw : w = 0
      · simp (disch := omega) only [if_true, if_false, not_true_eq_false, not_false_eq_true, zoI_s, zoR_s, zoH_s, zoL_s, zbI_s, zbV_s, zbR_s, zbL_s, zif_dec, i32_0, ne_eq, i32_lt, i32_le, i32_eq, i32_add, i32_mul, i32_sub, i32_neg, zrz_0, zrz_1, zif_t, zif_f, zsF_s, zsF_k, zsF_a, zsC_s, zsC_a, zsC_i, zsW_s, zsW_a, Int.add_zero, Int.zero_add, true_and, false_and, and_false, Bool.false_eq_true, decide_true, decide_false, Bool.true_and, Bool.false_and, Bool.true_or, Bool.false_or, sub1, and_true, if_pos, if_neg, wv_0 S, wr_704 S, wr_705 S, wr_706 S, wr_707 S, wr_708 S, wr_709 S, wr_710 S, wr_711 S, tv_1 S, c_yAt Q, Option.isNone_some, Option.isSome_some, e_Main_deed, yv Hy, yg_640 Hy, yr_641 Hy, ya_641 Hy, e_Year_detail, Vy.1, ck, cw]
      · simp (disch := omega) only [if_true, if_false, not_true_eq_false, not_false_eq_true, zoI_s, zoR_s, zoH_s, zoL_s, zbI_s, zbV_s, zbR_s, zbL_s, zif_dec, i32_0, ne_eq, i32_lt, i32_le, i32_eq, i32_add, i32_mul, i32_sub, i32_neg, zrz_0, zrz_1, zif_t, zif_f, zsF_s, zsF_k, zsF_a, zsC_s, zsC_a, zsC_i, zsW_s, zsW_a, Int.add_zero, Int.zero_add, true_and, false_and, and_false, Bool.false_eq_true, decide_true, decide_false, Bool.true_and, Bool.false_and, Bool.true_or, Bool.false_or, sub1, and_true, if_pos, if_neg, wv_0 S, wr_704 S, wr_705 S, wr_706 S, wr_707 S, wr_708 S, wr_709 S, wr_710 S, wr_711 S, tv_1 S, c_yAt Q, Option.isNone_some, Option.isSome_some, e_Main_deed, yv Hy, yg_640 Hy, yr_641 Hy, ya_641 Hy, e_Year_detail, Vy.1, ck]
    · by_cases c2 : 0 ≤ k ∧ k < yOf (C 73) y 0
      · by_cases c3 : 0 ≤ w ∧ w ≤ 5
        · have e := c_cell (F := F) (C := C) Hy Vy Oy (k := k) (w := w) (j := 1 + w + 6 * k) c2.1 c2.2 (by omega) (by omega) rfl
          simp (disch := omega) only [if_true, if_false, not_true_eq_false, not_false_eq_true, zoI_s, zoR_s, zoH_s, zoL_s, zbI_s, zbV_s, zbR_s, zbL_s, zif_dec, i32_0, ne_eq, i32_lt, i32_le, i32_eq, i32_add, i32_mul, i32_sub, i32_neg, zrz_0, zrz_1, zif_t, zif_f, zsF_s, zsF_k, zsF_a, zsC_s, zsC_a, zsC_i, zsW_s, zsW_a, Int.add_zero, Int.zero_add, true_and, false_and, and_false, Bool.false_eq_true, decide_true, decide_false, Bool.true_and, Bool.false_and, Bool.true_or, Bool.false_or, sub1, and_true, if_pos, if_neg, wv_0 S, wr_704 S, wr_705 S, wr_706 S, wr_707 S, wr_708 S, wr_709 S, wr_710 S, wr_711 S, tv_1 S, c_yAt Q, Option.isNone_some, Option.isSome_some, e_Main_deed, yv Hy, yg_640 Hy, e_Year_detail, Vy.1, e]
        · by_cases c4 : w < 0
          · simp (disch := omega) only [if_true, if_false, not_true_eq_false, not_false_eq_true, zoI_s, zoR_s, zoH_s, zoL_s, zbI_s, zbV_s, zbR_s, zbL_s, zif_dec, i32_0, ne_eq, i32_lt, i32_le, i32_eq, i32_add, i32_mul, i32_sub, i32_neg, zrz_0, zrz_1, zif_t, zif_f, zsF_s, zsF_k, zsF_a, zsC_s, zsC_a, zsC_i, zsW_s, zsW_a, Int.add_zero, Int.zero_add, true_and, false_and, and_false, Bool.false_eq_true, decide_true, decide_false, Bool.true_and, Bool.false_and, Bool.true_or, Bool.false_or, sub1, and_true, if_pos, if_neg, wv_0 S, wr_704 S, wr_705 S, wr_706 S, wr_707 S, wr_708 S, wr_709 S, wr_710 S, wr_711 S, tv_1 S, c_yAt Q, Option.isNone_some, Option.isSome_some, e_Main_deed, yv Hy, yg_640 Hy, yr_641 Hy, ya_641 Hy, e_Year_detail, Vy.1]
          · simp (disch := omega) only [if_true, if_false, not_true_eq_false, not_false_eq_true, zoI_s, zoR_s, zoH_s, zoL_s, zbI_s, zbV_s, zbR_s, zbL_s, zif_dec, i32_0, ne_eq, i32_lt, i32_le, i32_eq, i32_add, i32_mul, i32_sub, i32_neg, zrz_0, zrz_1, zif_t, zif_f, zsF_s, zsF_k, zsF_a, zsC_s, zsC_a, zsC_i, zsW_s, zsW_a, Int.add_zero, Int.zero_add, true_and, false_and, and_false, Bool.false_eq_true, decide_true, decide_false, Bool.true_and, Bool.false_and, Bool.true_or, Bool.false_or, sub1, and_true, if_pos, if_neg, wv_0 S, wr_704 S, wr_705 S, wr_706 S, wr_707 S, wr_708 S, wr_709 S, wr_710 S, wr_711 S, tv_1 S, c_yAt Q, Option.isNone_some, Option.isSome_some, e_Main_deed, yv Hy, yg_640 Hy, yr_641 Hy, ya_641 Hy, e_Year_detail, Vy.1]
      · by_cases c4 : k < 0
        · simp (disch := omega) only [if_true, if_false, not_true_eq_false, not_false_eq_true, zoI_s, zoR_s, zoH_s, zoL_s, zbI_s, zbV_s, zbR_s, zbL_s, zif_dec, i32_0, ne_eq, i32_lt, i32_le, i32_eq, i32_add, i32_mul, i32_sub, i32_neg, zrz_0, zrz_1, zif_t, zif_f, zsF_s, zsF_k, zsF_a, zsC_s, zsC_a, zsC_i, zsW_s, zsW_a, Int.add_zero, Int.zero_add, true_and, false_and, and_false, Bool.false_eq_true, decide_true, decide_false, Bool.true_and, Bool.false_and, Bool.true_or, Bool.false_or, sub1, and_true, if_pos, if_neg, wv_0 S, wr_704 S, wr_705 S, wr_706 S, wr_707 S, wr_708 S, wr_709 S, wr_710 S, wr_711 S, tv_1 S, c_yAt Q, Option.isNone_some, Option.isSome_some, e_Main_deed, yv Hy, yg_640 Hy, yr_641 Hy, ya_641 Hy, e_Year_detail, Vy.1]
        · simp (disch := omega) only [if_true, if_false, not_true_eq_false, not_false_eq_true, zoI_s, zoR_s, zoH_s, zoL_s, zbI_s, zbV_s, zbR_s, zbL_s, zif_dec, i32_0, ne_eq, i32_lt, i32_le, i32_eq, i32_add, i32_mul, i32_sub, i32_neg, zrz_0, zrz_1, zif_t, zif_f, zsF_s, zsF_k, zsF_a, zsC_s, zsC_a, zsC_i, zsW_s, zsW_a, Int.add_zero, Int.zero_add, true_and, false_and, and_false, Bool.false_eq_true, decide_true, decide_false, Bool.true_and, Bool.false_and, Bool.true_or, Bool.false_or, sub1, and_true, if_pos, if_neg, wv_0 S, wr_704 S, wr_705 S, wr_706 S, wr_707 S, wr_708 S, wr_709 S, wr_710 S, wr_711 S, tv_1 S, c_yAt Q, Option.isNone_some, Option.isSome_some, e_Main_deed, yv Hy, yg_640 Hy, yr_641 Hy, ya_641 Hy, e_Year_detail, Vy.1]
  · simp (disch := omega) only [if_true, if_false, not_true_eq_false, not_false_eq_true, zoI_s, zoR_s, zoH_s, zoL_s, zbI_s, zbV_s, zbR_s, zbL_s, zif_dec, i32_0, ne_eq, i32_lt, i32_le, i32_eq, i32_add, i32_mul, i32_sub, i32_neg, zrz_0, zrz_1, zif_t, zif_f, zsF_s, zsF_k, zsF_a, zsC_s, zsC_a, zsC_i, zsW_s, zsW_a, Int.add_zero, Int.zero_add, true_and, false_and, and_false, Bool.false_eq_true, decide_true, decide_false, Bool.true_and, Bool.false_and, Bool.true_or, Bool.false_or, sub1, and_true, if_pos, if_neg, wv_0 S, wr_704 S, wr_705 S, wr_706 S, wr_707 S, wr_708 S, wr_709 S, wr_710 S, wr_711 S, tv_1 S, c_yAt0 Q, Option.isNone_none, Option.isSome_none, e_Main_deed]
theorem m_deedQ {y k w : Int} (hy : inI y) (hk : inI k) (hw : inI w) : ans1 287 72 [zI (i32 y), zI (i32 k), zI (i32 w)] (fun A => zI (i32 (deedQ A y k w))) := by
  intro h F C Q
  have S := Q.1
  unfold inI at hy hk hw
  unfold deedQ
  by_cases c1 : 0 ≤ y ∧ y < C 73 1
  · have Oy := Q.yO c1.1 c1.2
    have b := Oy.1
    have o := Q.2.2.1
    refine ⟨_, C, ?_, tq.rfl.sF (k := 792) (a := 72) (x := 698 + 241 * y) (by omega) (by omega)⟩
    have e0 : C 73 (698 + 241 * y) = yOf (C 73) y 0 := by unfold yOf; rw [Int.add_zero]
    by_cases ck : k = -1
    · by_cases cw : w = 0
      · simp (disch := omega) only [if_true, if_false, not_true_eq_false, not_false_eq_true, zoI_s, zoR_s, zoH_s, zoL_s, zbI_s, zbV_s, zbR_s, zbL_s, zif_dec, i32_0, ne_eq, i32_lt, i32_le, i32_eq, i32_add, i32_mul, i32_sub, i32_neg, zrz_0, zrz_1, zif_t, zif_f, zsF_s, zsF_k, zsF_a, zsC_s, zsC_a, zsC_i, zsW_s, zsW_a, Int.add_zero, Int.zero_add, true_and, false_and, and_false, Bool.false_eq_true, decide_true, decide_false, Bool.true_and, Bool.false_and, Bool.true_or, Bool.false_or, sub1, and_true, if_pos, if_neg, wv_72 S, wr_768 S, wr_769 S, wr_777 S, wr_785 S, wr_786 S, wr_787 S, wr_789 S, wr_790 S, wr_791 S, wr_802 S, wr_803 S, wr_804 S, wr_805 S, wr_806 S, wr_807 S, wr_809 S, wg_770 S, wp_770 S, wg_771 S, wp_771 S, wg_772 S, wp_772 S, wg_773 S, wp_773 S, wg_774 S, wp_774 S, wg_775 S, wp_775 S, wg_776 S, wp_776 S, wg_778 S, wp_778 S, wg_779 S, wp_779 S, wg_780 S, wp_780 S, wg_781 S, wp_781 S, wg_782 S, wp_782 S, wg_783 S, wp_783 S, wg_784 S, wp_784 S, wg_788 S, wp_788 S, wg_792 S, wp_792 S, wg_793 S, wp_793 S, wg_794 S, wp_794 S, wg_795 S, wp_795 S, wg_796 S, wp_796 S, wg_797 S, wp_797 S, wg_798 S, wp_798 S, wg_799 S, wp_799 S, wg_800 S, wp_800 S, wg_801 S, wp_801 S, wg_808 S, wp_808 S, wg_810 S, wp_810 S, wa_73 S, ws_73 S, m_isY Q, e_Model_deed, e0, ck, cw]
      · simp (disch := omega) only [if_true, if_false, not_true_eq_false, not_false_eq_true, zoI_s, zoR_s, zoH_s, zoL_s, zbI_s, zbV_s, zbR_s, zbL_s, zif_dec, i32_0, ne_eq, i32_lt, i32_le, i32_eq, i32_add, i32_mul, i32_sub, i32_neg, zrz_0, zrz_1, zif_t, zif_f, zsF_s, zsF_k, zsF_a, zsC_s, zsC_a, zsC_i, zsW_s, zsW_a, Int.add_zero, Int.zero_add, true_and, false_and, and_false, Bool.false_eq_true, decide_true, decide_false, Bool.true_and, Bool.false_and, Bool.true_or, Bool.false_or, sub1, and_true, if_pos, if_neg, wv_72 S, wr_768 S, wr_769 S, wr_777 S, wr_785 S, wr_786 S, wr_787 S, wr_789 S, wr_790 S, wr_791 S, wr_802 S, wr_803 S, wr_804 S, wr_805 S, wr_806 S, wr_807 S, wr_809 S, wg_770 S, wp_770 S, wg_771 S, wp_771 S, wg_772 S, wp_772 S, wg_773 S, wp_773 S, wg_774 S, wp_774 S, wg_775 S, wp_775 S, wg_776 S, wp_776 S, wg_778 S, wp_778 S, wg_779 S, wp_779 S, wg_780 S, wp_780 S, wg_781 S, wp_781 S, wg_782 S, wp_782 S, wg_783 S, wp_783 S, wg_784 S, wp_784 S, wg_788 S, wp_788 S, wg_792 S, wp_792 S, wg_793 S, wp_793 S, wg_794 S, wp_794 S, wg_795 S, wp_795 S, wg_796 S, wp_796 S, wg_797 S, wp_797 S, wg_798 S, wp_798 S, wg_799 S, wp_799 S, wg_800 S, wp_800 S, wg_801 S, wp_801 S, wg_808 S, wp_808 S, wg_810 S, wp_810 S, wa_73 S, ws_73 S, m_isY Q, e_Model_deed, e0, ck]
    · by_cases c2 : 0 ≤ k ∧ k < yOf (C 73) y 0
      · by_cases c3 : 0 ≤ w ∧ w ≤ 5
        · have e : C 73 (698 + 241 * y + 1 + 6 * k + w) = yOf (C 73) y (1 + w + 6 * k) := by unfold yOf; congr 1; omega
          simp (disch := omega) only [if_true, if_false, not_true_eq_false, not_false_eq_true, zoI_s, zoR_s, zoH_s, zoL_s, zbI_s, zbV_s, zbR_s, zbL_s, zif_dec, i32_0, ne_eq, i32_lt, i32_le, i32_eq, i32_add, i32_mul, i32_sub, i32_neg, zrz_0, zrz_1, zif_t, zif_f, zsF_s, zsF_k, zsF_a, zsC_s, zsC_a, zsC_i, zsW_s, zsW_a, Int.add_zero, Int.zero_add, true_and, false_and, and_false, Bool.false_eq_true, decide_true, decide_false, Bool.true_and, Bool.false_and, Bool.true_or, Bool.false_or, sub1, and_true, if_pos, if_neg, wv_72 S, wr_768 S, wr_769 S, wr_777 S, wr_785 S, wr_786 S, wr_787 S, wr_789 S, wr_790 S, wr_791 S, wr_802 S, wr_803 S, wr_804 S, wr_805 S, wr_806 S, wr_807 S, wr_809 S, wg_770 S, wp_770 S, wg_771 S, wp_771 S, wg_772 S, wp_772 S, wg_773 S, wp_773 S, wg_774 S, wp_774 S, wg_775 S, wp_775 S, wg_776 S, wp_776 S, wg_778 S, wp_778 S, wg_779 S, wp_779 S, wg_780 S, wp_780 S, wg_781 S, wp_781 S, wg_782 S, wp_782 S, wg_783 S, wp_783 S, wg_784 S, wp_784 S, wg_788 S, wp_788 S, wg_792 S, wp_792 S, wg_793 S, wp_793 S, wg_794 S, wp_794 S, wg_795 S, wp_795 S, wg_796 S, wp_796 S, wg_797 S, wp_797 S, wg_798 S, wp_798 S, wg_799 S, wp_799 S, wg_800 S, wp_800 S, wg_801 S, wp_801 S, wg_808 S, wp_808 S, wg_810 S, wp_810 S, wa_73 S, ws_73 S, m_isY Q, e_Model_deed, e0, m_isIn, ib_0, e]
        · simp (disch := omega) only [if_true, if_false, not_true_eq_false, not_false_eq_true, zoI_s, zoR_s, zoH_s, zoL_s, zbI_s, zbV_s, zbR_s, zbL_s, zif_dec, i32_0, ne_eq, i32_lt, i32_le, i32_eq, i32_add, i32_mul, i32_sub, i32_neg, zrz_0, zrz_1, zif_t, zif_f, zsF_s, zsF_k, zsF_a, zsC_s, zsC_a, zsC_i, zsW_s, zsW_a, Int.add_zero, Int.zero_add, true_and, false_and, and_false, Bool.false_eq_true, decide_true, decide_false, Bool.true_and, Bool.false_and, Bool.true_or, Bool.false_or, sub1, and_true, if_pos, if_neg, wv_72 S, wr_768 S, wr_769 S, wr_777 S, wr_785 S, wr_786 S, wr_787 S, wr_789 S, wr_790 S, wr_791 S, wr_802 S, wr_803 S, wr_804 S, wr_805 S, wr_806 S, wr_807 S, wr_809 S, wg_770 S, wp_770 S, wg_771 S, wp_771 S, wg_772 S, wp_772 S, wg_773 S, wp_773 S, wg_774 S, wp_774 S, wg_775 S, wp_775 S, wg_776 S, wp_776 S, wg_778 S, wp_778 S, wg_779 S, wp_779 S, wg_780 S, wp_780 S, wg_781 S, wp_781 S, wg_782 S, wp_782 S, wg_783 S, wp_783 S, wg_784 S, wp_784 S, wg_788 S, wp_788 S, wg_792 S, wp_792 S, wg_793 S, wp_793 S, wg_794 S, wp_794 S, wg_795 S, wp_795 S, wg_796 S, wp_796 S, wg_797 S, wp_797 S, wg_798 S, wp_798 S, wg_799 S, wp_799 S, wg_800 S, wp_800 S, wg_801 S, wp_801 S, wg_808 S, wp_808 S, wg_810 S, wp_810 S, wa_73 S, ws_73 S, m_isY Q, e_Model_deed, e0, m_isIn, ib_0]
      · simp (disch := omega) only [if_true, if_false, not_true_eq_false, not_false_eq_true, zoI_s, zoR_s, zoH_s, zoL_s, zbI_s, zbV_s, zbR_s, zbL_s, zif_dec, i32_0, ne_eq, i32_lt, i32_le, i32_eq, i32_add, i32_mul, i32_sub, i32_neg, zrz_0, zrz_1, zif_t, zif_f, zsF_s, zsF_k, zsF_a, zsC_s, zsC_a, zsC_i, zsW_s, zsW_a, Int.add_zero, Int.zero_add, true_and, false_and, and_false, Bool.false_eq_true, decide_true, decide_false, Bool.true_and, Bool.false_and, Bool.true_or, Bool.false_or, sub1, and_true, if_pos, if_neg, wv_72 S, wr_768 S, wr_769 S, wr_777 S, wr_785 S, wr_786 S, wr_787 S, wr_789 S, wr_790 S, wr_791 S, wr_802 S, wr_803 S, wr_804 S, wr_805 S, wr_806 S, wr_807 S, wr_809 S, wg_770 S, wp_770 S, wg_771 S, wp_771 S, wg_772 S, wp_772 S, wg_773 S, wp_773 S, wg_774 S, wp_774 S, wg_775 S, wp_775 S, wg_776 S, wp_776 S, wg_778 S, wp_778 S, wg_779 S, wp_779 S, wg_780 S, wp_780 S, wg_781 S, wp_781 S, wg_782 S, wp_782 S, wg_783 S, wp_783 S, wg_784 S, wp_784 S, wg_788 S, wp_788 S, wg_792 S, wp_792 S, wg_793 S, wp_793 S, wg_794 S, wp_794 S, wg_795 S, wp_795 S, wg_796 S, wp_796 S, wg_797 S, wp_797 S, wg_798 S, wp_798 S, wg_799 S, wp_799 S, wg_800 S, wp_800 S, wg_801 S, wp_801 S, wg_808 S, wp_808 S, wg_810 S, wp_810 S, wa_73 S, ws_73 S, m_isY Q, e_Model_deed, e0, m_isIn, ib_0]
  · refine ⟨F, C, ?_, tq.rfl⟩
    simp (disch := omega) only [if_true, if_false, not_true_eq_false, not_false_eq_true, zoI_s, zoR_s, zoH_s, zoL_s, zbI_s, zbV_s, zbR_s, zbL_s, zif_dec, i32_0, ne_eq, i32_lt, i32_le, i32_eq, i32_add, i32_mul, i32_sub, i32_neg, zrz_0, zrz_1, zif_t, zif_f, zsF_s, zsF_k, zsF_a, zsC_s, zsC_a, zsC_i, zsW_s, zsW_a, Int.add_zero, Int.zero_add, true_and, false_and, and_false, Bool.false_eq_true, decide_true, decide_false, Bool.true_and, Bool.false_and, Bool.true_or, Bool.false_or, sub1, and_true, if_pos, if_neg, wv_72 S, wr_768 S, wr_769 S, wr_777 S, wr_785 S, wr_786 S, wr_787 S, wr_789 S, wr_790 S, wr_791 S, wr_802 S, wr_803 S, wr_804 S, wr_805 S, wr_806 S, wr_807 S, wr_809 S, wg_770 S, wp_770 S, wg_771 S, wp_771 S, wg_772 S, wp_772 S, wg_773 S, wp_773 S, wg_774 S, wp_774 S, wg_775 S, wp_775 S, wg_776 S, wp_776 S, wg_778 S, wp_778 S, wg_779 S, wp_779 S, wg_780 S, wp_780 S, wg_781 S, wp_781 S, wg_782 S, wp_782 S, wg_783 S, wp_783 S, wg_784 S, wp_784 S, wg_788 S, wp_788 S, wg_792 S, wp_792 S, wg_793 S, wp_793 S, wg_794 S, wp_794 S, wg_795 S, wp_795 S, wg_796 S, wp_796 S, wg_797 S, wp_797 S, wg_798 S, wp_798 S, wg_799 S, wp_799 S, wg_800 S, wp_800 S, wg_801 S, wp_801 S, wg_808 S, wp_808 S, wg_810 S, wp_810 S, m_isY0 Q, e_Model_deed]
def factQ (A : Int → Int) (y k w : Int) : Int := if 0 ≤ y ∧ y < A 2 then (if k = -1 then (if w = 0 then lOf A y 0 else -2) else if (0 ≤ k ∧ k < lOf A y 0) ∧ (0 ≤ w ∧ w ≤ 2) then lOf A y (1 + w + 3 * k) else -2) else -2
theorem c_factQ {y k w : Int} (hy : inI y) (hk : inI k) (hw : inI w) : ans1 166 0 [zI (i32 y), zI (i32 k), zI (i32 w)] (fun A => zI (i32 (factQ A y k w))) := by
  intro h F C Q
  have S := Q.1
  unfold inI at hy hk hw
  unfold factQ
  refine ⟨F, C, ?_, tq.rfl⟩
  by_cases c1 : 0 ≤ y ∧ y < C 73 2
  · have Hl := Q.lS c1.1 c1.2
    have Vl := Q.lV c1.1 c1.2
    have Ol := Q.lO c1.1 c1.2
    have b := Ol.1
    by_cases ck : k = -1
    · by_cases cw : w = 0
      · simp (disch := omega) only [if_true, if_false, not_true_eq_false, not_false_eq_true, zoI_s, zoR_s, zoH_s, zoL_s, zbI_s, zbV_s, zbR_s, zbL_s, zif_dec, i32_0, ne_eq, i32_lt, i32_le, i32_eq, i32_add, i32_mul, i32_sub, i32_neg, zrz_0, zrz_1, zif_t, zif_f, zsF_s, zsF_k, zsF_a, zsC_s, zsC_a, zsC_i, zsW_s, zsW_a, Int.add_zero, Int.zero_add, true_and, false_and, and_false, Bool.false_eq_true, decide_true, decide_false, Bool.true_and, Bool.false_and, Bool.true_or, Bool.false_or, sub1, and_true, if_pos, if_neg, wv_0 S, wr_704 S, wr_705 S, wr_706 S, wr_707 S, wr_708 S, wr_709 S, wr_710 S, wr_711 S, tv_1 S, c_lAt Q, Option.isNone_some, Option.isSome_some, e_Main_fact, lv Hl, lg_192 Hl, lr_193 Hl, la_193 Hl, lr_194 Hl, la_194 Hl, lr_195 Hl, la_195 Hl, e_Log_detail, Vl.1, ck, cw]
      · simp (disch := omega) only [if_true, if_false, not_true_eq_false, not_false_eq_true, zoI_s, zoR_s, zoH_s, zoL_s, zbI_s, zbV_s, zbR_s, zbL_s, zif_dec, i32_0, ne_eq, i32_lt, i32_le, i32_eq, i32_add, i32_mul, i32_sub, i32_neg, zrz_0, zrz_1, zif_t, zif_f, zsF_s, zsF_k, zsF_a, zsC_s, zsC_a, zsC_i, zsW_s, zsW_a, Int.add_zero, Int.zero_add, true_and, false_and, and_false, Bool.false_eq_true, decide_true, decide_false, Bool.true_and, Bool.false_and, Bool.true_or, Bool.false_or, sub1, and_true, if_pos, if_neg, wv_0 S, wr_704 S, wr_705 S, wr_706 S, wr_707 S, wr_708 S, wr_709 S, wr_710 S, wr_711 S, tv_1 S, c_lAt Q, Option.isNone_some, Option.isSome_some, e_Main_fact, lv Hl, lg_192 Hl, lr_193 Hl, la_193 Hl, lr_194 Hl, la_194 Hl, lr_195 Hl, la_195 Hl, e_Log_detail, Vl.1, ck]
    · by_cases c2 : 0 ≤ k ∧ k < lOf (C 73) y 0
      · have e := Vl.2 k c2.1 c2.2
        rcases (show w = 0 ∨ w = 1 ∨ w = 2 ∨ ¬ (0 ≤ w ∧ w ≤ 2) by omega) with rfl | rfl | rfl | c3
        · simp (disch := omega) only [if_true, if_false, not_true_eq_false, not_false_eq_true, zoI_s, zoR_s, zoH_s, zoL_s, zbI_s, zbV_s, zbR_s, zbL_s, zif_dec, i32_0, ne_eq, i32_lt, i32_le, i32_eq, i32_add, i32_mul, i32_sub, i32_neg, zrz_0, zrz_1, zif_t, zif_f, zsF_s, zsF_k, zsF_a, zsC_s, zsC_a, zsC_i, zsW_s, zsW_a, Int.add_zero, Int.zero_add, true_and, false_and, and_false, Bool.false_eq_true, decide_true, decide_false, Bool.true_and, Bool.false_and, Bool.true_or, Bool.false_or, sub1, and_true, if_pos, if_neg, wv_0 S, wr_704 S, wr_705 S, wr_706 S, wr_707 S, wr_708 S, wr_709 S, wr_710 S, wr_711 S, tv_1 S, c_lAt Q, Option.isNone_some, Option.isSome_some, e_Main_fact, lv Hl, lg_192 Hl, lr_193 Hl, la_193 Hl, lr_194 Hl, la_194 Hl, lr_195 Hl, la_195 Hl, e_Log_detail, Vl.1, e.1]
        · simp (disch := omega) only [if_true, if_false, not_true_eq_false, not_false_eq_true, zoI_s, zoR_s, zoH_s, zoL_s, zbI_s, zbV_s, zbR_s, zbL_s, zif_dec, i32_0, ne_eq, i32_lt, i32_le, i32_eq, i32_add, i32_mul, i32_sub, i32_neg, zrz_0, zrz_1, zif_t, zif_f, zsF_s, zsF_k, zsF_a, zsC_s, zsC_a, zsC_i, zsW_s, zsW_a, Int.add_zero, Int.zero_add, true_and, false_and, and_false, Bool.false_eq_true, decide_true, decide_false, Bool.true_and, Bool.false_and, Bool.true_or, Bool.false_or, sub1, and_true, if_pos, if_neg, wv_0 S, wr_704 S, wr_705 S, wr_706 S, wr_707 S, wr_708 S, wr_709 S, wr_710 S, wr_711 S, tv_1 S, c_lAt Q, Option.isNone_some, Option.isSome_some, e_Main_fact, lv Hl, lg_192 Hl, lr_193 Hl, la_193 Hl, lr_194 Hl, la_194 Hl, lr_195 Hl, la_195 Hl, e_Log_detail, Vl.1, e.2.1]
          rfl
        · simp (disch := omega) only [if_true, if_false, not_true_eq_false, not_false_eq_true, zoI_s, zoR_s, zoH_s, zoL_s, zbI_s, zbV_s, zbR_s, zbL_s, zif_dec, i32_0, ne_eq, i32_lt, i32_le, i32_eq, i32_add, i32_mul, i32_sub, i32_neg, zrz_0, zrz_1, zif_t, zif_f, zsF_s, zsF_k, zsF_a, zsC_s, zsC_a, zsC_i, zsW_s, zsW_a, Int.add_zero, Int.zero_add, true_and, false_and, and_false, Bool.false_eq_true, decide_true, decide_false, Bool.true_and, Bool.false_and, Bool.true_or, Bool.false_or, sub1, and_true, if_pos, if_neg, wv_0 S, wr_704 S, wr_705 S, wr_706 S, wr_707 S, wr_708 S, wr_709 S, wr_710 S, wr_711 S, tv_1 S, c_lAt Q, Option.isNone_some, Option.isSome_some, e_Main_fact, lv Hl, lg_192 Hl, lr_193 Hl, la_193 Hl, lr_194 Hl, la_194 Hl, lr_195 Hl, la_195 Hl, e_Log_detail, Vl.1, e.2.2]
          rfl
        · simp (disch := omega) only [if_true, if_false, not_true_eq_false, not_false_eq_true, zoI_s, zoR_s, zoH_s, zoL_s, zbI_s, zbV_s, zbR_s, zbL_s, zif_dec, i32_0, ne_eq, i32_lt, i32_le, i32_eq, i32_add, i32_mul, i32_sub, i32_neg, zrz_0, zrz_1, zif_t, zif_f, zsF_s, zsF_k, zsF_a, zsC_s, zsC_a, zsC_i, zsW_s, zsW_a, Int.add_zero, Int.zero_add, true_and, false_and, and_false, Bool.false_eq_true, decide_true, decide_false, Bool.true_and, Bool.false_and, Bool.true_or, Bool.false_or, sub1, and_true, if_pos, if_neg, wv_0 S, wr_704 S, wr_705 S, wr_706 S, wr_707 S, wr_708 S, wr_709 S, wr_710 S, wr_711 S, tv_1 S, c_lAt Q, Option.isNone_some, Option.isSome_some, e_Main_fact, lv Hl, lg_192 Hl, lr_193 Hl, la_193 Hl, lr_194 Hl, la_194 Hl, lr_195 Hl, la_195 Hl, e_Log_detail, Vl.1]
      · by_cases c4 : k < 0
        · simp (disch := omega) only [if_true, if_false, not_true_eq_false, not_false_eq_true, zoI_s, zoR_s, zoH_s, zoL_s, zbI_s, zbV_s, zbR_s, zbL_s, zif_dec, i32_0, ne_eq, i32_lt, i32_le, i32_eq, i32_add, i32_mul, i32_sub, i32_neg, zrz_0, zrz_1, zif_t, zif_f, zsF_s, zsF_k, zsF_a, zsC_s, zsC_a, zsC_i, zsW_s, zsW_a, Int.add_zero, Int.zero_add, true_and, false_and, and_false, Bool.false_eq_true, decide_true, decide_false, Bool.true_and, Bool.false_and, Bool.true_or, Bool.false_or, sub1, and_true, if_pos, if_neg, wv_0 S, wr_704 S, wr_705 S, wr_706 S, wr_707 S, wr_708 S, wr_709 S, wr_710 S, wr_711 S, tv_1 S, c_lAt Q, Option.isNone_some, Option.isSome_some, e_Main_fact, lv Hl, lg_192 Hl, lr_193 Hl, la_193 Hl, lr_194 Hl, la_194 Hl, lr_195 Hl, la_195 Hl, e_Log_detail, Vl.1]
        · simp (disch := omega) only [if_true, if_false, not_true_eq_false, not_false_eq_true, zoI_s, zoR_s, zoH_s, zoL_s, zbI_s, zbV_s, zbR_s, zbL_s, zif_dec, i32_0, ne_eq, i32_lt, i32_le, i32_eq, i32_add, i32_mul, i32_sub, i32_neg, zrz_0, zrz_1, zif_t, zif_f, zsF_s, zsF_k, zsF_a, zsC_s, zsC_a, zsC_i, zsW_s, zsW_a, Int.add_zero, Int.zero_add, true_and, false_and, and_false, Bool.false_eq_true, decide_true, decide_false, Bool.true_and, Bool.false_and, Bool.true_or, Bool.false_or, sub1, and_true, if_pos, if_neg, wv_0 S, wr_704 S, wr_705 S, wr_706 S, wr_707 S, wr_708 S, wr_709 S, wr_710 S, wr_711 S, tv_1 S, c_lAt Q, Option.isNone_some, Option.isSome_some, e_Main_fact, lv Hl, lg_192 Hl, lr_193 Hl, la_193 Hl, lr_194 Hl, la_194 Hl, lr_195 Hl, la_195 Hl, e_Log_detail, Vl.1]
  · simp (disch := omega) only [if_true, if_false, not_true_eq_false, not_false_eq_true, zoI_s, zoR_s, zoH_s, zoL_s, zbI_s, zbV_s, zbR_s, zbL_s, zif_dec, i32_0, ne_eq, i32_lt, i32_le, i32_eq, i32_add, i32_mul, i32_sub, i32_neg, zrz_0, zrz_1, zif_t, zif_f, zsF_s, zsF_k, zsF_a, zsC_s, zsC_a, zsC_i, zsW_s, zsW_a, Int.add_zero, Int.zero_add, true_and, false_and, and_false, Bool.false_eq_true, decide_true, decide_false, Bool.true_and, Bool.false_and, Bool.true_or, Bool.false_or, sub1, and_true, if_pos, if_neg, wv_0 S, wr_704 S, wr_705 S, wr_706 S, wr_707 S, wr_708 S, wr_709 S, wr_710 S, wr_711 S, tv_1 S, c_lAt0 Q, Option.isNone_none, Option.isSome_none, e_Main_fact]
theorem m_factQ {y k w : Int} (hy : inI y) (hk : inI k) (hw : inI w) : ans1 305 72 [zI (i32 y), zI (i32 k), zI (i32 w)] (fun A => zI (i32 (factQ A y k w))) := by
  intro h F C Q
  have S := Q.1
  unfold inI at hy hk hw
  unfold factQ
  by_cases c1 : 0 ≤ y ∧ y < C 73 2
  · have Oy := Q.lO c1.1 c1.2
    have b := Oy.1
    have o := Q.2.2.1
    refine ⟨_, C, ?_, tq.rfl.sF (k := 808) (a := 72) (x := 1180 + 25 * y) (by omega) (by omega)⟩
    have e0 : C 73 (1180 + 25 * y) = lOf (C 73) y 0 := by unfold lOf; rw [Int.add_zero]
    by_cases ck : k = -1
    · by_cases cw : w = 0
      · simp (disch := omega) only [if_true, if_false, not_true_eq_false, not_false_eq_true, zoI_s, zoR_s, zoH_s, zoL_s, zbI_s, zbV_s, zbR_s, zbL_s, zif_dec, i32_0, ne_eq, i32_lt, i32_le, i32_eq, i32_add, i32_mul, i32_sub, i32_neg, zrz_0, zrz_1, zif_t, zif_f, zsF_s, zsF_k, zsF_a, zsC_s, zsC_a, zsC_i, zsW_s, zsW_a, Int.add_zero, Int.zero_add, true_and, false_and, and_false, Bool.false_eq_true, decide_true, decide_false, Bool.true_and, Bool.false_and, Bool.true_or, Bool.false_or, sub1, and_true, if_pos, if_neg, wv_72 S, wr_768 S, wr_769 S, wr_777 S, wr_785 S, wr_786 S, wr_787 S, wr_789 S, wr_790 S, wr_791 S, wr_802 S, wr_803 S, wr_804 S, wr_805 S, wr_806 S, wr_807 S, wr_809 S, wg_770 S, wp_770 S, wg_771 S, wp_771 S, wg_772 S, wp_772 S, wg_773 S, wp_773 S, wg_774 S, wp_774 S, wg_775 S, wp_775 S, wg_776 S, wp_776 S, wg_778 S, wp_778 S, wg_779 S, wp_779 S, wg_780 S, wp_780 S, wg_781 S, wp_781 S, wg_782 S, wp_782 S, wg_783 S, wp_783 S, wg_784 S, wp_784 S, wg_788 S, wp_788 S, wg_792 S, wp_792 S, wg_793 S, wp_793 S, wg_794 S, wp_794 S, wg_795 S, wp_795 S, wg_796 S, wp_796 S, wg_797 S, wp_797 S, wg_798 S, wp_798 S, wg_799 S, wp_799 S, wg_800 S, wp_800 S, wg_801 S, wp_801 S, wg_808 S, wp_808 S, wg_810 S, wp_810 S, wa_73 S, ws_73 S, m_isL Q, e_Model_fact, e0, ck, cw]
      · simp (disch := omega) only [if_true, if_false, not_true_eq_false, not_false_eq_true, zoI_s, zoR_s, zoH_s, zoL_s, zbI_s, zbV_s, zbR_s, zbL_s, zif_dec, i32_0, ne_eq, i32_lt, i32_le, i32_eq, i32_add, i32_mul, i32_sub, i32_neg, zrz_0, zrz_1, zif_t, zif_f, zsF_s, zsF_k, zsF_a, zsC_s, zsC_a, zsC_i, zsW_s, zsW_a, Int.add_zero, Int.zero_add, true_and, false_and, and_false, Bool.false_eq_true, decide_true, decide_false, Bool.true_and, Bool.false_and, Bool.true_or, Bool.false_or, sub1, and_true, if_pos, if_neg, wv_72 S, wr_768 S, wr_769 S, wr_777 S, wr_785 S, wr_786 S, wr_787 S, wr_789 S, wr_790 S, wr_791 S, wr_802 S, wr_803 S, wr_804 S, wr_805 S, wr_806 S, wr_807 S, wr_809 S, wg_770 S, wp_770 S, wg_771 S, wp_771 S, wg_772 S, wp_772 S, wg_773 S, wp_773 S, wg_774 S, wp_774 S, wg_775 S, wp_775 S, wg_776 S, wp_776 S, wg_778 S, wp_778 S, wg_779 S, wp_779 S, wg_780 S, wp_780 S, wg_781 S, wp_781 S, wg_782 S, wp_782 S, wg_783 S, wp_783 S, wg_784 S, wp_784 S, wg_788 S, wp_788 S, wg_792 S, wp_792 S, wg_793 S, wp_793 S, wg_794 S, wp_794 S, wg_795 S, wp_795 S, wg_796 S, wp_796 S, wg_797 S, wp_797 S, wg_798 S, wp_798 S, wg_799 S, wp_799 S, wg_800 S, wp_800 S, wg_801 S, wp_801 S, wg_808 S, wp_808 S, wg_810 S, wp_810 S, wa_73 S, ws_73 S, m_isL Q, e_Model_fact, e0, ck]
    · by_cases c2 : 0 ≤ k ∧ k < lOf (C 73) y 0
      · by_cases c3 : 0 ≤ w ∧ w ≤ 2
        · have e : C 73 (1180 + 25 * y + 1 + 3 * k + w) = lOf (C 73) y (1 + w + 3 * k) := by unfold lOf; congr 1; omega
          simp (disch := omega) only [if_true, if_false, not_true_eq_false, not_false_eq_true, zoI_s, zoR_s, zoH_s, zoL_s, zbI_s, zbV_s, zbR_s, zbL_s, zif_dec, i32_0, ne_eq, i32_lt, i32_le, i32_eq, i32_add, i32_mul, i32_sub, i32_neg, zrz_0, zrz_1, zif_t, zif_f, zsF_s, zsF_k, zsF_a, zsC_s, zsC_a, zsC_i, zsW_s, zsW_a, Int.add_zero, Int.zero_add, true_and, false_and, and_false, Bool.false_eq_true, decide_true, decide_false, Bool.true_and, Bool.false_and, Bool.true_or, Bool.false_or, sub1, and_true, if_pos, if_neg, wv_72 S, wr_768 S, wr_769 S, wr_777 S, wr_785 S, wr_786 S, wr_787 S, wr_789 S, wr_790 S, wr_791 S, wr_802 S, wr_803 S, wr_804 S, wr_805 S, wr_806 S, wr_807 S, wr_809 S, wg_770 S, wp_770 S, wg_771 S, wp_771 S, wg_772 S, wp_772 S, wg_773 S, wp_773 S, wg_774 S, wp_774 S, wg_775 S, wp_775 S, wg_776 S, wp_776 S, wg_778 S, wp_778 S, wg_779 S, wp_779 S, wg_780 S, wp_780 S, wg_781 S, wp_781 S, wg_782 S, wp_782 S, wg_783 S, wp_783 S, wg_784 S, wp_784 S, wg_788 S, wp_788 S, wg_792 S, wp_792 S, wg_793 S, wp_793 S, wg_794 S, wp_794 S, wg_795 S, wp_795 S, wg_796 S, wp_796 S, wg_797 S, wp_797 S, wg_798 S, wp_798 S, wg_799 S, wp_799 S, wg_800 S, wp_800 S, wg_801 S, wp_801 S, wg_808 S, wp_808 S, wg_810 S, wp_810 S, wa_73 S, ws_73 S, m_isL Q, e_Model_fact, e0, m_isIn, ib_0, e]
        · simp (disch := omega) only [if_true, if_false, not_true_eq_false, not_false_eq_true, zoI_s, zoR_s, zoH_s, zoL_s, zbI_s, zbV_s, zbR_s, zbL_s, zif_dec, i32_0, ne_eq, i32_lt, i32_le, i32_eq, i32_add, i32_mul, i32_sub, i32_neg, zrz_0, zrz_1, zif_t, zif_f, zsF_s, zsF_k, zsF_a, zsC_s, zsC_a, zsC_i, zsW_s, zsW_a, Int.add_zero, Int.zero_add, true_and, false_and, and_false, Bool.false_eq_true, decide_true, decide_false, Bool.true_and, Bool.false_and, Bool.true_or, Bool.false_or, sub1, and_true, if_pos, if_neg, wv_72 S, wr_768 S, wr_769 S, wr_777 S, wr_785 S, wr_786 S, wr_787 S, wr_789 S, wr_790 S, wr_791 S, wr_802 S, wr_803 S, wr_804 S, wr_805 S, wr_806 S, wr_807 S, wr_809 S, wg_770 S, wp_770 S, wg_771 S, wp_771 S, wg_772 S, wp_772 S, wg_773 S, wp_773 S, wg_774 S, wp_774 S, wg_775 S, wp_775 S, wg_776 S, wp_776 S, wg_778 S, wp_778 S, wg_779 S, wp_779 S, wg_780 S, wp_780 S, wg_781 S, wp_781 S, wg_782 S, wp_782 S, wg_783 S, wp_783 S, wg_784 S, wp_784 S, wg_788 S, wp_788 S, wg_792 S, wp_792 S, wg_793 S, wp_793 S, wg_794 S, wp_794 S, wg_795 S, wp_795 S, wg_796 S, wp_796 S, wg_797 S, wp_797 S, wg_798 S, wp_798 S, wg_799 S, wp_799 S, wg_800 S, wp_800 S, wg_801 S, wp_801 S, wg_808 S, wp_808 S, wg_810 S, wp_810 S, wa_73 S, ws_73 S, m_isL Q, e_Model_fact, e0, m_isIn, ib_0]
      · simp (disch := omega) only [if_true, if_false, not_true_eq_false, not_false_eq_true, zoI_s, zoR_s, zoH_s, zoL_s, zbI_s, zbV_s, zbR_s, zbL_s, zif_dec, i32_0, ne_eq, i32_lt, i32_le, i32_eq, i32_add, i32_mul, i32_sub, i32_neg, zrz_0, zrz_1, zif_t, zif_f, zsF_s, zsF_k, zsF_a, zsC_s, zsC_a, zsC_i, zsW_s, zsW_a, Int.add_zero, Int.zero_add, true_and, false_and, and_false, Bool.false_eq_true, decide_true, decide_false, Bool.true_and, Bool.false_and, Bool.true_or, Bool.false_or, sub1, and_true, if_pos, if_neg, wv_72 S, wr_768 S, wr_769 S, wr_777 S, wr_785 S, wr_786 S, wr_787 S, wr_789 S, wr_790 S, wr_791 S, wr_802 S, wr_803 S, wr_804 S, wr_805 S, wr_806 S, wr_807 S, wr_809 S, wg_770 S, wp_770 S, wg_771 S, wp_771 S, wg_772 S, wp_772 S, wg_773 S, wp_773 S, wg_774 S, wp_774 S, wg_775 S, wp_775 S, wg_776 S, wp_776 S, wg_778 S, wp_778 S, wg_779 S, wp_779 S, wg_780 S, wp_780 S, wg_781 S, wp_781 S, wg_782 S, wp_782 S, wg_783 S, wp_783 S, wg_784 S, wp_784 S, wg_788 S, wp_788 S, wg_792 S, wp_792 S, wg_793 S, wp_793 S, wg_794 S, wp_794 S, wg_795 S, wp_795 S, wg_796 S, wp_796 S, wg_797 S, wp_797 S, wg_798 S, wp_798 S, wg_799 S, wp_799 S, wg_800 S, wp_800 S, wg_801 S, wp_801 S, wg_808 S, wp_808 S, wg_810 S, wp_810 S, wa_73 S, ws_73 S, m_isL Q, e_Model_fact, e0, m_isIn, ib_0]
  · refine ⟨F, C, ?_, tq.rfl⟩
    simp (disch := omega) only [if_true, if_false, not_true_eq_false, not_false_eq_true, zoI_s, zoR_s, zoH_s, zoL_s, zbI_s, zbV_s, zbR_s, zbL_s, zif_dec, i32_0, ne_eq, i32_lt, i32_le, i32_eq, i32_add, i32_mul, i32_sub, i32_neg, zrz_0, zrz_1, zif_t, zif_f, zsF_s, zsF_k, zsF_a, zsC_s, zsC_a, zsC_i, zsW_s, zsW_a, Int.add_zero, Int.zero_add, true_and, false_and, and_false, Bool.false_eq_true, decide_true, decide_false, Bool.true_and, Bool.false_and, Bool.true_or, Bool.false_or, sub1, and_true, if_pos, if_neg, wv_72 S, wr_768 S, wr_769 S, wr_777 S, wr_785 S, wr_786 S, wr_787 S, wr_789 S, wr_790 S, wr_791 S, wr_802 S, wr_803 S, wr_804 S, wr_805 S, wr_806 S, wr_807 S, wr_809 S, wg_770 S, wp_770 S, wg_771 S, wp_771 S, wg_772 S, wp_772 S, wg_773 S, wp_773 S, wg_774 S, wp_774 S, wg_775 S, wp_775 S, wg_776 S, wp_776 S, wg_778 S, wp_778 S, wg_779 S, wp_779 S, wg_780 S, wp_780 S, wg_781 S, wp_781 S, wg_782 S, wp_782 S, wg_783 S, wp_783 S, wg_784 S, wp_784 S, wg_788 S, wp_788 S, wg_792 S, wp_792 S, wg_793 S, wp_793 S, wg_794 S, wp_794 S, wg_795 S, wp_795 S, wg_796 S, wp_796 S, wg_797 S, wp_797 S, wg_798 S, wp_798 S, wg_799 S, wp_799 S, wg_800 S, wp_800 S, wg_801 S, wp_801 S, wg_808 S, wp_808 S, wg_810 S, wp_810 S, m_isL0 Q, e_Model_fact]
