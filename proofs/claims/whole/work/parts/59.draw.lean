/-! stop, state, drawn -/
noncomputable def stopQ (A : Int → Int) (d y : Int) : Int := if (0 ≤ d ∧ d < A 0) ∧ (0 ≤ y ∧ y < A 1) then runX (dOf A d) (yOf A y) (yOf A y 0) 40 (begX (dOf A d)) 0 71 else -1
theorem c_stop {d y : Int} (hd : inI d) (hy : inI y) : ans1 157 0 [zI (i32 d), zI (i32 y)] (fun A => zI (i32 (stopQ A d y))) := by
  intro h F C Q
  have S := Q.1
  unfold inI at hd hy
  unfold stopQ
  by_cases c1 : 0 ≤ d ∧ d < C 73 0
  · by_cases c2 : 0 ≤ y ∧ y < C 73 1
    · have H := Q.dS c1.1 c1.2
      have V := Q.dV c1.1 c1.2
      have O := Q.dO c1.1 c1.2
      have Hy := Q.yS c2.1 c2.2
      have Vy := Q.yV c2.1 c2.2
      have Oy := Q.yO c2.1 c2.2
      have o := Q.2.2.1
      have b := Oy.1
      obtain ⟨F', C', e, R, K, hk⟩ := c_run S H V O (by omega) Hy Vy Oy (by omega) (n := yOf (C 73) y 0) (by omega) (by omega)
      have e64 := R.2.1.2.2.2.2.2.2.2.2.2.1
      refine ⟨F', C', ?_, R.1⟩
      simp (disch := omega) only [if_true, if_false, not_true_eq_false, not_false_eq_true, zoI_s, zoR_s, zoH_s, zoL_s, zbI_s, zbV_s, zbR_s, zbL_s, zif_dec, i32_0, ne_eq, i32_lt, i32_le, i32_eq, i32_add, i32_mul, i32_sub, i32_neg, zrz_0, zrz_1, zif_t, zif_f, zsF_s, zsF_k, zsF_a, zsC_s, zsC_a, zsC_i, zsW_s, zsW_a, Int.add_zero, Int.zero_add, true_and, false_and, and_false, Bool.false_eq_true, decide_true, decide_false, Bool.true_and, Bool.false_and, Bool.true_or, Bool.false_or, sub1, and_true, if_pos, if_neg, wv_0 S, wr_704 S, wr_705 S, wr_706 S, wr_707 S, wr_708 S, wr_709 S, wr_710 S, wr_711 S, tv_1 S, c_dAt Q, c_yAt Q, Option.isNone_some, Option.isSome_some, e_Main_stop, wv_50 S, wr_66 S, wr_67 S, wr_68 S, wr_69 S, wr_70 S, wr_71 S, wg_64 S, wp_64 S, wg_65 S, wp_65 S, wg_72 S, wp_72 S, wg_73 S, wp_73 S, wg_74 S, wp_74 S, wg_75 S, wp_75 S, wg_76 S, wp_76 S, wg_77 S, wp_77 S, wg_78 S, wp_78 S, wg_79 S, wp_79 S, wg_80 S, wp_80 S, yg_640 Hy, Vy.1, e, e64]
    · refine ⟨F, C, ?_, tq.rfl⟩
      simp (disch := omega) only [if_true, if_false, not_true_eq_false, not_false_eq_true, zoI_s, zoR_s, zoH_s, zoL_s, zbI_s, zbV_s, zbR_s, zbL_s, zif_dec, i32_0, ne_eq, i32_lt, i32_le, i32_eq, i32_add, i32_mul, i32_sub, i32_neg, zrz_0, zrz_1, zif_t, zif_f, zsF_s, zsF_k, zsF_a, zsC_s, zsC_a, zsC_i, zsW_s, zsW_a, Int.add_zero, Int.zero_add, true_and, false_and, and_false, Bool.false_eq_true, decide_true, decide_false, Bool.true_and, Bool.false_and, Bool.true_or, Bool.false_or, sub1, and_true, if_pos, if_neg, wv_0 S, wr_704 S, wr_705 S, wr_706 S, wr_707 S, wr_708 S, wr_709 S, wr_710 S, wr_711 S, tv_1 S, c_dAt Q, c_yAt0 Q, Option.isNone_some, Option.isSome_some, Option.isNone_none, Option.isSome_none, e_Main_stop]
  · refine ⟨F, C, ?_, tq.rfl⟩
    by_cases c2 : 0 ≤ y ∧ y < C 73 1
    · simp (disch := omega) only [if_true, if_false, not_true_eq_false, not_false_eq_true, zoI_s, zoR_s, zoH_s, zoL_s, zbI_s, zbV_s, zbR_s, zbL_s, zif_dec, i32_0, ne_eq, i32_lt, i32_le, i32_eq, i32_add, i32_mul, i32_sub, i32_neg, zrz_0, zrz_1, zif_t, zif_f, zsF_s, zsF_k, zsF_a, zsC_s, zsC_a, zsC_i, zsW_s, zsW_a, Int.add_zero, Int.zero_add, true_and, false_and, and_false, Bool.false_eq_true, decide_true, decide_false, Bool.true_and, Bool.false_and, Bool.true_or, Bool.false_or, sub1, and_true, if_pos, if_neg, wv_0 S, wr_704 S, wr_705 S, wr_706 S, wr_707 S, wr_708 S, wr_709 S, wr_710 S, wr_711 S, tv_1 S, c_dAt0 Q, c_yAt Q, Option.isNone_some, Option.isSome_some, Option.isNone_none, Option.isSome_none, e_Main_stop]
    · simp (disch := omega) only [if_true, if_false, not_true_eq_false, not_false_eq_true, zoI_s, zoR_s, zoH_s, zoL_s, zbI_s, zbV_s, zbR_s, zbL_s, zif_dec, i32_0, ne_eq, i32_lt, i32_le, i32_eq, i32_add, i32_mul, i32_sub, i32_neg, zrz_0, zrz_1, zif_t, zif_f, zsF_s, zsF_k, zsF_a, zsC_s, zsC_a, zsC_i, zsW_s, zsW_a, Int.add_zero, Int.zero_add, true_and, false_and, and_false, Bool.false_eq_true, decide_true, decide_false, Bool.true_and, Bool.false_and, Bool.true_or, Bool.false_or, sub1, and_true, if_pos, if_neg, wv_0 S, wr_704 S, wr_705 S, wr_706 S, wr_707 S, wr_708 S, wr_709 S, wr_710 S, wr_711 S, tv_1 S, c_dAt0 Q, c_yAt0 Q, Option.isNone_some, Option.isSome_some, Option.isNone_none, Option.isSome_none, e_Main_stop]
theorem myF_M {h : zHeap} {F : Nat → Nat → Int} {C : Nat → Int → Int} (Q : qOK h F C) {d x : Int} (h0 : 0 ≤ d) (h1 : d < C 73 0) : moV (zsF (miF F C d) 792 72 x) C (dOf (C 73) d) := (miF_V Q h0 h1).cg rfl rfl rfl rfl rfl
theorem myF_Y {h : zHeap} {F : Nat → Nat → Int} {C : Nat → Int → Int} (Q : qOK h F C) {y : Int} (h0 : 0 ≤ y) (h1 : y < C 73 1) : moY (zsF F 792 72 (698 + 241 * y)) C (yOf (C 73) y) := by
  have o := Q.2.2.1
  exact ⟨show 0 ≤ 698 + 241 * y ∧ 698 + 241 * y ≤ 1000 by omega, fun j _ _ => rfl⟩
theorem m_stop {d y : Int} (hd : inI d) (hy : inI y) : ans1 299 72 [zI (i32 d), zI (i32 y)] (fun A => zI (i32 (stopQ A d y))) := by
  intro h F C Q
  have S := Q.1
  unfold inI at hd hy
  unfold stopQ
  have Q1 := Q.tq (miF_tq d)
  by_cases c1 : 0 ≤ d ∧ d < C 73 0
  · by_cases c2 : 0 ≤ y ∧ y < C 73 1
    · have O := Q.dO c1.1 c1.2
      have Oy := Q.yO c2.1 c2.2
      have o := Q.2.2.1
      have b := Oy.1
      obtain ⟨F', C', e, R, K, hk⟩ := m_runs S (myF_M Q (x := 698 + 241 * y) c1.1 c1.2) O (myF_Y Q1 c2.1 c2.2) Oy (n := 40) (by omega) (by omega)
      have e64 : F' 801 72 = runX (dOf (C 73) d) (yOf (C 73) y) (yOf (C 73) y 0) 40 (begX (dOf (C 73) d)) 0 71 := by
        have k9 := runX82 (D := dOf (C 73) d) (Y := yOf (C 73) y) (n := 40) 40 (begX (dOf (C 73) d)) rfl
        rw [R.2.1.2.2.2.2.2.2.2.2.1 k9, runX_n (n := 40) (n' := yOf (C 73) y 0) (by omega) (by omega)]
      refine ⟨F', C', ?_, ((miF_tq d).sF (by omega) (by omega)).trans R.1.1⟩
      simp (disch := omega) only [if_true, if_false, not_true_eq_false, not_false_eq_true, zoI_s, zoR_s, zoH_s, zoL_s, zbI_s, zbV_s, zbR_s, zbL_s, zif_dec, i32_0, ne_eq, i32_lt, i32_le, i32_eq, i32_add, i32_mul, i32_sub, i32_neg, zrz_0, zrz_1, zif_t, zif_f, zsF_s, zsF_k, zsF_a, zsC_s, zsC_a, zsC_i, zsW_s, zsW_a, Int.add_zero, Int.zero_add, true_and, false_and, and_false, Bool.false_eq_true, decide_true, decide_false, Bool.true_and, Bool.false_and, Bool.true_or, Bool.false_or, sub1, and_true, if_pos, if_neg, wv_72 S, wr_768 S, wr_769 S, wr_777 S, wr_785 S, wr_786 S, wr_787 S, wr_789 S, wr_790 S, wr_791 S, wr_802 S, wr_803 S, wr_804 S, wr_805 S, wr_806 S, wr_807 S, wr_809 S, wg_770 S, wp_770 S, wg_771 S, wp_771 S, wg_772 S, wp_772 S, wg_773 S, wp_773 S, wg_774 S, wp_774 S, wg_775 S, wp_775 S, wg_776 S, wp_776 S, wg_778 S, wp_778 S, wg_779 S, wp_779 S, wg_780 S, wp_780 S, wg_781 S, wp_781 S, wg_782 S, wp_782 S, wg_783 S, wp_783 S, wg_784 S, wp_784 S, wg_788 S, wp_788 S, wg_792 S, wp_792 S, wg_793 S, wp_793 S, wg_794 S, wp_794 S, wg_795 S, wp_795 S, wg_796 S, wp_796 S, wg_797 S, wp_797 S, wg_798 S, wp_798 S, wg_799 S, wp_799 S, wg_800 S, wp_800 S, wg_801 S, wp_801 S, wg_808 S, wp_808 S, wg_810 S, wp_810 S, m_isD Q, m_isY Q1, e_Model_stop, e, e64]
    · refine ⟨_, C, ?_, miF_tq d⟩
      simp (disch := omega) only [if_true, if_false, not_true_eq_false, not_false_eq_true, zoI_s, zoR_s, zoH_s, zoL_s, zbI_s, zbV_s, zbR_s, zbL_s, zif_dec, i32_0, ne_eq, i32_lt, i32_le, i32_eq, i32_add, i32_mul, i32_sub, i32_neg, zrz_0, zrz_1, zif_t, zif_f, zsF_s, zsF_k, zsF_a, zsC_s, zsC_a, zsC_i, zsW_s, zsW_a, Int.add_zero, Int.zero_add, true_and, false_and, and_false, Bool.false_eq_true, decide_true, decide_false, Bool.true_and, Bool.false_and, Bool.true_or, Bool.false_or, sub1, and_true, if_pos, if_neg, wv_72 S, wr_768 S, wr_769 S, wr_777 S, wr_785 S, wr_786 S, wr_787 S, wr_789 S, wr_790 S, wr_791 S, wr_802 S, wr_803 S, wr_804 S, wr_805 S, wr_806 S, wr_807 S, wr_809 S, wg_770 S, wp_770 S, wg_771 S, wp_771 S, wg_772 S, wp_772 S, wg_773 S, wp_773 S, wg_774 S, wp_774 S, wg_775 S, wp_775 S, wg_776 S, wp_776 S, wg_778 S, wp_778 S, wg_779 S, wp_779 S, wg_780 S, wp_780 S, wg_781 S, wp_781 S, wg_782 S, wp_782 S, wg_783 S, wp_783 S, wg_784 S, wp_784 S, wg_788 S, wp_788 S, wg_792 S, wp_792 S, wg_793 S, wp_793 S, wg_794 S, wp_794 S, wg_795 S, wp_795 S, wg_796 S, wp_796 S, wg_797 S, wp_797 S, wg_798 S, wp_798 S, wg_799 S, wp_799 S, wg_800 S, wp_800 S, wg_801 S, wp_801 S, wg_808 S, wp_808 S, wg_810 S, wp_810 S, m_isD Q, m_isY0 Q1, e_Model_stop]
  · refine ⟨F, C, ?_, tq.rfl⟩
    simp (disch := omega) only [if_true, if_false, not_true_eq_false, not_false_eq_true, zoI_s, zoR_s, zoH_s, zoL_s, zbI_s, zbV_s, zbR_s, zbL_s, zif_dec, i32_0, ne_eq, i32_lt, i32_le, i32_eq, i32_add, i32_mul, i32_sub, i32_neg, zrz_0, zrz_1, zif_t, zif_f, zsF_s, zsF_k, zsF_a, zsC_s, zsC_a, zsC_i, zsW_s, zsW_a, Int.add_zero, Int.zero_add, true_and, false_and, and_false, Bool.false_eq_true, decide_true, decide_false, Bool.true_and, Bool.false_and, Bool.true_or, Bool.false_or, sub1, and_true, if_pos, if_neg, wv_72 S, wr_768 S, wr_769 S, wr_777 S, wr_785 S, wr_786 S, wr_787 S, wr_789 S, wr_790 S, wr_791 S, wr_802 S, wr_803 S, wr_804 S, wr_805 S, wr_806 S, wr_807 S, wr_809 S, wg_770 S, wp_770 S, wg_771 S, wp_771 S, wg_772 S, wp_772 S, wg_773 S, wp_773 S, wg_774 S, wp_774 S, wg_775 S, wp_775 S, wg_776 S, wp_776 S, wg_778 S, wp_778 S, wg_779 S, wp_779 S, wg_780 S, wp_780 S, wg_781 S, wp_781 S, wg_782 S, wp_782 S, wg_783 S, wp_783 S, wg_784 S, wp_784 S, wg_788 S, wp_788 S, wg_792 S, wp_792 S, wg_793 S, wp_793 S, wg_794 S, wp_794 S, wg_795 S, wp_795 S, wg_796 S, wp_796 S, wg_797 S, wp_797 S, wg_798 S, wp_798 S, wg_799 S, wp_799 S, wg_800 S, wp_800 S, wg_801 S, wp_801 S, wg_808 S, wp_808 S, wg_810 S, wp_810 S, m_isD0 Q, e_Model_stop]
noncomputable def stateQ (A : Int → Int) (d y n w : Int) : Int := if (0 ≤ d ∧ d < A 0) ∧ (0 ≤ y ∧ y < A 1) ∧ (0 ≤ n ∧ n ≤ yOf A y 0) ∧ n ≤ runX (dOf A d) (yOf A y) n 40 (begX (dOf A d)) 0 71 then nowS (dOf A d) (runX (dOf A d) (yOf A y) n 40 (begX (dOf A d))) w else -2
theorem c_state {d y n w : Int} (hd : inI d) (hy : inI y) (hn : inI n) (hw : inI w) : ans1 158 0 [zI (i32 d), zI (i32 y), zI (i32 n), zI (i32 w)] (fun A => zI (i32 (stateQ A d y n w))) := by
  intro h F C Q
  have S := Q.1
  unfold inI at hd hy hn hw
  unfold stateQ
  by_cases c1 : 0 ≤ d ∧ d < C 73 0
  · by_cases c2 : 0 ≤ y ∧ y < C 73 1
    · have H := Q.dS c1.1 c1.2
      have V := Q.dV c1.1 c1.2
      have O := Q.dO c1.1 c1.2
      have Hy := Q.yS c2.1 c2.2
      have Vy := Q.yV c2.1 c2.2
      have Oy := Q.yO c2.1 c2.2
      have o := Q.2.2.1
      have b := Oy.1
      by_cases c3 : n < 0
      · refine ⟨F, C, ?_, tq.rfl⟩
        simp (disch := omega) only [if_true, if_false, not_true_eq_false, not_false_eq_true, zoI_s, zoR_s, zoH_s, zoL_s, zbI_s, zbV_s, zbR_s, zbL_s, zif_dec, i32_0, ne_eq, i32_lt, i32_le, i32_eq, i32_add, i32_mul, i32_sub, i32_neg, zrz_0, zrz_1, zif_t, zif_f, zsF_s, zsF_k, zsF_a, zsC_s, zsC_a, zsC_i, zsW_s, zsW_a, Int.add_zero, Int.zero_add, true_and, false_and, and_false, Bool.false_eq_true, decide_true, decide_false, Bool.true_and, Bool.false_and, Bool.true_or, Bool.false_or, sub1, and_true, if_pos, if_neg, wv_0 S, wr_704 S, wr_705 S, wr_706 S, wr_707 S, wr_708 S, wr_709 S, wr_710 S, wr_711 S, tv_1 S, c_dAt Q, c_yAt Q, Option.isNone_some, Option.isSome_some, e_Main_state]
      · by_cases c4 : n ≤ yOf (C 73) y 0
        · obtain ⟨F', C', e, R, K, hk⟩ := c_run S H V O (by omega) Hy Vy Oy (by omega) (n := n) (by omega) (by omega)
          have e64 := R.2.1.2.2.2.2.2.2.2.2.2.1
          have k9 := K.2.2.2.2.2.2.2.2.2.1
          refine ⟨F', C', ?_, R.1⟩
          by_cases c5 : n ≤ runX (dOf (C 73) d) (yOf (C 73) y) n 40 (begX (dOf (C 73) d)) 0 71
          · have ed := c_detailC S H V O (by omega) R (w := w) (by omega) (by omega)
            simp (disch := omega) only [if_true, if_false, not_true_eq_false, not_false_eq_true, zoI_s, zoR_s, zoH_s, zoL_s, zbI_s, zbV_s, zbR_s, zbL_s, zif_dec, i32_0, ne_eq, i32_lt, i32_le, i32_eq, i32_add, i32_mul, i32_sub, i32_neg, zrz_0, zrz_1, zif_t, zif_f, zsF_s, zsF_k, zsF_a, zsC_s, zsC_a, zsC_i, zsW_s, zsW_a, Int.add_zero, Int.zero_add, true_and, false_and, and_false, Bool.false_eq_true, decide_true, decide_false, Bool.true_and, Bool.false_and, Bool.true_or, Bool.false_or, sub1, and_true, if_pos, if_neg, wv_0 S, wr_704 S, wr_705 S, wr_706 S, wr_707 S, wr_708 S, wr_709 S, wr_710 S, wr_711 S, tv_1 S, c_dAt Q, c_yAt Q, Option.isNone_some, Option.isSome_some, e_Main_state, wv_50 S, wr_66 S, wr_67 S, wr_68 S, wr_69 S, wr_70 S, wr_71 S, wg_64 S, wp_64 S, wg_65 S, wp_65 S, wg_72 S, wp_72 S, wg_73 S, wp_73 S, wg_74 S, wp_74 S, wg_75 S, wp_75 S, wg_76 S, wp_76 S, wg_77 S, wp_77 S, wg_78 S, wp_78 S, wg_79 S, wp_79 S, wg_80 S, wp_80 S, yg_640 Hy, Vy.1, e, e64, ed]
          · simp (disch := omega) only [if_true, if_false, not_true_eq_false, not_false_eq_true, zoI_s, zoR_s, zoH_s, zoL_s, zbI_s, zbV_s, zbR_s, zbL_s, zif_dec, i32_0, ne_eq, i32_lt, i32_le, i32_eq, i32_add, i32_mul, i32_sub, i32_neg, zrz_0, zrz_1, zif_t, zif_f, zsF_s, zsF_k, zsF_a, zsC_s, zsC_a, zsC_i, zsW_s, zsW_a, Int.add_zero, Int.zero_add, true_and, false_and, and_false, Bool.false_eq_true, decide_true, decide_false, Bool.true_and, Bool.false_and, Bool.true_or, Bool.false_or, sub1, and_true, if_pos, if_neg, wv_0 S, wr_704 S, wr_705 S, wr_706 S, wr_707 S, wr_708 S, wr_709 S, wr_710 S, wr_711 S, tv_1 S, c_dAt Q, c_yAt Q, Option.isNone_some, Option.isSome_some, e_Main_state, wv_50 S, wr_66 S, wr_67 S, wr_68 S, wr_69 S, wr_70 S, wr_71 S, wg_64 S, wp_64 S, wg_65 S, wp_65 S, wg_72 S, wp_72 S, wg_73 S, wp_73 S, wg_74 S, wp_74 S, wg_75 S, wp_75 S, wg_76 S, wp_76 S, wg_77 S, wp_77 S, wg_78 S, wp_78 S, wg_79 S, wp_79 S, wg_80 S, wp_80 S, yg_640 Hy, Vy.1, e, e64]
        · refine ⟨F, C, ?_, tq.rfl⟩
          simp (disch := omega) only [if_true, if_false, not_true_eq_false, not_false_eq_true, zoI_s, zoR_s, zoH_s, zoL_s, zbI_s, zbV_s, zbR_s, zbL_s, zif_dec, i32_0, ne_eq, i32_lt, i32_le, i32_eq, i32_add, i32_mul, i32_sub, i32_neg, zrz_0, zrz_1, zif_t, zif_f, zsF_s, zsF_k, zsF_a, zsC_s, zsC_a, zsC_i, zsW_s, zsW_a, Int.add_zero, Int.zero_add, true_and, false_and, and_false, Bool.false_eq_true, decide_true, decide_false, Bool.true_and, Bool.false_and, Bool.true_or, Bool.false_or, sub1, and_true, if_pos, if_neg, wv_0 S, wr_704 S, wr_705 S, wr_706 S, wr_707 S, wr_708 S, wr_709 S, wr_710 S, wr_711 S, tv_1 S, c_dAt Q, c_yAt Q, Option.isNone_some, Option.isSome_some, e_Main_state, yg_640 Hy, Vy.1]
    · refine ⟨F, C, ?_, tq.rfl⟩
      simp (disch := omega) only [if_true, if_false, not_true_eq_false, not_false_eq_true, zoI_s, zoR_s, zoH_s, zoL_s, zbI_s, zbV_s, zbR_s, zbL_s, zif_dec, i32_0, ne_eq, i32_lt, i32_le, i32_eq, i32_add, i32_mul, i32_sub, i32_neg, zrz_0, zrz_1, zif_t, zif_f, zsF_s, zsF_k, zsF_a, zsC_s, zsC_a, zsC_i, zsW_s, zsW_a, Int.add_zero, Int.zero_add, true_and, false_and, and_false, Bool.false_eq_true, decide_true, decide_false, Bool.true_and, Bool.false_and, Bool.true_or, Bool.false_or, sub1, and_true, if_pos, if_neg, wv_0 S, wr_704 S, wr_705 S, wr_706 S, wr_707 S, wr_708 S, wr_709 S, wr_710 S, wr_711 S, tv_1 S, c_dAt Q, c_yAt0 Q, Option.isNone_some, Option.isSome_some, Option.isNone_none, Option.isSome_none, e_Main_state]
  · refine ⟨F, C, ?_, tq.rfl⟩
    by_cases c2 : 0 ≤ y ∧ y < C 73 1
    · simp (disch := omega) only [if_true, if_false, not_true_eq_false, not_false_eq_true, zoI_s, zoR_s, zoH_s, zoL_s, zbI_s, zbV_s, zbR_s, zbL_s, zif_dec, i32_0, ne_eq, i32_lt, i32_le, i32_eq, i32_add, i32_mul, i32_sub, i32_neg, zrz_0, zrz_1, zif_t, zif_f, zsF_s, zsF_k, zsF_a, zsC_s, zsC_a, zsC_i, zsW_s, zsW_a, Int.add_zero, Int.zero_add, true_and, false_and, and_false, Bool.false_eq_true, decide_true, decide_false, Bool.true_and, Bool.false_and, Bool.true_or, Bool.false_or, sub1, and_true, if_pos, if_neg, wv_0 S, wr_704 S, wr_705 S, wr_706 S, wr_707 S, wr_708 S, wr_709 S, wr_710 S, wr_711 S, tv_1 S, c_dAt0 Q, c_yAt Q, Option.isNone_some, Option.isSome_some, Option.isNone_none, Option.isSome_none, e_Main_state]
    · simp (disch := omega) only [if_true, if_false, not_true_eq_false, not_false_eq_true, zoI_s, zoR_s, zoH_s, zoL_s, zbI_s, zbV_s, zbR_s, zbL_s, zif_dec, i32_0, ne_eq, i32_lt, i32_le, i32_eq, i32_add, i32_mul, i32_sub, i32_neg, zrz_0, zrz_1, zif_t, zif_f, zsF_s, zsF_k, zsF_a, zsC_s, zsC_a, zsC_i, zsW_s, zsW_a, Int.add_zero, Int.zero_add, true_and, false_and, and_false, Bool.false_eq_true, decide_true, decide_false, Bool.true_and, Bool.false_and, Bool.true_or, Bool.false_or, sub1, and_true, if_pos, if_neg, wv_0 S, wr_704 S, wr_705 S, wr_706 S, wr_707 S, wr_708 S, wr_709 S, wr_710 S, wr_711 S, tv_1 S, c_dAt0 Q, c_yAt0 Q, Option.isNone_some, Option.isSome_some, Option.isNone_none, Option.isSome_none, e_Main_state]
theorem nowS_neg {D : Int → Int} {X : Nat → Int → Int} {w : Int} (h : w < 0) : nowS D X w = -2 := if_pos h
theorem m_state {d y n w : Int} (hd : inI d) (hy : inI y) (hn : inI n) (hw : inI w) : ans1 303 72 [zI (i32 d), zI (i32 y), zI (i32 n), zI (i32 w)] (fun A => zI (i32 (stateQ A d y n w))) := by
  intro h F C Q
  have S := Q.1
  unfold inI at hd hy hn hw
  have Q1 := Q.tq (miF_tq d)
  by_cases c1 : 0 ≤ d ∧ d < C 73 0
  · by_cases c2 : 0 ≤ y ∧ y < C 73 1
    · have O := Q.dO c1.1 c1.2
      have Oy := Q.yO c2.1 c2.2
      have o := Q.2.2.1
      have b := Oy.1
      by_cases c3 : n < 0
      · refine ⟨_, C, ?_, (miF_tq d).sF (k := 792) (a := 72) (x := 698 + 241 * y) (by omega) (by omega)⟩
        unfold stateQ
        simp (disch := omega) only [if_true, if_false, not_true_eq_false, not_false_eq_true, zoI_s, zoR_s, zoH_s, zoL_s, zbI_s, zbV_s, zbR_s, zbL_s, zif_dec, i32_0, ne_eq, i32_lt, i32_le, i32_eq, i32_add, i32_mul, i32_sub, i32_neg, zrz_0, zrz_1, zif_t, zif_f, zsF_s, zsF_k, zsF_a, zsC_s, zsC_a, zsC_i, zsW_s, zsW_a, Int.add_zero, Int.zero_add, true_and, false_and, and_false, Bool.false_eq_true, decide_true, decide_false, Bool.true_and, Bool.false_and, Bool.true_or, Bool.false_or, sub1, and_true, if_pos, if_neg, wv_72 S, wr_768 S, wr_769 S, wr_777 S, wr_785 S, wr_786 S, wr_787 S, wr_789 S, wr_790 S, wr_791 S, wr_802 S, wr_803 S, wr_804 S, wr_805 S, wr_806 S, wr_807 S, wr_809 S, wg_770 S, wp_770 S, wg_771 S, wp_771 S, wg_772 S, wp_772 S, wg_773 S, wp_773 S, wg_774 S, wp_774 S, wg_775 S, wp_775 S, wg_776 S, wp_776 S, wg_778 S, wp_778 S, wg_779 S, wp_779 S, wg_780 S, wp_780 S, wg_781 S, wp_781 S, wg_782 S, wp_782 S, wg_783 S, wp_783 S, wg_784 S, wp_784 S, wg_788 S, wp_788 S, wg_792 S, wp_792 S, wg_793 S, wp_793 S, wg_794 S, wp_794 S, wg_795 S, wp_795 S, wg_796 S, wp_796 S, wg_797 S, wp_797 S, wg_798 S, wp_798 S, wg_799 S, wp_799 S, wg_800 S, wp_800 S, wg_801 S, wp_801 S, wg_808 S, wp_808 S, wg_810 S, wp_810 S, m_isD Q, m_isY Q1, e_Model_state]
      · by_cases cw : w < 0
        · refine ⟨_, C, ?_, (miF_tq d).sF (k := 792) (a := 72) (x := 698 + 241 * y) (by omega) (by omega)⟩
          have z : stateQ (C 73) d y n w = -2 := by
            unfold stateQ
            rw [nowS_neg cw]
            split <;> rfl
          dsimp only
          rw [z]
          simp (disch := omega) only [if_true, if_false, not_true_eq_false, not_false_eq_true, zoI_s, zoR_s, zoH_s, zoL_s, zbI_s, zbV_s, zbR_s, zbL_s, zif_dec, i32_0, ne_eq, i32_lt, i32_le, i32_eq, i32_add, i32_mul, i32_sub, i32_neg, zrz_0, zrz_1, zif_t, zif_f, zsF_s, zsF_k, zsF_a, zsC_s, zsC_a, zsC_i, zsW_s, zsW_a, Int.add_zero, Int.zero_add, true_and, false_and, and_false, Bool.false_eq_true, decide_true, decide_false, Bool.true_and, Bool.false_and, Bool.true_or, Bool.false_or, sub1, and_true, if_pos, if_neg, wv_72 S, wr_768 S, wr_769 S, wr_777 S, wr_785 S, wr_786 S, wr_787 S, wr_789 S, wr_790 S, wr_791 S, wr_802 S, wr_803 S, wr_804 S, wr_805 S, wr_806 S, wr_807 S, wr_809 S, wg_770 S, wp_770 S, wg_771 S, wp_771 S, wg_772 S, wp_772 S, wg_773 S, wp_773 S, wg_774 S, wp_774 S, wg_775 S, wp_775 S, wg_776 S, wp_776 S, wg_778 S, wp_778 S, wg_779 S, wp_779 S, wg_780 S, wp_780 S, wg_781 S, wp_781 S, wg_782 S, wp_782 S, wg_783 S, wp_783 S, wg_784 S, wp_784 S, wg_788 S, wp_788 S, wg_792 S, wp_792 S, wg_793 S, wp_793 S, wg_794 S, wp_794 S, wg_795 S, wp_795 S, wg_796 S, wp_796 S, wg_797 S, wp_797 S, wg_798 S, wp_798 S, wg_799 S, wp_799 S, wg_800 S, wp_800 S, wg_801 S, wp_801 S, wg_808 S, wp_808 S, wg_810 S, wp_810 S, m_isD Q, m_isY Q1, e_Model_state]
        · obtain ⟨F', C', e, R, K, hk⟩ := m_runs S (myF_M Q (x := 698 + 241 * y) c1.1 c1.2) O (myF_Y Q1 c2.1 c2.2) Oy (n := n) (by omega) (by omega)
          have e64 := R.2.1.2.2.2.2.2.2.2.2.1 (runX82 (D := dOf (C 73) d) (Y := yOf (C 73) y) (n := n) 40 (begX (dOf (C 73) d)) rfl)
          have k9 := K.2.2.2.2.2.2.2.2.2.1
          have kl := runX_le (D := dOf (C 73) d) (Y := yOf (C 73) y) (n := n) 40 (begX (dOf (C 73) d)) (show (0 : Int) ≤ n by omega)
          refine ⟨F', C', ?_, ((miF_tq d).sF (by omega) (by omega)).trans R.1.1⟩
          unfold stateQ
          by_cases c5 : n ≤ runX (dOf (C 73) d) (yOf (C 73) y) n 40 (begX (dOf (C 73) d)) 0 71
          · have ed := m_nowOf S (myF_M Q (x := 698 + 241 * y) c1.1 c1.2) O R (w := w) (by omega) (by omega)
            simp (disch := omega) only [if_true, if_false, not_true_eq_false, not_false_eq_true, zoI_s, zoR_s, zoH_s, zoL_s, zbI_s, zbV_s, zbR_s, zbL_s, zif_dec, i32_0, ne_eq, i32_lt, i32_le, i32_eq, i32_add, i32_mul, i32_sub, i32_neg, zrz_0, zrz_1, zif_t, zif_f, zsF_s, zsF_k, zsF_a, zsC_s, zsC_a, zsC_i, zsW_s, zsW_a, Int.add_zero, Int.zero_add, true_and, false_and, and_false, Bool.false_eq_true, decide_true, decide_false, Bool.true_and, Bool.false_and, Bool.true_or, Bool.false_or, sub1, and_true, if_pos, if_neg, wv_72 S, wr_768 S, wr_769 S, wr_777 S, wr_785 S, wr_786 S, wr_787 S, wr_789 S, wr_790 S, wr_791 S, wr_802 S, wr_803 S, wr_804 S, wr_805 S, wr_806 S, wr_807 S, wr_809 S, wg_770 S, wp_770 S, wg_771 S, wp_771 S, wg_772 S, wp_772 S, wg_773 S, wp_773 S, wg_774 S, wp_774 S, wg_775 S, wp_775 S, wg_776 S, wp_776 S, wg_778 S, wp_778 S, wg_779 S, wp_779 S, wg_780 S, wp_780 S, wg_781 S, wp_781 S, wg_782 S, wp_782 S, wg_783 S, wp_783 S, wg_784 S, wp_784 S, wg_788 S, wp_788 S, wg_792 S, wp_792 S, wg_793 S, wp_793 S, wg_794 S, wp_794 S, wg_795 S, wp_795 S, wg_796 S, wp_796 S, wg_797 S, wp_797 S, wg_798 S, wp_798 S, wg_799 S, wp_799 S, wg_800 S, wp_800 S, wg_801 S, wp_801 S, wg_808 S, wp_808 S, wg_810 S, wp_810 S, m_isD Q, m_isY Q1, e_Model_state, e, e64, ed]
          · simp (disch := omega) only [if_true, if_false, not_true_eq_false, not_false_eq_true, zoI_s, zoR_s, zoH_s, zoL_s, zbI_s, zbV_s, zbR_s, zbL_s, zif_dec, i32_0, ne_eq, i32_lt, i32_le, i32_eq, i32_add, i32_mul, i32_sub, i32_neg, zrz_0, zrz_1, zif_t, zif_f, zsF_s, zsF_k, zsF_a, zsC_s, zsC_a, zsC_i, zsW_s, zsW_a, Int.add_zero, Int.zero_add, true_and, false_and, and_false, Bool.false_eq_true, decide_true, decide_false, Bool.true_and, Bool.false_and, Bool.true_or, Bool.false_or, sub1, and_true, if_pos, if_neg, wv_72 S, wr_768 S, wr_769 S, wr_777 S, wr_785 S, wr_786 S, wr_787 S, wr_789 S, wr_790 S, wr_791 S, wr_802 S, wr_803 S, wr_804 S, wr_805 S, wr_806 S, wr_807 S, wr_809 S, wg_770 S, wp_770 S, wg_771 S, wp_771 S, wg_772 S, wp_772 S, wg_773 S, wp_773 S, wg_774 S, wp_774 S, wg_775 S, wp_775 S, wg_776 S, wp_776 S, wg_778 S, wp_778 S, wg_779 S, wp_779 S, wg_780 S, wp_780 S, wg_781 S, wp_781 S, wg_782 S, wp_782 S, wg_783 S, wp_783 S, wg_784 S, wp_784 S, wg_788 S, wp_788 S, wg_792 S, wp_792 S, wg_793 S, wp_793 S, wg_794 S, wp_794 S, wg_795 S, wp_795 S, wg_796 S, wp_796 S, wg_797 S, wp_797 S, wg_798 S, wp_798 S, wg_799 S, wp_799 S, wg_800 S, wp_800 S, wg_801 S, wp_801 S, wg_808 S, wp_808 S, wg_810 S, wp_810 S, m_isD Q, m_isY Q1, e_Model_state, e, e64]
    · refine ⟨_, C, ?_, miF_tq d⟩
      unfold stateQ
      simp (disch := omega) only [if_true, if_false, not_true_eq_false, not_false_eq_true, zoI_s, zoR_s, zoH_s, zoL_s, zbI_s, zbV_s, zbR_s, zbL_s, zif_dec, i32_0, ne_eq, i32_lt, i32_le, i32_eq, i32_add, i32_mul, i32_sub, i32_neg, zrz_0, zrz_1, zif_t, zif_f, zsF_s, zsF_k, zsF_a, zsC_s, zsC_a, zsC_i, zsW_s, zsW_a, Int.add_zero, Int.zero_add, true_and, false_and, and_false, Bool.false_eq_true, decide_true, decide_false, Bool.true_and, Bool.false_and, Bool.true_or, Bool.false_or, sub1, and_true, if_pos, if_neg, wv_72 S, wr_768 S, wr_769 S, wr_777 S, wr_785 S, wr_786 S, wr_787 S, wr_789 S, wr_790 S, wr_791 S, wr_802 S, wr_803 S, wr_804 S, wr_805 S, wr_806 S, wr_807 S, wr_809 S, wg_770 S, wp_770 S, wg_771 S, wp_771 S, wg_772 S, wp_772 S, wg_773 S, wp_773 S, wg_774 S, wp_774 S, wg_775 S, wp_775 S, wg_776 S, wp_776 S, wg_778 S, wp_778 S, wg_779 S, wp_779 S, wg_780 S, wp_780 S, wg_781 S, wp_781 S, wg_782 S, wp_782 S, wg_783 S, wp_783 S, wg_784 S, wp_784 S, wg_788 S, wp_788 S, wg_792 S, wp_792 S, wg_793 S, wp_793 S, wg_794 S, wp_794 S, wg_795 S, wp_795 S, wg_796 S, wp_796 S, wg_797 S, wp_797 S, wg_798 S, wp_798 S, wg_799 S, wp_799 S, wg_800 S, wp_800 S, wg_801 S, wp_801 S, wg_808 S, wp_808 S, wg_810 S, wp_810 S, m_isD Q, m_isY0 Q1, e_Model_state]
  · refine ⟨F, C, ?_, tq.rfl⟩
    unfold stateQ
    simp (disch := omega) only [if_true, if_false, not_true_eq_false, not_false_eq_true, zoI_s, zoR_s, zoH_s, zoL_s, zbI_s, zbV_s, zbR_s, zbL_s, zif_dec, i32_0, ne_eq, i32_lt, i32_le, i32_eq, i32_add, i32_mul, i32_sub, i32_neg, zrz_0, zrz_1, zif_t, zif_f, zsF_s, zsF_k, zsF_a, zsC_s, zsC_a, zsC_i, zsW_s, zsW_a, Int.add_zero, Int.zero_add, true_and, false_and, and_false, Bool.false_eq_true, decide_true, decide_false, Bool.true_and, Bool.false_and, Bool.true_or, Bool.false_or, sub1, and_true, if_pos, if_neg, wv_72 S, wr_768 S, wr_769 S, wr_777 S, wr_785 S, wr_786 S, wr_787 S, wr_789 S, wr_790 S, wr_791 S, wr_802 S, wr_803 S, wr_804 S, wr_805 S, wr_806 S, wr_807 S, wr_809 S, wg_770 S, wp_770 S, wg_771 S, wp_771 S, wg_772 S, wp_772 S, wg_773 S, wp_773 S, wg_774 S, wp_774 S, wg_775 S, wp_775 S, wg_776 S, wp_776 S, wg_778 S, wp_778 S, wg_779 S, wp_779 S, wg_780 S, wp_780 S, wg_781 S, wp_781 S, wg_782 S, wp_782 S, wg_783 S, wp_783 S, wg_784 S, wp_784 S, wg_788 S, wp_788 S, wg_792 S, wp_792 S, wg_793 S, wp_793 S, wg_794 S, wp_794 S, wg_795 S, wp_795 S, wg_796 S, wp_796 S, wg_797 S, wp_797 S, wg_798 S, wp_798 S, wg_799 S, wp_799 S, wg_800 S, wp_800 S, wg_801 S, wp_801 S, wg_808 S, wp_808 S, wg_810 S, wp_810 S, m_isD0 Q, e_Model_state]
/-! drawn -/
theorem shr_rng (x : Int32) : 0 ≤ (zushr x (i32 16)).toInt ∧ (zushr x (i32 16)).toInt < 65536 := by
  have c : (i32 16).toUInt32 &&& Int32.toUInt32 31 = 16 := by decide
  unfold zushr
  rw [c]
  have u : (x.toUInt32 >>> 16).toNat < 65536 := by
    rw [UInt32.toNat_shiftRight]
    show x.toUInt32.toNat >>> 16 < 65536
    rw [Nat.shiftRight_eq_div_pow]
    have := x.toUInt32.toNat_lt
    omega
  have e : (x.toUInt32 >>> 16).toBitVec.toInt = ((x.toUInt32 >>> 16).toNat : Int) := BitVec.toInt_eq_toNat_of_lt (by show 2 * (x.toUInt32 >>> 16).toNat < 2 ^ 32; omega)
  show 0 ≤ (x.toUInt32 >>> 16).toBitVec.toInt ∧ (x.toUInt32 >>> 16).toBitVec.toInt < 65536
  rw [e]
  omega
def shr16 (s : Int) : Int := (zushr (i32 s) (i32 16)).toInt
theorem shr16_i (s : Int) : zushr (i32 s) (i32 16) = i32 (shr16 s) := (Int32.ofInt_toInt _).symm
theorem shr16_rng (s : Int) : 0 ≤ shr16 s ∧ shr16 s < 65536 := shr_rng _
def nxt (X : Nat → Int → Int) : Nat → Int → Int := zsC X 0 80 (X 0 80 * 1103515245 + 12345)
def blo (X : Nat → Int → Int) (n : Int) : Int := shr16 (X 0 80 * 1103515245 + 12345) % n
theorem blo_rng (X : Nat → Int → Int) {n : Int} (h : 0 < n) : 0 ≤ blo X n ∧ blo X n < n := ⟨Int.emod_nonneg _ (by omega), Int.emod_lt_of_pos _ h⟩
noncomputable def tryX (P : Prop) (X' X : Nat → Int → Int) : Nat → Int → Int := @ite _ P (Classical.propDecidable P) X' X
theorem tryX_t {P : Prop} {X' X : Nat → Int → Int} (h : P) : tryX P X' X = X' := by unfold tryX; rw [if_pos h]
theorem tryX_f {P : Prop} {X' X : Nat → Int → Int} (h : ¬ P) : tryX P X' X = X := by unfold tryX; rw [if_neg h]
noncomputable def drwX (D : Int → Int) (X : Nat → Int → Int) : Nat → Int → Int :=
  if blo X 8 = 7 then slpX D (nxt X) else if blo X 8 = 6 then zsC (nxt (nxt X)) 0 6 (blo (nxt X) 10) else if D 0 = 0 then nxt X
  else if blo X 8 = 5 then tryX (sndP D (nxt (nxt X)) (blo (nxt X) (D 0))) (zsC (nxt (nxt X)) 2 (blo (nxt X) (D 0)) ((nxt (nxt X) 2 (blo (nxt X) (D 0)) + 1) % 8)) (nxt (nxt X))
  else if blo X 8 = 4 then tryX (sndP D (nxt (nxt X)) (blo (nxt X) (D 0))) (zsC (nxt (nxt X)) 1 (blo (nxt X) (D 0)) (wetS (nxt (nxt X) 1 (blo (nxt X) (D 0))))) (nxt (nxt X))
  else if D 1 = 0 ∨ D 2 = 0 then nxt X
  else tryX (sndP D (nxt (nxt (nxt (nxt X)))) (blo (nxt X) (D 0)) ∧ mayP D (nxt (nxt (nxt (nxt X)))) (blo (nxt (nxt X)) (D 1)) ∧ (0 ≤ blo (nxt (nxt (nxt X))) (D 2) ∧ blo (nxt (nxt (nxt X))) (D 2) < D 2)) (askX D (nxt (nxt (nxt (nxt X)))) (blo (nxt X) (D 0)) (blo (nxt (nxt X)) (D 1)) (blo (nxt (nxt (nxt X))) (D 2))) (nxt (nxt (nxt (nxt X))))
theorem cOK.nx {D : Int → Int} {X : Nat → Int → Int} {B : Int} (K : cOK D X B) : cOK D (nxt X) B := K
theorem cOK.drw {D : Int → Int} {X : Nat → Int → Int} {B : Int} (O : dOK D) (K : cOK D X B) : cOK D (drwX D X) (B + 1) := by
  have K1 := K.nx
  have K2 := K1.nx
  have K4 := K2.nx.nx
  have b0 := O.1
  unfold drwX
  split
  · exact K1.slp
  · split
    · exact (K2.mono (by omega)).i6 (by have := blo_rng (nxt X) (n := 10) (by omega); omega)
    · split
      · exact K1.mono (by omega)
      · rename_i c0
        have br := blo_rng (nxt X) (n := D 0) (by omega)
        split
        · by_cases p : sndP D (nxt (nxt X)) (blo (nxt X) (D 0))
          · rw [tryX_t p]
            exact (K2.mono (by omega)).w2 (by omega)
          · rw [tryX_f p]
            exact K2.mono (by omega)
        · split
          · by_cases p : sndP D (nxt (nxt X)) (blo (nxt X) (D 0))
            · rw [tryX_t p]
              have kr := (K2.2.2.2.2.2.2.2.2.2.2.1 _ br.1 br.2).1
              exact (K2.mono (by omega)).w1 (wetS_rng kr.1 kr.2)
            · rw [tryX_f p]
              exact K2.mono (by omega)
          · split
            · exact K1.mono (by omega)
            · by_cases p : (sndP D (nxt (nxt (nxt (nxt X)))) (blo (nxt X) (D 0)) ∧ mayP D (nxt (nxt (nxt (nxt X)))) (blo (nxt (nxt X)) (D 1)) ∧ (0 ≤ blo (nxt (nxt (nxt X))) (D 2) ∧ blo (nxt (nxt (nxt X))) (D 2) < D 2))
              · rw [tryX_t p]
                exact K4.ask O p.1 p.2.1 p.2.2.1 p.2.2.2
              · rw [tryX_f p]
                exact K4.mono (by omega)
theorem drwX_81 (D : Int → Int) (X : Nat → Int → Int) : drwX D X 0 81 = X 0 81 := by
  unfold drwX
  split
  · rfl
  · split
    · rfl
    · split
      · rfl
      · split
        · unfold tryX
          split <;> rfl
        · split
          · unfold tryX
            split <;> rfl
          · split
            · rfl
            · unfold tryX
              split
              · rw [askX_81]; rfl
              · rfl
theorem dT {p : Prop} [Decidable p] (h : p) : decide p = true := decide_eq_true h
theorem dF {p : Prop} [Decidable p] (h : ¬ p) : decide p = false := decide_eq_false h
theorem d77 : decide (i32 7 ≠ i32 7) = false := by decide
theorem d67 : decide (i32 6 ≠ i32 7) = true := by decide
theorem d66 : decide (i32 6 ≠ i32 6) = false := by decide
theorem d57 : decide (i32 5 ≠ i32 7) = true := by decide
theorem d56 : decide (i32 5 ≠ i32 6) = true := by decide
theorem d55 : decide (i32 5 ≠ i32 5) = false := by decide
theorem d47 : decide (i32 4 ≠ i32 7) = true := by decide
theorem d46 : decide (i32 4 ≠ i32 6) = true := by decide
theorem d45 : decide (i32 4 ≠ i32 5) = true := by decide
theorem d44 : decide (i32 4 ≠ i32 4) = false := by decide
theorem d0le : decide (i32 0 ≤ 0) = true := by decide
theorem d0eq : decide (i32 0 = 0) = true := by decide
theorem d0ne : decide (i32 0 ≠ 0) = false := by decide
theorem d4le5 : decide (i32 4 ≤ i32 5) = true := by decide
theorem d5le3 : decide (i32 5 ≤ i32 3) = false := by decide
theorem d4le4 : decide (i32 4 ≤ i32 4) = true := by decide
theorem d4le3 : decide (i32 4 ≤ i32 3) = false := by decide
section C5
variable {h : zHeap} {F0 F : Nat → Nat → Int} {C0 C X : Nat → Int → Int} {a : Nat} {D : Int → Int} {B : Int}
theorem c_below (S : St h) (R : crC F0 C0 D F C X) (hf : X 0 81 = 0) {n : Int} (n0 : 0 < n) (n1 : n ≤ 1000) : ∃ F', zc 26 [zR (some 50), zI (i32 n)] (zw h F C) = some (zI (i32 (blo X n)), zw h F' C) ∧ crC F0 C0 D F' C (nxt X) := by
  have e80 : F 80 50 = X 0 80 := R.2.1.2.2.2.2.2.2.2.2.2.2 hf
  have sr := shr16_rng (X 0 80 * 1103515245 + 12345)
  refine ⟨_, ?_, R.f80 (X 0 80 * 1103515245 + 12345)⟩
  rw [e_Course_below]
  simp (disch := omega) only [if_true, if_false, not_true_eq_false, not_false_eq_true, zoI_s, zoR_s, zoH_s, zoL_s, zbI_s, zbV_s, zbR_s, zbL_s, zif_dec, i32_0, ne_eq, i32_lt, i32_le, i32_eq, i32_add, i32_mul, i32_sub, i32_neg, zrz_0, zrz_1, zif_t, zif_f, zsF_s, zsF_k, zsF_a, zsC_s, zsC_a, zsC_i, zsW_s, zsW_a, Int.add_zero, Int.zero_add, true_and, false_and, and_false, Bool.false_eq_true, decide_true, decide_false, Bool.true_and, Bool.false_and, Bool.true_or, Bool.false_or, sub1, and_true, if_pos, if_neg, wv_50 S, wr_66 S, wr_67 S, wr_68 S, wr_69 S, wr_70 S, wr_71 S, wg_64 S, wp_64 S, wg_65 S, wp_65 S, wg_72 S, wp_72 S, wg_73 S, wp_73 S, wg_74 S, wp_74 S, wg_75 S, wp_75 S, wg_76 S, wp_76 S, wg_77 S, wp_77 S, wg_78 S, wp_78 S, wg_79 S, wp_79 S, wg_80 S, wp_80 S, e80, shr16_i, i32_rem]
  rfl
theorem m_below (S : St h) (R : mrC F0 C0 D F C X) (hf : X 0 81 = 0) {n : Int} (n0 : 0 < n) (n1 : n ≤ 1000) : ∃ F', zc 317 [zR (some 72), zI (i32 n)] (zw h F C) = some (zI (i32 (blo X n)), zw h F' C) ∧ mrC F0 C0 D F' C (nxt X) := by
  have e80 : F 810 72 = X 0 80 := R.2.1.2.2.2.2.2.2.2.2.2 hf
  have sr := shr16_rng (X 0 80 * 1103515245 + 12345)
  refine ⟨_, ?_, R.f810 (X 0 80 * 1103515245 + 12345)⟩
  rw [e_Model_below]
  simp (disch := omega) only [if_true, if_false, not_true_eq_false, not_false_eq_true, zoI_s, zoR_s, zoH_s, zoL_s, zbI_s, zbV_s, zbR_s, zbL_s, zif_dec, i32_0, ne_eq, i32_lt, i32_le, i32_eq, i32_add, i32_mul, i32_sub, i32_neg, zrz_0, zrz_1, zif_t, zif_f, zsF_s, zsF_k, zsF_a, zsC_s, zsC_a, zsC_i, zsW_s, zsW_a, Int.add_zero, Int.zero_add, true_and, false_and, and_false, Bool.false_eq_true, decide_true, decide_false, Bool.true_and, Bool.false_and, Bool.true_or, Bool.false_or, sub1, and_true, if_pos, if_neg, wv_72 S, wr_768 S, wr_769 S, wr_777 S, wr_785 S, wr_786 S, wr_787 S, wr_789 S, wr_790 S, wr_791 S, wr_802 S, wr_803 S, wr_804 S, wr_805 S, wr_806 S, wr_807 S, wr_809 S, wg_770 S, wp_770 S, wg_771 S, wp_771 S, wg_772 S, wp_772 S, wg_773 S, wp_773 S, wg_774 S, wp_774 S, wg_775 S, wp_775 S, wg_776 S, wp_776 S, wg_778 S, wp_778 S, wg_779 S, wp_779 S, wg_780 S, wp_780 S, wg_781 S, wp_781 S, wg_782 S, wp_782 S, wg_783 S, wp_783 S, wg_784 S, wp_784 S, wg_788 S, wp_788 S, wg_792 S, wp_792 S, wg_793 S, wp_793 S, wg_794 S, wp_794 S, wg_795 S, wp_795 S, wg_796 S, wp_796 S, wg_797 S, wp_797 S, wg_798 S, wp_798 S, wg_799 S, wp_799 S, wg_800 S, wp_800 S, wg_801 S, wp_801 S, wg_808 S, wp_808 S, wg_810 S, wp_810 S, e80, shr16_i, i32_rem]
  rfl
theorem c_drawDeed (S : St h) (H : duS h a) (V : duV F0 C0 a D) (O : dOK D) (ha : a ≤ 28) (R : crC F0 C0 D F C X) (K : cOK D X B) (hB : B ≤ 1000) (hf : X 0 81 = 0) : ∃ F' C', zc 25 [zR (some 50), zR (some a)] (zw h F C) = some (zI 0, zw h F' C') ∧ crC F0 C0 D F' C' (drwX D X) := by
  have b0 := O.1
  have b1 := O.2.1
  have b2 := O.2.2.1
  obtain ⟨F1, e1, R1⟩ := c_below S R hf (n := 8) (by omega) (by omega)
  have kr := blo_rng X (n := 8) (by omega)
  have V1 := V.tq R1.1 ha
  have K1 := K.nx
  have u0 : (0 ≤ blo X 8 ∧ blo X 8 < 8) := kr
  have v0 : F1 128 a = D 0 := V1.1.1
  have v1 : F1 129 a = D 1 := V1.1.2.1
  have v2 : F1 130 a = D 2 := V1.1.2.2.1
  unfold drwX
  by_cases c7 : blo X 8 = 7
  · rw [if_pos c7]
    obtain ⟨F2, C2, e2, R2⟩ := c_sleep S H V O ha R1 K1 hB
    refine ⟨F2, C2, ?_, R2⟩
    simp only [zoI_s, zoR_s, zoH_s, zoL_s, zbI_s, zbV_s, zbR_s, zbL_s, zif_t, zif_f, zrz_0, zrz_1, e_Course_drawDeed, wv_50 S, e1, c7, d77, e2]
  · rw [if_neg c7]
    by_cases c6 : blo X 8 = 6
    · rw [if_pos c6]
      obtain ⟨F2, e2, R2⟩ := c_below S R1 hf (n := 10) (by omega) (by omega)
      refine ⟨_, C, ?_, R2.f78 _⟩
      simp only [zoI_s, zoR_s, zoH_s, zoL_s, zbI_s, zbV_s, zbR_s, zbL_s, zif_t, zif_f, zrz_0, zrz_1, e_Course_drawDeed, wv_50 S, e1, c6, d67, d66, e2, wp_78 S]
    · rw [if_neg c6]
      have k7 : decide (i32 (blo X 8) ≠ i32 7) = true := dT (by rw [ne_eq, i32_eq (by omega) (by omega) (by omega) (by omega)]; exact c7)
      have k6 : decide (i32 (blo X 8) ≠ i32 6) = true := dT (by rw [ne_eq, i32_eq (by omega) (by omega) (by omega) (by omega)]; exact c6)
      by_cases c0 : D 0 = 0
      · rw [if_pos c0]
        refine ⟨F1, C, ?_, R1⟩
        simp only [zoI_s, zoR_s, zoH_s, zoL_s, zbI_s, zbV_s, zbR_s, zbL_s, zif_t, zif_f, zrz_0, zrz_1, e_Course_drawDeed, wv_50 S, e1, k7, k6, dg_128 H, v0, c0, d0le, e_Course_drawDeed_35]
      · rw [if_neg c0]
        have k0 : decide (i32 (D 0) ≤ 0) = false := dF (by rw [i32_0, i32_le (by omega) (by omega) (by omega) (by omega)]; omega)
        obtain ⟨F2, e2, R2⟩ := c_below S R1 hf (n := D 0) (by omega) (by omega)
        have br := blo_rng (nxt X) (n := D 0) (by omega)
        have V2 := V.tq R2.1 ha
        by_cases c5 : blo X 8 = 5
        · rw [if_pos c5]
          by_cases p : sndP D (nxt (nxt X)) (blo (nxt X) (D 0))
          · rw [tryX_t p]
            obtain ⟨C3, e3, R3⟩ := c_trim S H V O ha R2 K1.nx p
            refine ⟨F2, C3, ?_, R3⟩
            simp only [zoI_s, zoR_s, zoH_s, zoL_s, zbI_s, zbV_s, zbR_s, zbL_s, zif_t, zif_f, zrz_0, zrz_1, e_Course_drawDeed, wv_50 S, e1, c5, d57, d56, d55, dg_128 H, v0, k0, e2, e3]
          · rw [tryX_f p]
            refine ⟨F2, C, ?_, R2⟩
            have e3 := c_trim0 S H V O ha R2 K1.nx (r := blo (nxt X) (D 0)) (by omega) (by omega) p
            simp only [zoI_s, zoR_s, zoH_s, zoL_s, zbI_s, zbV_s, zbR_s, zbL_s, zif_t, zif_f, zrz_0, zrz_1, e_Course_drawDeed, wv_50 S, e1, c5, d57, d56, d55, dg_128 H, v0, k0, e2, e3]
        · rw [if_neg c5]
          have k5 : decide (i32 (blo X 8) ≠ i32 5) = true := dT (by rw [ne_eq, i32_eq (by omega) (by omega) (by omega) (by omega)]; exact c5)
          by_cases c4 : blo X 8 = 4
          · rw [if_pos c4]
            by_cases p : sndP D (nxt (nxt X)) (blo (nxt X) (D 0))
            · rw [tryX_t p]
              obtain ⟨C3, e3, R3⟩ := c_moisten S H V O ha R2 K1.nx p
              refine ⟨F2, C3, ?_, R3⟩
              simp only [zoI_s, zoR_s, zoH_s, zoL_s, zbI_s, zbV_s, zbR_s, zbL_s, zif_t, zif_f, zrz_0, zrz_1, e_Course_drawDeed, wv_50 S, e1, c4, d47, d46, d45, d44, dg_128 H, v0, k0, e_Course_drawDeed_35, e2, e3]
            · rw [tryX_f p]
              refine ⟨F2, C, ?_, R2⟩
              have e3 := c_moisten0 S H V O ha R2 K1.nx (r := blo (nxt X) (D 0)) (by omega) (by omega) p
              simp only [zoI_s, zoR_s, zoH_s, zoL_s, zbI_s, zbV_s, zbR_s, zbL_s, zif_t, zif_f, zrz_0, zrz_1, e_Course_drawDeed, wv_50 S, e1, c4, d47, d46, d45, d44, dg_128 H, v0, k0, e_Course_drawDeed_35, e2, e3]
          · rw [if_neg c4]
            have k4 : decide (i32 (blo X 8) ≠ i32 4) = true := dT (by rw [ne_eq, i32_eq (by omega) (by omega) (by omega) (by omega)]; exact c4)
            by_cases c12 : D 1 = 0 ∨ D 2 = 0
            · rw [if_pos c12]
              refine ⟨F1, C, ?_, R1⟩
              by_cases c1 : D 1 = 0
              · simp only [zoI_s, zoR_s, zoH_s, zoL_s, zbI_s, zbV_s, zbR_s, zbL_s, zif_t, zif_f, zrz_0, zrz_1, e_Course_drawDeed, wv_50 S, e1, k7, k6, k5, k4, dg_128 H, dg_129 H, v0, v1, k0, c1, d0le, e_Course_drawDeed_35]
              · have k1 : decide (i32 (D 1) ≤ 0) = false := dF (by rw [i32_0, i32_le (by omega) (by omega) (by omega) (by omega)]; omega)
                have c2 : D 2 = 0 := by omega
                simp only [zoI_s, zoR_s, zoH_s, zoL_s, zbI_s, zbV_s, zbR_s, zbL_s, zif_t, zif_f, zrz_0, zrz_1, e_Course_drawDeed, wv_50 S, e1, k7, k6, k5, k4, dg_128 H, dg_129 H, dg_130 H, v0, v1, v2, k0, k1, c2, d0le, e_Course_drawDeed_35]
            · rw [if_neg c12]
              have k1 : decide (i32 (D 1) ≤ 0) = false := dF (by rw [i32_0, i32_le (by omega) (by omega) (by omega) (by omega)]; omega)
              have k2 : decide (i32 (D 2) ≤ 0) = false := dF (by rw [i32_0, i32_le (by omega) (by omega) (by omega) (by omega)]; omega)
              obtain ⟨F3, e3, R3⟩ := c_below S R2 hf (n := D 1) (by omega) (by omega)
              obtain ⟨F4, e4, R4⟩ := c_below S R3 hf (n := D 2) (by omega) (by omega)
              have pr := blo_rng (nxt (nxt X)) (n := D 1) (by omega)
              have qr := blo_rng (nxt (nxt (nxt X))) (n := D 2) (by omega)
              have v3 : F2 129 a = D 1 := V2.1.2.1
              have v4 : F3 130 a = D 2 := (V.tq R3.1 ha).1.2.2.1
              by_cases p : (sndP D (nxt (nxt (nxt (nxt X)))) (blo (nxt X) (D 0)) ∧ mayP D (nxt (nxt (nxt (nxt X)))) (blo (nxt (nxt X)) (D 1)) ∧ (0 ≤ blo (nxt (nxt (nxt X))) (D 2) ∧ blo (nxt (nxt (nxt X))) (D 2) < D 2))
              · rw [tryX_t p]
                obtain ⟨F5, C5, e5, R5⟩ := c_ask S H V O ha R4 K1.nx.nx.nx p.1 p.2.1 p.2.2.1 p.2.2.2 hB
                refine ⟨F5, C5, ?_, R5⟩
                simp only [zoI_s, zoR_s, zoH_s, zoL_s, zbI_s, zbV_s, zbR_s, zbL_s, zif_t, zif_f, zrz_0, zrz_1, e_Course_drawDeed, wv_50 S, e1, k7, k6, k5, k4, dg_128 H, dg_129 H, dg_130 H, v0, v1, v2, v3, v4, k0, k1, k2, e_Course_drawDeed_35, e2, e3, e4, e5]
              · rw [tryX_f p]
                refine ⟨F4, C, ?_, R4⟩
                have e5 := c_ask0 S H V O ha R4 K1.nx.nx.nx (r := blo (nxt X) (D 0)) (p := blo (nxt (nxt X)) (D 1)) (q := blo (nxt (nxt (nxt X))) (D 2)) (by omega) (by omega) (by omega) (by omega) (by omega) (by omega) p
                simp only [zoI_s, zoR_s, zoH_s, zoL_s, zbI_s, zbV_s, zbR_s, zbL_s, zif_t, zif_f, zrz_0, zrz_1, e_Course_drawDeed, wv_50 S, e1, k7, k6, k5, k4, dg_128 H, dg_129 H, dg_130 H, v0, v1, v2, v3, v4, k0, k1, k2, e_Course_drawDeed_35, e2, e3, e4, e5]
theorem m_draws (S : St h) (M : moV F0 C0 D) (O : dOK D) (R : mrC F0 C0 D F C X) (K : cOK D X B) (hB : B ≤ 98) (hf : X 0 81 = 0) : ∃ F' C', zc 318 [zR (some 72)] (zw h F C) = some (zI 0, zw h F' C') ∧ mrC F0 C0 D F' C' (drwX D X) := by
  have b0 := O.1
  have b1 := O.2.1
  have b2 := O.2.2.1
  obtain ⟨F1, e1, R1⟩ := m_below S R hf (n := 8) (by omega) (by omega)
  have kr := blo_rng X (n := 8) (by omega)
  have K1 := K.nx
  have m0 : F1 779 72 = D 0 := (R1.mo M).2.1.1
  have m1 : F1 780 72 = D 1 := (R1.mo M).2.1.2.1
  have m2 : F1 781 72 = D 2 := (R1.mo M).2.1.2.2
  unfold drwX
  by_cases c7 : blo X 8 = 7
  · rw [if_pos c7]
    obtain ⟨F2, C2, e2, R2⟩ := m_sleeps S M O R1 K1 hB
    refine ⟨F2, C2, ?_, R2⟩
    simp only [zoI_s, zoR_s, zoH_s, zoL_s, zbI_s, zbV_s, zbR_s, zbL_s, zif_t, zif_f, zrz_0, zrz_1, e_Model_draws, wv_72 S, e1, c7, d77, e2]
  · rw [if_neg c7]
    by_cases c6 : blo X 8 = 6
    · rw [if_pos c6]
      obtain ⟨F2, e2, R2⟩ := m_below S R1 hf (n := 10) (by omega) (by omega)
      refine ⟨_, C, ?_, R2.f799 _⟩
      simp only [zoI_s, zoR_s, zoH_s, zoL_s, zbI_s, zbV_s, zbR_s, zbL_s, zif_t, zif_f, zrz_0, zrz_1, e_Model_draws, wv_72 S, e1, c6, d67, d66, e2, wp_799 S]
    · rw [if_neg c6]
      have k7 : decide (i32 (blo X 8) ≠ i32 7) = true := dT (by rw [ne_eq, i32_eq (by omega) (by omega) (by omega) (by omega)]; exact c7)
      have k6 : decide (i32 (blo X 8) ≠ i32 6) = true := dT (by rw [ne_eq, i32_eq (by omega) (by omega) (by omega) (by omega)]; exact c6)
      by_cases c0 : D 0 = 0
      · rw [if_pos c0]
        refine ⟨F1, C, ?_, R1⟩
        simp only [zoI_s, zoR_s, zoH_s, zoL_s, zbI_s, zbV_s, zbR_s, zbL_s, zif_t, zif_f, zrz_0, zrz_1, e_Model_draws, wv_72 S, e1, k7, k6, wg_779 S, m0, c0, d0eq]
      · rw [if_neg c0]
        have k0 : decide (i32 (D 0) = 0) = false := dF (by rw [i32_0, i32_eq (by omega) (by omega) (by omega) (by omega)]; omega)
        obtain ⟨F2, e2, R2⟩ := m_below S R1 hf (n := D 0) (by omega) (by omega)
        have br := blo_rng (nxt X) (n := D 0) (by omega)
        by_cases c5 : blo X 8 = 5
        · rw [if_pos c5]
          by_cases p : sndP D (nxt (nxt X)) (blo (nxt X) (D 0))
          · rw [tryX_t p]
            obtain ⟨C3, e3, R3⟩ := m_cuts S M O R2 K1.nx p
            refine ⟨F2, C3, ?_, R3⟩
            simp only [zoI_s, zoR_s, zoH_s, zoL_s, zbI_s, zbV_s, zbR_s, zbL_s, zif_t, zif_f, zrz_0, zrz_1, e_Model_draws, wv_72 S, e1, c5, d57, d56, d4le5, d5le3, d55, wg_779 S, m0, k0, e2, e3]
          · rw [tryX_f p]
            refine ⟨F2, C, ?_, R2⟩
            have e3 := m_treats0 S M O R2 K1.nx (r := blo (nxt X) (D 0)) (t := 1) (by omega) (by omega) p
            simp only [zoI_s, zoR_s, zoH_s, zoL_s, zbI_s, zbV_s, zbR_s, zbL_s, zif_t, zif_f, zrz_0, zrz_1, e_Model_draws, wv_72 S, e1, c5, d57, d56, d4le5, d5le3, d55, wg_779 S, m0, k0, e2, e3]
        · rw [if_neg c5]
          by_cases c4 : blo X 8 = 4
          · rw [if_pos c4]
            by_cases p : sndP D (nxt (nxt X)) (blo (nxt X) (D 0))
            · rw [tryX_t p]
              obtain ⟨C3, e3, R3⟩ := m_wettens S M O R2 K1.nx p
              refine ⟨F2, C3, ?_, R3⟩
              simp only [zoI_s, zoR_s, zoH_s, zoL_s, zbI_s, zbV_s, zbR_s, zbL_s, zif_t, zif_f, zrz_0, zrz_1, e_Model_draws, wv_72 S, e1, c4, d47, d46, d4le4, d4le3, d45, wg_779 S, m0, k0, e2, e3]
            · rw [tryX_f p]
              refine ⟨F2, C, ?_, R2⟩
              have e3 := m_treats0 S M O R2 K1.nx (r := blo (nxt X) (D 0)) (t := 0) (by omega) (by omega) p
              simp only [zoI_s, zoR_s, zoH_s, zoL_s, zbI_s, zbV_s, zbR_s, zbL_s, zif_t, zif_f, zrz_0, zrz_1, e_Model_draws, wv_72 S, e1, c4, d47, d46, d4le4, d4le3, d45, wg_779 S, m0, k0, e2, e3]
          · rw [if_neg c4]
            have k4 : decide (i32 4 ≤ i32 (blo X 8)) = false := dF (by rw [i32_le (by omega) (by omega) (by omega) (by omega)]; omega)
            have k3 : decide (i32 (blo X 8) ≤ i32 3) = true := dT (by rw [i32_le (by omega) (by omega) (by omega) (by omega)]; omega)
            by_cases c12 : D 1 = 0 ∨ D 2 = 0
            · rw [if_pos c12]
              refine ⟨F1, C, ?_, R1⟩
              by_cases c1 : D 1 = 0
              · simp only [zoI_s, zoR_s, zoH_s, zoL_s, zbI_s, zbV_s, zbR_s, zbL_s, zif_t, zif_f, zrz_0, zrz_1, e_Model_draws, wv_72 S, e1, k7, k6, k4, wg_779 S, wg_780 S, m0, m1, k0, c1, d0eq]
              · have k1 : decide (i32 (D 1) = 0) = false := dF (by rw [i32_0, i32_eq (by omega) (by omega) (by omega) (by omega)]; omega)
                have c2 : D 2 = 0 := by omega
                simp only [zoI_s, zoR_s, zoH_s, zoL_s, zbI_s, zbV_s, zbR_s, zbL_s, zif_t, zif_f, zrz_0, zrz_1, e_Model_draws, wv_72 S, e1, k7, k6, k4, wg_779 S, wg_780 S, wg_781 S, m0, m1, m2, k0, k1, c2, d0ne]
            · rw [if_neg c12]
              have k1 : decide (i32 (D 1) = 0) = false := dF (by rw [i32_0, i32_eq (by omega) (by omega) (by omega) (by omega)]; omega)
              have k2 : decide (i32 (D 2) ≠ 0) = true := dT (by rw [i32_0, ne_eq, i32_eq (by omega) (by omega) (by omega) (by omega)]; omega)
              obtain ⟨F3, e3, R3⟩ := m_below S R2 hf (n := D 1) (by omega) (by omega)
              obtain ⟨F4, e4, R4⟩ := m_below S R3 hf (n := D 2) (by omega) (by omega)
              have pr := blo_rng (nxt (nxt X)) (n := D 1) (by omega)
              have qr := blo_rng (nxt (nxt (nxt X))) (n := D 2) (by omega)
              have m3 : F2 780 72 = D 1 := (R2.mo M).2.1.2.1
              have m4 : F3 781 72 = D 2 := (R3.mo M).2.1.2.2
              by_cases p : (sndP D (nxt (nxt (nxt (nxt X)))) (blo (nxt X) (D 0)) ∧ mayP D (nxt (nxt (nxt (nxt X)))) (blo (nxt (nxt X)) (D 1)) ∧ (0 ≤ blo (nxt (nxt (nxt X))) (D 2) ∧ blo (nxt (nxt (nxt X))) (D 2) < D 2))
              · rw [tryX_t p]
                obtain ⟨F5, C5, e5, R5⟩ := m_asks S M O R4 K1.nx.nx.nx p.1 p.2.1 p.2.2.1 p.2.2.2 (by omega)
                refine ⟨F5, C5, ?_, R5⟩
                simp only [zoI_s, zoR_s, zoH_s, zoL_s, zbI_s, zbV_s, zbR_s, zbL_s, zif_t, zif_f, zrz_0, zrz_1, e_Model_draws, wv_72 S, e1, k7, k6, k4, k3, wg_779 S, wg_780 S, wg_781 S, m0, m1, m2, m3, m4, k0, k1, k2, e2, e3, e4, e5]
              · rw [tryX_f p]
                refine ⟨F4, C, ?_, R4⟩
                have e5 := m_asks0 S M O R4 K1.nx.nx.nx (r := blo (nxt X) (D 0)) (p := blo (nxt (nxt X)) (D 1)) (q := blo (nxt (nxt (nxt X))) (D 2)) (by omega) (by omega) (by omega) (by omega) (by omega) (by omega) p
                simp only [zoI_s, zoR_s, zoH_s, zoL_s, zbI_s, zbV_s, zbR_s, zbL_s, zif_t, zif_f, zrz_0, zrz_1, e_Model_draws, wv_72 S, e1, k7, k6, k4, k3, wg_779 S, wg_780 S, wg_781 S, m0, m1, m2, m3, m4, k0, k1, k2, e2, e3, e4, e5]
end C5
noncomputable def drwN (D : Int → Int) (X : Nat → Int → Int) : Nat → (Nat → Int → Int)
  | 0 => X
  | j + 1 => drwX D (drwN D X j)
theorem drwN_s (D : Int → Int) (X : Nat → Int → Int) {k : Int} (h : 0 ≤ k) : drwN D X (k + 1).toNat = drwX D (drwN D X k.toNat) := by
  rw [show (k + 1).toNat = k.toNat + 1 by omega]; rfl
def begS (D : Int → Int) (s : Int) : Nat → Int → Int := zsC (zsC (begX D) 0 81 0) 0 80 s
noncomputable def drawnQ (A : Int → Int) (d s n w : Int) : Int := if (0 ≤ d ∧ d < A 0) ∧ (0 ≤ n ∧ n ≤ 60) then nowS (dOf A d) (drwN (dOf A d) (begS (dOf A d) s) n.toNat) w else -2
theorem c_drawn {d s n w : Int} (hd : inI d) (hs : inI s) (hn : inI n) (hw : inI w) : ans1 169 0 [zI (i32 d), zI (i32 s), zI (i32 n), zI (i32 w)] (fun A => zI (i32 (drawnQ A d s n w))) := by
  intro h F C Q
  have S := Q.1
  unfold inI at hd hs hn hw
  unfold drawnQ
  by_cases c1 : 0 ≤ d ∧ d < C 73 0
  · by_cases c2 : 0 ≤ n ∧ n ≤ 60
    · have H := Q.dS c1.1 c1.2
      have V := Q.dV c1.1 c1.2
      have O := Q.dO c1.1 c1.2
      have o := Q.2.2.1
      have ha : 8 + 13 * d.toNat ≤ 28 := by omega
      obtain ⟨F1, C1, e1, R1⟩ := c_begin S H V O ha
      have R2 : crC F C (dOf (C 73) d) (zsF F1 80 50 s) C1 (begS (dOf (C 73) d) s) := by
        obtain ⟨t, ⟨i0, i1, i2, i3, i4, i5, i6, i7, i8, i9, i10⟩, rr⟩ := R1
        exact ⟨t.sF (by omega) (by omega), ⟨i0, i1, i2, i3, i4, i5, i6, i7, i8, i9, fun _ => rfl⟩, rr⟩
      obtain ⟨⟨F3, C3⟩, e3, R3, K3, f3⟩ := zinv (fun k (q : (Nat → Nat → Int) × (Nat → Int → Int)) => zr 24 8 [yR (some 50), yR (some ((8 + 13 * d.toNat))), yI (i32 s), yI (i32 n), yI (i32 k)] [] (zw h q.1 q.2)) (fun k q => crC F C (dOf (C 73) d) q.1 q.2 (drwN (dOf (C 73) d) (begS (dOf (C 73) d) s) k.toNat) ∧ cOK (dOf (C 73) d) (drwN (dOf (C 73) d) (begS (dOf (C 73) d) s) k.toNat) k ∧ drwN (dOf (C 73) d) (begS (dOf (C 73) d) s) k.toNat 0 81 = 0) 0 n c2.1 (fun k q k0 k1 I => by
        obtain ⟨Rk, Kk, fk⟩ := I
        obtain ⟨F', C', e, R'⟩ := c_drawDeed S H V O ha Rk Kk (by omega) fk
        refine ⟨(F', C'), ?_, ?_⟩
        · rw [e_Course_draw_8]
          simp (disch := omega) only [if_true, if_false, not_true_eq_false, not_false_eq_true, zoI_s, zoR_s, zoH_s, zoL_s, zbI_s, zbV_s, zbR_s, zbL_s, zif_dec, i32_0, ne_eq, i32_lt, i32_le, i32_eq, i32_add, i32_mul, i32_sub, i32_neg, zrz_0, zrz_1, zif_t, zif_f, zsF_s, zsF_k, zsF_a, zsC_s, zsC_a, zsC_i, zsW_s, zsW_a, Int.add_zero, Int.zero_add, true_and, false_and, and_false, Bool.false_eq_true, decide_true, decide_false, Bool.true_and, Bool.false_and, Bool.true_or, Bool.false_or, sub1, and_true, if_pos, if_neg, wv_50 S, wr_66 S, wr_67 S, wr_68 S, wr_69 S, wr_70 S, wr_71 S, wg_64 S, wp_64 S, wg_65 S, wp_65 S, wg_72 S, wp_72 S, wg_73 S, wp_73 S, wg_74 S, wp_74 S, wg_75 S, wp_75 S, wg_76 S, wp_76 S, wg_77 S, wp_77 S, wg_78 S, wp_78 S, wg_79 S, wp_79 S, wg_80 S, wp_80 S, e]
        · rw [drwN_s _ _ k0]
          exact ⟨R', Kk.drw O, (drwX_81 _ _).trans fk⟩) (zsF F1 80 50 s, C1) ⟨R2, cOK.beg O, rfl⟩
      refine ⟨F3, C3, ?_, R3.1⟩
      have ed := c_detailC S H V O ha R3 (w := w) (by omega) (by omega)
      dsimp only at e3
      simp (disch := omega) only [if_true, if_false, not_true_eq_false, not_false_eq_true, zoI_s, zoR_s, zoH_s, zoL_s, zbI_s, zbV_s, zbR_s, zbL_s, zif_dec, i32_0, ne_eq, i32_lt, i32_le, i32_eq, i32_add, i32_mul, i32_sub, i32_neg, zrz_0, zrz_1, zif_t, zif_f, zsF_s, zsF_k, zsF_a, zsC_s, zsC_a, zsC_i, zsW_s, zsW_a, Int.add_zero, Int.zero_add, true_and, false_and, and_false, Bool.false_eq_true, decide_true, decide_false, Bool.true_and, Bool.false_and, Bool.true_or, Bool.false_or, sub1, and_true, if_pos, if_neg, wv_0 S, wr_704 S, wr_705 S, wr_706 S, wr_707 S, wr_708 S, wr_709 S, wr_710 S, wr_711 S, wv_68 S, wr_384 S, wr_385 S, wr_386 S, tv_1 S, dv H, dg_128 H, dp_128 H, dg_129 H, dp_129 H, dg_130 H, dp_130 H, dg_131 H, dp_131 H, dr_132 H, da_132 H, dr_133 H, da_133 H, dr_134 H, da_134 H, dr_135 H, da_135 H, dr_136 H, da_136 H, dr_137 H, da_137 H, c_dAt Q, Option.isNone_some, Option.isSome_some, c_hasReed H V O, c_hasPlayer H V O, c_hasQuestion H V O, c_hasAll H V O, c_isAnswer, c_within, ib_0, e_Main_drawn, e_Course_draw, wv_50 S, wr_66 S, wr_67 S, wr_68 S, wr_69 S, wr_70 S, wr_71 S, wg_64 S, wp_64 S, wg_65 S, wp_65 S, wg_72 S, wp_72 S, wg_73 S, wp_73 S, wg_74 S, wp_74 S, wg_75 S, wp_75 S, wg_76 S, wp_76 S, wg_77 S, wp_77 S, wg_78 S, wp_78 S, wg_79 S, wp_79 S, wg_80 S, wp_80 S, e1]
      rw [e3, e_Course_draw_8]
      simp (disch := omega) only [if_true, if_false, not_true_eq_false, not_false_eq_true, zoI_s, zoR_s, zoH_s, zoL_s, zbI_s, zbV_s, zbR_s, zbL_s, zif_dec, i32_0, ne_eq, i32_lt, i32_le, i32_eq, i32_add, i32_mul, i32_sub, i32_neg, zrz_0, zrz_1, zif_t, zif_f, zsF_s, zsF_k, zsF_a, zsC_s, zsC_a, zsC_i, zsW_s, zsW_a, Int.add_zero, Int.zero_add, true_and, false_and, and_false, Bool.false_eq_true, decide_true, decide_false, Bool.true_and, Bool.false_and, Bool.true_or, Bool.false_or, sub1, and_true, if_pos, if_neg, wv_0 S, wr_704 S, wr_705 S, wr_706 S, wr_707 S, wr_708 S, wr_709 S, wr_710 S, wr_711 S, wv_50 S, wr_66 S, wr_67 S, wr_68 S, wr_69 S, wr_70 S, wr_71 S, wg_64 S, wp_64 S, wg_65 S, wp_65 S, wg_72 S, wp_72 S, wg_73 S, wp_73 S, wg_74 S, wp_74 S, wg_75 S, wp_75 S, wg_76 S, wp_76 S, wg_77 S, wp_77 S, wg_78 S, wp_78 S, wg_79 S, wp_79 S, wg_80 S, wp_80 S, ed]
    · refine ⟨F, C, ?_, tq.rfl⟩
      simp (disch := omega) only [if_true, if_false, not_true_eq_false, not_false_eq_true, zoI_s, zoR_s, zoH_s, zoL_s, zbI_s, zbV_s, zbR_s, zbL_s, zif_dec, i32_0, ne_eq, i32_lt, i32_le, i32_eq, i32_add, i32_mul, i32_sub, i32_neg, zrz_0, zrz_1, zif_t, zif_f, zsF_s, zsF_k, zsF_a, zsC_s, zsC_a, zsC_i, zsW_s, zsW_a, Int.add_zero, Int.zero_add, true_and, false_and, and_false, Bool.false_eq_true, decide_true, decide_false, Bool.true_and, Bool.false_and, Bool.true_or, Bool.false_or, sub1, and_true, if_pos, if_neg, wv_0 S, wr_704 S, wr_705 S, wr_706 S, wr_707 S, wr_708 S, wr_709 S, wr_710 S, wr_711 S, tv_1 S, c_dAt Q, Option.isNone_some, Option.isSome_some, c_within, ib_0, e_Main_drawn]
  · refine ⟨F, C, ?_, tq.rfl⟩
    simp (disch := omega) only [if_true, if_false, not_true_eq_false, not_false_eq_true, zoI_s, zoR_s, zoH_s, zoL_s, zbI_s, zbV_s, zbR_s, zbL_s, zif_dec, i32_0, ne_eq, i32_lt, i32_le, i32_eq, i32_add, i32_mul, i32_sub, i32_neg, zrz_0, zrz_1, zif_t, zif_f, zsF_s, zsF_k, zsF_a, zsC_s, zsC_a, zsC_i, zsW_s, zsW_a, Int.add_zero, Int.zero_add, true_and, false_and, and_false, Bool.false_eq_true, decide_true, decide_false, Bool.true_and, Bool.false_and, Bool.true_or, Bool.false_or, sub1, and_true, if_pos, if_neg, wv_0 S, wr_704 S, wr_705 S, wr_706 S, wr_707 S, wr_708 S, wr_709 S, wr_710 S, wr_711 S, tv_1 S, c_dAt0 Q, Option.isNone_none, Option.isSome_none, e_Main_drawn]
theorem m_drawn {d s n w : Int} (hd : inI d) (hs : inI s) (hn : inI n) (hw : inI w) : ans1 319 72 [zI (i32 d), zI (i32 s), zI (i32 n), zI (i32 w)] (fun A => zI (i32 (drawnQ A d s n w))) := by
  intro h F C Q
  have S := Q.1
  unfold inI at hd hs hn hw
  by_cases c1 : 0 ≤ d ∧ d < C 73 0
  · by_cases c2 : 0 ≤ n ∧ n ≤ 60
    · by_cases cw : w < 0
      · refine ⟨_, C, ?_, miF_tq d⟩
        have z : drawnQ (C 73) d s n w = -2 := by
          unfold drawnQ
          rw [nowS_neg cw]
          split <;> rfl
        dsimp only
        rw [z]
        simp (disch := omega) only [if_true, if_false, not_true_eq_false, not_false_eq_true, zoI_s, zoR_s, zoH_s, zoL_s, zbI_s, zbV_s, zbR_s, zbL_s, zif_dec, i32_0, ne_eq, i32_lt, i32_le, i32_eq, i32_add, i32_mul, i32_sub, i32_neg, zrz_0, zrz_1, zif_t, zif_f, zsF_s, zsF_k, zsF_a, zsC_s, zsC_a, zsC_i, zsW_s, zsW_a, Int.add_zero, Int.zero_add, true_and, false_and, and_false, Bool.false_eq_true, decide_true, decide_false, Bool.true_and, Bool.false_and, Bool.true_or, Bool.false_or, sub1, and_true, if_pos, if_neg, wv_72 S, wr_768 S, wr_769 S, wr_777 S, wr_785 S, wr_786 S, wr_787 S, wr_789 S, wr_790 S, wr_791 S, wr_802 S, wr_803 S, wr_804 S, wr_805 S, wr_806 S, wr_807 S, wr_809 S, wg_770 S, wp_770 S, wg_771 S, wp_771 S, wg_772 S, wp_772 S, wg_773 S, wp_773 S, wg_774 S, wp_774 S, wg_775 S, wp_775 S, wg_776 S, wp_776 S, wg_778 S, wp_778 S, wg_779 S, wp_779 S, wg_780 S, wp_780 S, wg_781 S, wp_781 S, wg_782 S, wp_782 S, wg_783 S, wp_783 S, wg_784 S, wp_784 S, wg_788 S, wp_788 S, wg_792 S, wp_792 S, wg_793 S, wp_793 S, wg_794 S, wp_794 S, wg_795 S, wp_795 S, wg_796 S, wp_796 S, wg_797 S, wp_797 S, wg_798 S, wp_798 S, wg_799 S, wp_799 S, wg_800 S, wp_800 S, wg_801 S, wp_801 S, wg_808 S, wp_808 S, wg_810 S, wp_810 S, m_isD Q, m_isIn, ib_0, e_Model_drawn]
      · have O := Q.dO c1.1 c1.2
        have M : moV (zsF (miF F C d) 810 72 s) C (dOf (C 73) d) := (miF_V Q c1.1 c1.2).cg rfl rfl rfl rfl rfl
        obtain ⟨F1, C1, e1, R1, h810⟩ := m_begins S M O
        have R2 : mrC (zsF (miF F C d) 810 72 s) C (dOf (C 73) d) F1 C1 (begS (dOf (C 73) d) s) := by
          obtain ⟨t, ⟨i0, i1, i2, i3, i4, i5, i6, i7, i8, i9⟩, rr⟩ := R1
          exact ⟨t, ⟨i0, i1, i2, i3, i4, i5, i6, i7, i8, fun _ => h810⟩, rr⟩
        obtain ⟨⟨F3, C3⟩, e3, R3, K3, f3⟩ := zinv (fun k (q : (Nat → Nat → Int) × (Nat → Int → Int)) => zr 319 20 [yR (some 72), yI (i32 d), yI (i32 s), yI (i32 n), yI (i32 w), yI (i32 k)] [] (zw h q.1 q.2)) (fun k q => mrC (zsF (miF F C d) 810 72 s) C (dOf (C 73) d) q.1 q.2 (drwN (dOf (C 73) d) (begS (dOf (C 73) d) s) k.toNat) ∧ cOK (dOf (C 73) d) (drwN (dOf (C 73) d) (begS (dOf (C 73) d) s) k.toNat) k ∧ drwN (dOf (C 73) d) (begS (dOf (C 73) d) s) k.toNat 0 81 = 0) 0 n c2.1 (fun k q k0 k1 I => by
          obtain ⟨Rk, Kk, fk⟩ := I
          obtain ⟨F', C', e, R'⟩ := m_draws S M O Rk Kk (by omega) fk
          refine ⟨(F', C'), ?_, ?_⟩
          · rw [e_Model_drawn_20]
            simp (disch := omega) only [if_true, if_false, not_true_eq_false, not_false_eq_true, zoI_s, zoR_s, zoH_s, zoL_s, zbI_s, zbV_s, zbR_s, zbL_s, zif_dec, i32_0, ne_eq, i32_lt, i32_le, i32_eq, i32_add, i32_mul, i32_sub, i32_neg, zrz_0, zrz_1, zif_t, zif_f, zsF_s, zsF_k, zsF_a, zsC_s, zsC_a, zsC_i, zsW_s, zsW_a, Int.add_zero, Int.zero_add, true_and, false_and, and_false, Bool.false_eq_true, decide_true, decide_false, Bool.true_and, Bool.false_and, Bool.true_or, Bool.false_or, sub1, and_true, if_pos, if_neg, wv_72 S, wr_768 S, wr_769 S, wr_777 S, wr_785 S, wr_786 S, wr_787 S, wr_789 S, wr_790 S, wr_791 S, wr_802 S, wr_803 S, wr_804 S, wr_805 S, wr_806 S, wr_807 S, wr_809 S, wg_770 S, wp_770 S, wg_771 S, wp_771 S, wg_772 S, wp_772 S, wg_773 S, wp_773 S, wg_774 S, wp_774 S, wg_775 S, wp_775 S, wg_776 S, wp_776 S, wg_778 S, wp_778 S, wg_779 S, wp_779 S, wg_780 S, wp_780 S, wg_781 S, wp_781 S, wg_782 S, wp_782 S, wg_783 S, wp_783 S, wg_784 S, wp_784 S, wg_788 S, wp_788 S, wg_792 S, wp_792 S, wg_793 S, wp_793 S, wg_794 S, wp_794 S, wg_795 S, wp_795 S, wg_796 S, wp_796 S, wg_797 S, wp_797 S, wg_798 S, wp_798 S, wg_799 S, wp_799 S, wg_800 S, wp_800 S, wg_801 S, wp_801 S, wg_808 S, wp_808 S, wg_810 S, wp_810 S, e]
          · rw [drwN_s _ _ k0]
            exact ⟨R', Kk.drw O, (drwX_81 _ _).trans fk⟩) (F1, C1) ⟨R2, cOK.beg O, rfl⟩
        refine ⟨F3, C3, ?_, ((miF_tq d).sF (by omega) (by omega)).trans R3.1.1⟩
        have ed := m_nowOf S M O R3 (w := w) (by omega) (by omega)
        dsimp only at e3
        unfold drawnQ
        simp (disch := omega) only [if_true, if_false, not_true_eq_false, not_false_eq_true, zoI_s, zoR_s, zoH_s, zoL_s, zbI_s, zbV_s, zbR_s, zbL_s, zif_dec, i32_0, ne_eq, i32_lt, i32_le, i32_eq, i32_add, i32_mul, i32_sub, i32_neg, zrz_0, zrz_1, zif_t, zif_f, zsF_s, zsF_k, zsF_a, zsC_s, zsC_a, zsC_i, zsW_s, zsW_a, Int.add_zero, Int.zero_add, true_and, false_and, and_false, Bool.false_eq_true, decide_true, decide_false, Bool.true_and, Bool.false_and, Bool.true_or, Bool.false_or, sub1, and_true, if_pos, if_neg, wv_72 S, wr_768 S, wr_769 S, wr_777 S, wr_785 S, wr_786 S, wr_787 S, wr_789 S, wr_790 S, wr_791 S, wr_802 S, wr_803 S, wr_804 S, wr_805 S, wr_806 S, wr_807 S, wr_809 S, wg_770 S, wp_770 S, wg_771 S, wp_771 S, wg_772 S, wp_772 S, wg_773 S, wp_773 S, wg_774 S, wp_774 S, wg_775 S, wp_775 S, wg_776 S, wp_776 S, wg_778 S, wp_778 S, wg_779 S, wp_779 S, wg_780 S, wp_780 S, wg_781 S, wp_781 S, wg_782 S, wp_782 S, wg_783 S, wp_783 S, wg_784 S, wp_784 S, wg_788 S, wp_788 S, wg_792 S, wp_792 S, wg_793 S, wp_793 S, wg_794 S, wp_794 S, wg_795 S, wp_795 S, wg_796 S, wp_796 S, wg_797 S, wp_797 S, wg_798 S, wp_798 S, wg_799 S, wp_799 S, wg_800 S, wp_800 S, wg_801 S, wp_801 S, wg_808 S, wp_808 S, wg_810 S, wp_810 S, m_isD Q, m_isIn, ib_0, e_Model_drawn, e1]
        rw [e3, e_Model_drawn_20]
        simp (disch := omega) only [if_true, if_false, not_true_eq_false, not_false_eq_true, zoI_s, zoR_s, zoH_s, zoL_s, zbI_s, zbV_s, zbR_s, zbL_s, zif_dec, i32_0, ne_eq, i32_lt, i32_le, i32_eq, i32_add, i32_mul, i32_sub, i32_neg, zrz_0, zrz_1, zif_t, zif_f, zsF_s, zsF_k, zsF_a, zsC_s, zsC_a, zsC_i, zsW_s, zsW_a, Int.add_zero, Int.zero_add, true_and, false_and, and_false, Bool.false_eq_true, decide_true, decide_false, Bool.true_and, Bool.false_and, Bool.true_or, Bool.false_or, sub1, and_true, if_pos, if_neg, wv_72 S, wr_768 S, wr_769 S, wr_777 S, wr_785 S, wr_786 S, wr_787 S, wr_789 S, wr_790 S, wr_791 S, wr_802 S, wr_803 S, wr_804 S, wr_805 S, wr_806 S, wr_807 S, wr_809 S, wg_770 S, wp_770 S, wg_771 S, wp_771 S, wg_772 S, wp_772 S, wg_773 S, wp_773 S, wg_774 S, wp_774 S, wg_775 S, wp_775 S, wg_776 S, wp_776 S, wg_778 S, wp_778 S, wg_779 S, wp_779 S, wg_780 S, wp_780 S, wg_781 S, wp_781 S, wg_782 S, wp_782 S, wg_783 S, wp_783 S, wg_784 S, wp_784 S, wg_788 S, wp_788 S, wg_792 S, wp_792 S, wg_793 S, wp_793 S, wg_794 S, wp_794 S, wg_795 S, wp_795 S, wg_796 S, wp_796 S, wg_797 S, wp_797 S, wg_798 S, wp_798 S, wg_799 S, wp_799 S, wg_800 S, wp_800 S, wg_801 S, wp_801 S, wg_808 S, wp_808 S, wg_810 S, wp_810 S, ed]
    · refine ⟨_, C, ?_, miF_tq d⟩
      unfold drawnQ
      simp (disch := omega) only [if_true, if_false, not_true_eq_false, not_false_eq_true, zoI_s, zoR_s, zoH_s, zoL_s, zbI_s, zbV_s, zbR_s, zbL_s, zif_dec, i32_0, ne_eq, i32_lt, i32_le, i32_eq, i32_add, i32_mul, i32_sub, i32_neg, zrz_0, zrz_1, zif_t, zif_f, zsF_s, zsF_k, zsF_a, zsC_s, zsC_a, zsC_i, zsW_s, zsW_a, Int.add_zero, Int.zero_add, true_and, false_and, and_false, Bool.false_eq_true, decide_true, decide_false, Bool.true_and, Bool.false_and, Bool.true_or, Bool.false_or, sub1, and_true, if_pos, if_neg, wv_72 S, wr_768 S, wr_769 S, wr_777 S, wr_785 S, wr_786 S, wr_787 S, wr_789 S, wr_790 S, wr_791 S, wr_802 S, wr_803 S, wr_804 S, wr_805 S, wr_806 S, wr_807 S, wr_809 S, wg_770 S, wp_770 S, wg_771 S, wp_771 S, wg_772 S, wp_772 S, wg_773 S, wp_773 S, wg_774 S, wp_774 S, wg_775 S, wp_775 S, wg_776 S, wp_776 S, wg_778 S, wp_778 S, wg_779 S, wp_779 S, wg_780 S, wp_780 S, wg_781 S, wp_781 S, wg_782 S, wp_782 S, wg_783 S, wp_783 S, wg_784 S, wp_784 S, wg_788 S, wp_788 S, wg_792 S, wp_792 S, wg_793 S, wp_793 S, wg_794 S, wp_794 S, wg_795 S, wp_795 S, wg_796 S, wp_796 S, wg_797 S, wp_797 S, wg_798 S, wp_798 S, wg_799 S, wp_799 S, wg_800 S, wp_800 S, wg_801 S, wp_801 S, wg_808 S, wp_808 S, wg_810 S, wp_810 S, m_isD Q, m_isIn, ib_0, e_Model_drawn]
  · refine ⟨F, C, ?_, tq.rfl⟩
    unfold drawnQ
    simp (disch := omega) only [if_true, if_false, not_true_eq_false, not_false_eq_true, zoI_s, zoR_s, zoH_s, zoL_s, zbI_s, zbV_s, zbR_s, zbL_s, zif_dec, i32_0, ne_eq, i32_lt, i32_le, i32_eq, i32_add, i32_mul, i32_sub, i32_neg, zrz_0, zrz_1, zif_t, zif_f, zsF_s, zsF_k, zsF_a, zsC_s, zsC_a, zsC_i, zsW_s, zsW_a, Int.add_zero, Int.zero_add, true_and, false_and, and_false, Bool.false_eq_true, decide_true, decide_false, Bool.true_and, Bool.false_and, Bool.true_or, Bool.false_or, sub1, and_true, if_pos, if_neg, wv_72 S, wr_768 S, wr_769 S, wr_777 S, wr_785 S, wr_786 S, wr_787 S, wr_789 S, wr_790 S, wr_791 S, wr_802 S, wr_803 S, wr_804 S, wr_805 S, wr_806 S, wr_807 S, wr_809 S, wg_770 S, wp_770 S, wg_771 S, wp_771 S, wg_772 S, wp_772 S, wg_773 S, wp_773 S, wg_774 S, wp_774 S, wg_775 S, wp_775 S, wg_776 S, wp_776 S, wg_778 S, wp_778 S, wg_779 S, wp_779 S, wg_780 S, wp_780 S, wg_781 S, wp_781 S, wg_782 S, wp_782 S, wg_783 S, wp_783 S, wg_784 S, wp_784 S, wg_788 S, wp_788 S, wg_792 S, wp_792 S, wg_793 S, wp_793 S, wg_794 S, wp_794 S, wg_795 S, wp_795 S, wg_796 S, wp_796 S, wg_797 S, wp_797 S, wg_798 S, wp_798 S, wg_799 S, wp_799 S, wg_800 S, wp_800 S, wg_801 S, wp_801 S, wg_808 S, wp_808 S, wg_810 S, wp_810 S, m_isD0 Q, e_Model_drawn]
