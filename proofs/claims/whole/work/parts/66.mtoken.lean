/-! the reference's tokens -/
def rmE (F F' : Nat → Nat → Int) : Prop := ∀ k a, ¬ (a = 72 ∧ 771 ≤ k ∧ k ≤ 775) → F' k a = F k a
theorem rmE.rfl (F : Nat → Nat → Int) : rmE F F := fun _ _ _ => Eq.refl _
theorem rmE.trans {F F1 F2 : Nat → Nat → Int} (h1 : rmE F F1) (h2 : rmE F1 F2) : rmE F F2 := fun k a c => (h2 k a c).trans (h1 k a c)
theorem rmE.sF {F F1 : Nat → Nat → Int} (h1 : rmE F F1) {k : Nat} {x : Int} (h0 : 771 ≤ k) (h2 : k ≤ 775) : rmE F (zsF F1 k 72 x) := fun k' a' c => (if_neg (by omega)).trans (h1 k' a' c)
def tpM (F : Nat → Nat → Int) (C : Nat → Int → Int) (B : Int → Int) (n : Int) : Prop := F 770 72 = n ∧ (0 ≤ n ∧ n ≤ 600) ∧ ∀ i, 0 ≤ i → i < n → (0 ≤ B i ∧ B i ≤ 255) ∧ C 73 (10 + i) = B i
theorem tpM.rd {F F' : Nat → Nat → Int} {C : Nat → Int → Int} {B : Int → Int} {n : Int} (T : tpM F C B n) (h : rmE F F') : tpM F' C B n := ⟨(h 770 72 (by omega)).trans T.1, T.2⟩
/-- what the reference calls a token -/
def kM (B : Int → Int) (n s : Int) : Int := if tK B n s = 3 then 0 else if tK B n s = 0 then (if tW B n s = 99 then 4 else 3) else tK B n s
def tkM (F : Nat → Nat → Int) (B : Int → Int) (n s : Int) : Prop := F 772 72 = s ∧ F 771 72 = tE B n s ∧ F 773 72 = kM B n s ∧ (tK B n s = 0 → F 775 72 = tW B n s) ∧ (tK B n s = 1 → F 774 72 = tN B n s)
/-- the digits as the reference takes them: two at most -/
def runR (B : Int → Int) (n s : Int) : Nat → Int → Int → Int
  | 0, _, v => v
  | j + 1, p, v => if p < n ∧ bG (B p) = true then runR B n s j (p + 1) (if p - s < 2 then 10 * v + B p - 48 else v) else v
theorem runR_V {B : Int → Int} {n s : Int} : ∀ (j : Nat) (p v : Int), n - p = j → rnE bG B n p - s ≤ 2 → runR B n s j p v = runV B n j p v := by
  intro j
  induction j with
  | zero => intro p v _ _; rfl
  | succ j ih =>
    intro p v h1 h2
    rw [runR, runV]
    by_cases c : p < n ∧ bG (B p) = true
    · rw [if_pos c, if_pos c]
      rw [rnE_t c.1 c.2] at h2
      have := rnE_le (P := bG) (B := B) (n := n) (p := p + 1) (by omega)
      rw [if_pos (by omega), ih _ _ (by omega) h2, show 10 * v + B p - 48 = 10 * v + (B p - 48) by omega]
    · rw [if_neg c, if_neg c]
theorem rnE_stop {P : Int → Bool} {B : Int → Int} {n : Int} : ∀ (j : Nat) (p : Int), n - p ≤ j → p ≤ n → ¬ (rnE P B n p < n ∧ P (B (rnE P B n p)) = true) := by
  intro j
  induction j with
  | zero => intro p h1 h2; rw [rnE_f (by omega)]; omega
  | succ j ih =>
    intro p h1 h2
    by_cases c : p < n ∧ P (B p) = true
    · rw [rnE_t c.1 c.2]
      exact ih (p + 1) (by omega) (by omega)
    · rw [rnE_f c]; exact c
section MT
variable {h : zHeap} {F : Nat → Nat → Int} {C : Nat → Int → Int} {B : Int → Int} {n : Int}
theorem m_isLetter {x : Int} (h0 : -1 ≤ x) (h1 : x ≤ 255) : zc 204 [zI (i32 x)] h = some (zI (i32 (if bL x = true then 1 else 0)), h) := by
  have eb : bL x = true ↔ (97 ≤ x ∧ x ≤ 122) := by unfold bL; rw [decide_eq_true_eq]
  rw [e_Model_isLetter]
  by_cases cb : bL x = true
  · have q := eb.mp cb
    rw [if_pos cb]
    simp (disch := omega) only [if_true, if_false, not_true_eq_false, not_false_eq_true, zoI_s, zoR_s, zoH_s, zoL_s, zbI_s, zbV_s, zbR_s, zbL_s, zif_dec, i32_0, ne_eq, i32_lt, i32_le, i32_eq, i32_add, i32_mul, i32_sub, i32_neg, zrz_0, zrz_1, zif_t, zif_f, zsF_s, zsF_k, zsF_a, zsC_s, zsC_a, zsC_i, zsW_s, zsW_a, Int.add_zero, Int.zero_add, true_and, false_and, and_false, Bool.false_eq_true, decide_true, decide_false, Bool.true_and, Bool.false_and, Bool.true_or, Bool.false_or, sub1, and_true, if_pos, if_neg]
  · have q : ¬ (97 ≤ x ∧ x ≤ 122) := fun z => cb (eb.mpr z)
    rw [if_neg cb]
    by_cases c1 : x < 97
    · simp (disch := omega) only [if_true, if_false, not_true_eq_false, not_false_eq_true, zoI_s, zoR_s, zoH_s, zoL_s, zbI_s, zbV_s, zbR_s, zbL_s, zif_dec, i32_0, ne_eq, i32_lt, i32_le, i32_eq, i32_add, i32_mul, i32_sub, i32_neg, zrz_0, zrz_1, zif_t, zif_f, zsF_s, zsF_k, zsF_a, zsC_s, zsC_a, zsC_i, zsW_s, zsW_a, Int.add_zero, Int.zero_add, true_and, false_and, and_false, Bool.false_eq_true, decide_true, decide_false, Bool.true_and, Bool.false_and, Bool.true_or, Bool.false_or, sub1, and_true, if_pos, if_neg]
    · simp (disch := omega) only [if_true, if_false, not_true_eq_false, not_false_eq_true, zoI_s, zoR_s, zoH_s, zoL_s, zbI_s, zbV_s, zbR_s, zbL_s, zif_dec, i32_0, ne_eq, i32_lt, i32_le, i32_eq, i32_add, i32_mul, i32_sub, i32_neg, zrz_0, zrz_1, zif_t, zif_f, zsF_s, zsF_k, zsF_a, zsC_s, zsC_a, zsC_i, zsW_s, zsW_a, Int.add_zero, Int.zero_add, true_and, false_and, and_false, Bool.false_eq_true, decide_true, decide_false, Bool.true_and, Bool.false_and, Bool.true_or, Bool.false_or, sub1, and_true, if_pos, if_neg]
theorem m_isDigit {x : Int} (h0 : -1 ≤ x) (h1 : x ≤ 255) : zc 205 [zI (i32 x)] h = some (zI (i32 (if bG x = true then 1 else 0)), h) := by
  have eb : bG x = true ↔ (48 ≤ x ∧ x ≤ 57) := by unfold bG; rw [decide_eq_true_eq]
  rw [e_Model_isDigit]
  by_cases cb : bG x = true
  · have q := eb.mp cb
    rw [if_pos cb]
    simp (disch := omega) only [if_true, if_false, not_true_eq_false, not_false_eq_true, zoI_s, zoR_s, zoH_s, zoL_s, zbI_s, zbV_s, zbR_s, zbL_s, zif_dec, i32_0, ne_eq, i32_lt, i32_le, i32_eq, i32_add, i32_mul, i32_sub, i32_neg, zrz_0, zrz_1, zif_t, zif_f, zsF_s, zsF_k, zsF_a, zsC_s, zsC_a, zsC_i, zsW_s, zsW_a, Int.add_zero, Int.zero_add, true_and, false_and, and_false, Bool.false_eq_true, decide_true, decide_false, Bool.true_and, Bool.false_and, Bool.true_or, Bool.false_or, sub1, and_true, if_pos, if_neg]
  · have q : ¬ (48 ≤ x ∧ x ≤ 57) := fun z => cb (eb.mpr z)
    rw [if_neg cb]
    by_cases c1 : x < 48
    · simp (disch := omega) only [if_true, if_false, not_true_eq_false, not_false_eq_true, zoI_s, zoR_s, zoH_s, zoL_s, zbI_s, zbV_s, zbR_s, zbL_s, zif_dec, i32_0, ne_eq, i32_lt, i32_le, i32_eq, i32_add, i32_mul, i32_sub, i32_neg, zrz_0, zrz_1, zif_t, zif_f, zsF_s, zsF_k, zsF_a, zsC_s, zsC_a, zsC_i, zsW_s, zsW_a, Int.add_zero, Int.zero_add, true_and, false_and, and_false, Bool.false_eq_true, decide_true, decide_false, Bool.true_and, Bool.false_and, Bool.true_or, Bool.false_or, sub1, and_true, if_pos, if_neg]
    · simp (disch := omega) only [if_true, if_false, not_true_eq_false, not_false_eq_true, zoI_s, zoR_s, zoH_s, zoL_s, zbI_s, zbV_s, zbR_s, zbL_s, zif_dec, i32_0, ne_eq, i32_lt, i32_le, i32_eq, i32_add, i32_mul, i32_sub, i32_neg, zrz_0, zrz_1, zif_t, zif_f, zsF_s, zsF_k, zsF_a, zsC_s, zsC_a, zsC_i, zsW_s, zsW_a, Int.add_zero, Int.zero_add, true_and, false_and, and_false, Bool.false_eq_true, decide_true, decide_false, Bool.true_and, Bool.false_and, Bool.true_or, Bool.false_or, sub1, and_true, if_pos, if_neg]
theorem m_byteAt (S : St h) (T : tpM F C B n) {p : Int} (p0 : 0 ≤ p) (p1 : p ≤ 600) : zc 203 [zR (some 72), zI (i32 p)] (zw h F C) = some (zI (i32 (if p < n then B p else -1)), zw h F C) := by
  obtain ⟨t1, t2, t3⟩ := T
  rw [e_Model_byteAt]
  by_cases c : p < n
  · have tb := t3 p p0 c
    simp (disch := omega) only [if_true, if_false, not_true_eq_false, not_false_eq_true, zoI_s, zoR_s, zoH_s, zoL_s, zbI_s, zbV_s, zbR_s, zbL_s, zif_dec, i32_0, ne_eq, i32_lt, i32_le, i32_eq, i32_add, i32_mul, i32_sub, i32_neg, zrz_0, zrz_1, zif_t, zif_f, zsF_s, zsF_k, zsF_a, zsC_s, zsC_a, zsC_i, zsW_s, zsW_a, Int.add_zero, Int.zero_add, true_and, false_and, and_false, Bool.false_eq_true, decide_true, decide_false, Bool.true_and, Bool.false_and, Bool.true_or, Bool.false_or, sub1, and_true, if_pos, if_neg, wv_72 S, wr_768 S, wr_769 S, wr_777 S, wr_785 S, wr_786 S, wr_787 S, wr_789 S, wr_790 S, wr_791 S, wr_802 S, wr_803 S, wr_804 S, wr_805 S, wr_806 S, wr_807 S, wr_809 S, wg_770 S, wp_770 S, wg_771 S, wp_771 S, wg_772 S, wp_772 S, wg_773 S, wp_773 S, wg_774 S, wp_774 S, wg_775 S, wp_775 S, wg_776 S, wp_776 S, wg_778 S, wp_778 S, wg_779 S, wp_779 S, wg_780 S, wp_780 S, wg_781 S, wp_781 S, wg_782 S, wp_782 S, wg_783 S, wp_783 S, wg_784 S, wp_784 S, wg_788 S, wp_788 S, wg_792 S, wp_792 S, wg_793 S, wp_793 S, wg_794 S, wp_794 S, wg_795 S, wp_795 S, wg_796 S, wp_796 S, wg_797 S, wp_797 S, wg_798 S, wp_798 S, wg_799 S, wp_799 S, wg_800 S, wp_800 S, wg_801 S, wp_801 S, wg_808 S, wp_808 S, wg_810 S, wp_810 S, wa_73 S, ws_73 S, t1, tb.2]
  · simp (disch := omega) only [if_true, if_false, not_true_eq_false, not_false_eq_true, zoI_s, zoR_s, zoH_s, zoL_s, zbI_s, zbV_s, zbR_s, zbL_s, zif_dec, i32_0, ne_eq, i32_lt, i32_le, i32_eq, i32_add, i32_mul, i32_sub, i32_neg, zrz_0, zrz_1, zif_t, zif_f, zsF_s, zsF_k, zsF_a, zsC_s, zsC_a, zsC_i, zsW_s, zsW_a, Int.add_zero, Int.zero_add, true_and, false_and, and_false, Bool.false_eq_true, decide_true, decide_false, Bool.true_and, Bool.false_and, Bool.true_or, Bool.false_or, sub1, and_true, if_pos, if_neg, wv_72 S, wr_768 S, wr_769 S, wr_777 S, wr_785 S, wr_786 S, wr_787 S, wr_789 S, wr_790 S, wr_791 S, wr_802 S, wr_803 S, wr_804 S, wr_805 S, wr_806 S, wr_807 S, wr_809 S, wg_770 S, wp_770 S, wg_771 S, wp_771 S, wg_772 S, wp_772 S, wg_773 S, wp_773 S, wg_774 S, wp_774 S, wg_775 S, wp_775 S, wg_776 S, wp_776 S, wg_778 S, wp_778 S, wg_779 S, wp_779 S, wg_780 S, wp_780 S, wg_781 S, wp_781 S, wg_782 S, wp_782 S, wg_783 S, wp_783 S, wg_784 S, wp_784 S, wg_788 S, wp_788 S, wg_792 S, wp_792 S, wg_793 S, wp_793 S, wg_794 S, wp_794 S, wg_795 S, wp_795 S, wg_796 S, wp_796 S, wg_797 S, wp_797 S, wg_798 S, wp_798 S, wg_799 S, wp_799 S, wg_800 S, wp_800 S, wg_801 S, wp_801 S, wg_808 S, wp_808 S, wg_810 S, wp_810 S, t1]
theorem m_adv0 (S : St h) (T : tpM F C B n) : ∀ (j : Nat) (p : Int), n - p ≤ j → 0 ≤ p → p ≤ n → zr 209 0 [yR (some 72), none, none, none] [] (zw h (zsF F 771 72 p) C) = zr 209 0 [yR (some 72), none, none, none] [] (zw h (zsF F 771 72 (rnE bB B n p)) C) := by
  have T' : ∀ p, tpM (zsF F 771 72 p) C B n := fun p => T.rd ((rmE.rfl F).sF (by omega) (by omega))
  intro j
  induction j with
  | zero =>
    intro p h1 p0 p1
    rw [rnE_f (by omega)]
  | succ j ih =>
    intro p h1 p0 p1
    have b2 := T.2.1
    by_cases c : p < n ∧ bB (B p) = true
    · rw [rnE_t c.1 c.2, ← ih (p + 1) (by omega) (by omega) (by omega), e_Model_advance_0]
      have eb := m_byteAt S (T' p) p0 (by omega)
      have c2 := c.2
      unfold bB at c2
      rw [decide_eq_true_eq] at c2
      rw [if_pos c.1] at eb
      have wg := wg_771 (F := zsF F 771 72 p) (C := C) S
      rw [zsF_s] at wg
      have wp := wp_771 (F := zsF F 771 72 p) (C := C) S (p + 1)
      rw [zsF_ss] at wp
      rcases c2 with c2 | c2
      · rw [c2] at eb
        have d1 : decide (i32 10 = i32 10) = true := by decide
        simp only [zoI_s, zoR_s, zoH_s, zoL_s, zbI_s, zbV_s, zbR_s, zbL_s, zif_t, zif_f, zrz_0, zrz_1, decide_true, decide_false, wg, wv_72 S, eb, d1, i32_add, wp]
      · rw [c2] at eb
        have d1 : decide (i32 32 = i32 10) = false := by decide
        have d2 : decide (i32 32 ≠ i32 32) = false := by decide
        simp only [zoI_s, zoR_s, zoH_s, zoL_s, zbI_s, zbV_s, zbR_s, zbL_s, zif_t, zif_f, zrz_0, zrz_1, decide_true, decide_false, wg, wv_72 S, eb, d1, d2, i32_add, wp]
    · rw [rnE_f c]
theorem m_num (S : St h) (T : tpM F C B n) {s : Int} (hs : F 772 72 = s) (s0 : 0 ≤ s) {x : Int} : ∀ (j : Nat) (p v : Int), n - p = j → s ≤ p → p ≤ n → zr 209 100 [yR (some 72), yI (i32 x), none, none] [] (zw h (zsF (zsF F 774 72 v) 771 72 p) C) = some (zI 0, zw h (zsF (zsF (zsF F 774 72 (runR B n s j p v)) 771 72 (rnE bG B n p)) 773 72 (if rnE bG B n p - s ≤ 2 then 1 else 4)) C) := by
  have T' : ∀ p v, tpM (zsF (zsF F 774 72 v) 771 72 p) C B n := fun p v => T.rd (((rmE.rfl F).sF (by omega) (by omega)).sF (by omega) (by omega))
  have b2 := T.2.1
  intro j
  induction j with
  | zero =>
    intro p v h1 p0 p1
    rw [rnE_f (by omega), e_Model_advance_100]
    have eb := m_byteAt S (T' p v) (p := p) (by omega) (by omega)
    rw [if_neg (by omega)] at eb
    have ed := m_isDigit (h := zw h (zsF (zsF F 774 72 v) 771 72 p) C) (x := -1) (by omega) (by omega)
    rw [if_neg (by decide)] at ed
    by_cases c : p - s ≤ 2
    · simp (disch := omega) only [if_true, if_false, not_true_eq_false, not_false_eq_true, zoI_s, zoR_s, zoH_s, zoL_s, zbI_s, zbV_s, zbR_s, zbL_s, zif_dec, i32_0, ne_eq, i32_lt, i32_le, i32_eq, i32_add, i32_mul, i32_sub, i32_neg, zrz_0, zrz_1, zif_t, zif_f, zsF_s, zsF_k, zsF_a, zsC_s, zsC_a, zsC_i, zsW_s, zsW_a, Int.add_zero, Int.zero_add, true_and, false_and, and_false, Bool.false_eq_true, decide_true, decide_false, Bool.true_and, Bool.false_and, Bool.true_or, Bool.false_or, sub1, and_true, if_pos, if_neg, wv_72 S, wr_768 S, wr_769 S, wr_777 S, wr_785 S, wr_786 S, wr_787 S, wr_789 S, wr_790 S, wr_791 S, wr_802 S, wr_803 S, wr_804 S, wr_805 S, wr_806 S, wr_807 S, wr_809 S, wg_770 S, wp_770 S, wg_771 S, wp_771 S, wg_772 S, wp_772 S, wg_773 S, wp_773 S, wg_774 S, wp_774 S, wg_775 S, wp_775 S, wg_776 S, wp_776 S, wg_778 S, wp_778 S, wg_779 S, wp_779 S, wg_780 S, wp_780 S, wg_781 S, wp_781 S, wg_782 S, wp_782 S, wg_783 S, wp_783 S, wg_784 S, wp_784 S, wg_788 S, wp_788 S, wg_792 S, wp_792 S, wg_793 S, wp_793 S, wg_794 S, wp_794 S, wg_795 S, wp_795 S, wg_796 S, wp_796 S, wg_797 S, wp_797 S, wg_798 S, wp_798 S, wg_799 S, wp_799 S, wg_800 S, wp_800 S, wg_801 S, wp_801 S, wg_808 S, wp_808 S, wg_810 S, wp_810 S, eb, ed, hs, runR]
    · simp (disch := omega) only [if_true, if_false, not_true_eq_false, not_false_eq_true, zoI_s, zoR_s, zoH_s, zoL_s, zbI_s, zbV_s, zbR_s, zbL_s, zif_dec, i32_0, ne_eq, i32_lt, i32_le, i32_eq, i32_add, i32_mul, i32_sub, i32_neg, zrz_0, zrz_1, zif_t, zif_f, zsF_s, zsF_k, zsF_a, zsC_s, zsC_a, zsC_i, zsW_s, zsW_a, Int.add_zero, Int.zero_add, true_and, false_and, and_false, Bool.false_eq_true, decide_true, decide_false, Bool.true_and, Bool.false_and, Bool.true_or, Bool.false_or, sub1, and_true, if_pos, if_neg, wv_72 S, wr_768 S, wr_769 S, wr_777 S, wr_785 S, wr_786 S, wr_787 S, wr_789 S, wr_790 S, wr_791 S, wr_802 S, wr_803 S, wr_804 S, wr_805 S, wr_806 S, wr_807 S, wr_809 S, wg_770 S, wp_770 S, wg_771 S, wp_771 S, wg_772 S, wp_772 S, wg_773 S, wp_773 S, wg_774 S, wp_774 S, wg_775 S, wp_775 S, wg_776 S, wp_776 S, wg_778 S, wp_778 S, wg_779 S, wp_779 S, wg_780 S, wp_780 S, wg_781 S, wp_781 S, wg_782 S, wp_782 S, wg_783 S, wp_783 S, wg_784 S, wp_784 S, wg_788 S, wp_788 S, wg_792 S, wp_792 S, wg_793 S, wp_793 S, wg_794 S, wp_794 S, wg_795 S, wp_795 S, wg_796 S, wp_796 S, wg_797 S, wp_797 S, wg_798 S, wp_798 S, wg_799 S, wp_799 S, wg_800 S, wp_800 S, wg_801 S, wp_801 S, wg_808 S, wp_808 S, wg_810 S, wp_810 S, eb, ed, hs, runR]
  | succ j ih =>
    intro p v h1 p0 p1
    have tb := T.2.2 p (by omega) (by omega)
    have eb := m_byteAt S (T' p v) (p := p) (by omega) (by omega)
    rw [if_pos (by omega)] at eb
    have ed := m_isDigit (h := zw h (zsF (zsF F 774 72 v) 771 72 p) C) (x := B p) (by omega) (by omega)
    rw [e_Model_advance_100]
    by_cases c1 : bG (B p) = true
    · rw [rnE_t (by omega) c1, runR, if_pos ⟨by omega, c1⟩, ← ih (p + 1) _ (by omega) (by omega) (by omega)]
      rw [if_pos c1] at ed
      by_cases c2 : p - s < 2
      · rw [if_pos c2]
        simp (disch := omega) only [if_true, if_false, not_true_eq_false, not_false_eq_true, zoI_s, zoR_s, zoH_s, zoL_s, zbI_s, zbV_s, zbR_s, zbL_s, zif_dec, i32_0, ne_eq, i32_lt, i32_le, i32_eq, i32_add, i32_mul, i32_sub, i32_neg, zrz_0, zrz_1, zif_t, zif_f, zsF_s, zsF_k, zsF_a, zsC_s, zsC_a, zsC_i, zsW_s, zsW_a, Int.add_zero, Int.zero_add, true_and, false_and, and_false, Bool.false_eq_true, decide_true, decide_false, Bool.true_and, Bool.false_and, Bool.true_or, Bool.false_or, sub1, and_true, if_pos, if_neg, wv_72 S, wr_768 S, wr_769 S, wr_777 S, wr_785 S, wr_786 S, wr_787 S, wr_789 S, wr_790 S, wr_791 S, wr_802 S, wr_803 S, wr_804 S, wr_805 S, wr_806 S, wr_807 S, wr_809 S, wg_770 S, wp_770 S, wg_771 S, wp_771 S, wg_772 S, wp_772 S, wg_773 S, wp_773 S, wg_774 S, wp_774 S, wg_775 S, wp_775 S, wg_776 S, wp_776 S, wg_778 S, wp_778 S, wg_779 S, wp_779 S, wg_780 S, wp_780 S, wg_781 S, wp_781 S, wg_782 S, wp_782 S, wg_783 S, wp_783 S, wg_784 S, wp_784 S, wg_788 S, wp_788 S, wg_792 S, wp_792 S, wg_793 S, wp_793 S, wg_794 S, wp_794 S, wg_795 S, wp_795 S, wg_796 S, wp_796 S, wg_797 S, wp_797 S, wg_798 S, wp_798 S, wg_799 S, wp_799 S, wg_800 S, wp_800 S, wg_801 S, wp_801 S, wg_808 S, wp_808 S, wg_810 S, wp_810 S, eb, ed, hs]
        rw [show zsF (zsF (zsF (zsF F 774 72 v) 771 72 p) 774 72 (10 * v + B p - 48)) 771 72 (p + 1) = zsF (zsF F 774 72 (10 * v + B p - 48)) 771 72 (p + 1) from by rw [zsF_sw (zsF F 774 72 v) _ _ (by omega), zsF_ss, zsF_ss]]
      · rw [if_neg c2]
        simp (disch := omega) only [if_true, if_false, not_true_eq_false, not_false_eq_true, zoI_s, zoR_s, zoH_s, zoL_s, zbI_s, zbV_s, zbR_s, zbL_s, zif_dec, i32_0, ne_eq, i32_lt, i32_le, i32_eq, i32_add, i32_mul, i32_sub, i32_neg, zrz_0, zrz_1, zif_t, zif_f, zsF_s, zsF_k, zsF_a, zsC_s, zsC_a, zsC_i, zsW_s, zsW_a, Int.add_zero, Int.zero_add, true_and, false_and, and_false, Bool.false_eq_true, decide_true, decide_false, Bool.true_and, Bool.false_and, Bool.true_or, Bool.false_or, sub1, and_true, if_pos, if_neg, wv_72 S, wr_768 S, wr_769 S, wr_777 S, wr_785 S, wr_786 S, wr_787 S, wr_789 S, wr_790 S, wr_791 S, wr_802 S, wr_803 S, wr_804 S, wr_805 S, wr_806 S, wr_807 S, wr_809 S, wg_770 S, wp_770 S, wg_771 S, wp_771 S, wg_772 S, wp_772 S, wg_773 S, wp_773 S, wg_774 S, wp_774 S, wg_775 S, wp_775 S, wg_776 S, wp_776 S, wg_778 S, wp_778 S, wg_779 S, wp_779 S, wg_780 S, wp_780 S, wg_781 S, wp_781 S, wg_782 S, wp_782 S, wg_783 S, wp_783 S, wg_784 S, wp_784 S, wg_788 S, wp_788 S, wg_792 S, wp_792 S, wg_793 S, wp_793 S, wg_794 S, wp_794 S, wg_795 S, wp_795 S, wg_796 S, wp_796 S, wg_797 S, wp_797 S, wg_798 S, wp_798 S, wg_799 S, wp_799 S, wg_800 S, wp_800 S, wg_801 S, wp_801 S, wg_808 S, wp_808 S, wg_810 S, wp_810 S, eb, ed, hs, zsF_ss]
    · rw [rnE_f (fun z => c1 z.2), runR, if_neg (fun z => c1 z.2)]
      rw [if_neg c1] at ed
      by_cases c2 : p - s ≤ 2
      · simp (disch := omega) only [if_true, if_false, not_true_eq_false, not_false_eq_true, zoI_s, zoR_s, zoH_s, zoL_s, zbI_s, zbV_s, zbR_s, zbL_s, zif_dec, i32_0, ne_eq, i32_lt, i32_le, i32_eq, i32_add, i32_mul, i32_sub, i32_neg, zrz_0, zrz_1, zif_t, zif_f, zsF_s, zsF_k, zsF_a, zsC_s, zsC_a, zsC_i, zsW_s, zsW_a, Int.add_zero, Int.zero_add, true_and, false_and, and_false, Bool.false_eq_true, decide_true, decide_false, Bool.true_and, Bool.false_and, Bool.true_or, Bool.false_or, sub1, and_true, if_pos, if_neg, wv_72 S, wr_768 S, wr_769 S, wr_777 S, wr_785 S, wr_786 S, wr_787 S, wr_789 S, wr_790 S, wr_791 S, wr_802 S, wr_803 S, wr_804 S, wr_805 S, wr_806 S, wr_807 S, wr_809 S, wg_770 S, wp_770 S, wg_771 S, wp_771 S, wg_772 S, wp_772 S, wg_773 S, wp_773 S, wg_774 S, wp_774 S, wg_775 S, wp_775 S, wg_776 S, wp_776 S, wg_778 S, wp_778 S, wg_779 S, wp_779 S, wg_780 S, wp_780 S, wg_781 S, wp_781 S, wg_782 S, wp_782 S, wg_783 S, wp_783 S, wg_784 S, wp_784 S, wg_788 S, wp_788 S, wg_792 S, wp_792 S, wg_793 S, wp_793 S, wg_794 S, wp_794 S, wg_795 S, wp_795 S, wg_796 S, wp_796 S, wg_797 S, wp_797 S, wg_798 S, wp_798 S, wg_799 S, wp_799 S, wg_800 S, wp_800 S, wg_801 S, wp_801 S, wg_808 S, wp_808 S, wg_810 S, wp_810 S, eb, ed, hs]
      · simp (disch := omega) only [if_true, if_false, not_true_eq_false, not_false_eq_true, zoI_s, zoR_s, zoH_s, zoL_s, zbI_s, zbV_s, zbR_s, zbL_s, zif_dec, i32_0, ne_eq, i32_lt, i32_le, i32_eq, i32_add, i32_mul, i32_sub, i32_neg, zrz_0, zrz_1, zif_t, zif_f, zsF_s, zsF_k, zsF_a, zsC_s, zsC_a, zsC_i, zsW_s, zsW_a, Int.add_zero, Int.zero_add, true_and, false_and, and_false, Bool.false_eq_true, decide_true, decide_false, Bool.true_and, Bool.false_and, Bool.true_or, Bool.false_or, sub1, and_true, if_pos, if_neg, wv_72 S, wr_768 S, wr_769 S, wr_777 S, wr_785 S, wr_786 S, wr_787 S, wr_789 S, wr_790 S, wr_791 S, wr_802 S, wr_803 S, wr_804 S, wr_805 S, wr_806 S, wr_807 S, wr_809 S, wg_770 S, wp_770 S, wg_771 S, wp_771 S, wg_772 S, wp_772 S, wg_773 S, wp_773 S, wg_774 S, wp_774 S, wg_775 S, wp_775 S, wg_776 S, wp_776 S, wg_778 S, wp_778 S, wg_779 S, wp_779 S, wg_780 S, wp_780 S, wg_781 S, wp_781 S, wg_782 S, wp_782 S, wg_783 S, wp_783 S, wg_784 S, wp_784 S, wg_788 S, wp_788 S, wg_792 S, wp_792 S, wg_793 S, wp_793 S, wg_794 S, wp_794 S, wg_795 S, wp_795 S, wg_796 S, wp_796 S, wg_797 S, wp_797 S, wg_798 S, wp_798 S, wg_799 S, wp_799 S, wg_800 S, wp_800 S, wg_801 S, wp_801 S, wg_808 S, wp_808 S, wg_810 S, wp_810 S, eb, ed, hs]
end MT
theorem m_k1 {h : zHeap} : zc 206 [zI (i32 18), zI (i32 5), zI (i32 5), zI (i32 4)] h = some (zL (i64 595108), h) := by
  rw [e_Model_four]
  have e : (((((((i32 18 * i32 32) + i32 5) * i32 32) + i32 5) * i32 32) + i32 4).toInt64) = i64 595108 := by decide
  rw [e]
theorem m_k2 {h : zHeap} : zc 207 [zI (i32 0), zI (i32 0), zI (i32 16), zI (i32 12), zI (i32 1), zI (i32 25), zI (i32 5), zI (i32 18)] h = some (zL (i64 549512370), h) := by
  rw [e_Model_eight, e_Model_four, zbL_s, e_Model_four, zbL_s]
  have e : (((((((i32 0 * i32 32) + i32 0) * i32 32) + i32 16) * i32 32) + i32 12).toInt64) * i64 1048576 + (((((((i32 1 * i32 32) + i32 25) * i32 32) + i32 5) * i32 32) + i32 18).toInt64) = i64 549512370 := by decide
  rw [e]
theorem m_k3 {h : zHeap} : zc 207 [zI (i32 17), zI (i32 21), zI (i32 5), zI (i32 19), zI (i32 20), zI (i32 9), zI (i32 15), zI (i32 14)] h = some (zL (i64 606852490734), h) := by
  rw [e_Model_eight, e_Model_four, zbL_s, e_Model_four, zbL_s]
  have e : (((((((i32 17 * i32 32) + i32 21) * i32 32) + i32 5) * i32 32) + i32 19).toInt64) * i64 1048576 + (((((((i32 20 * i32 32) + i32 9) * i32 32) + i32 15) * i32 32) + i32 14).toInt64) = i64 606852490734 := by decide
  rw [e]
theorem m_k4 {h : zHeap} : zc 207 [zI (i32 0), zI (i32 0), zI (i32 0), zI (i32 13), zI (i32 5), zI (i32 1), zI (i32 14), zI (i32 19)] h = some (zL (i64 13796819), h) := by
  rw [e_Model_eight, e_Model_four, zbL_s, e_Model_four, zbL_s]
  have e : (((((((i32 0 * i32 32) + i32 0) * i32 32) + i32 0) * i32 32) + i32 13).toInt64) * i64 1048576 + (((((((i32 5 * i32 32) + i32 1) * i32 32) + i32 14) * i32 32) + i32 19).toInt64) = i64 13796819 := by decide
  rw [e]
theorem m_k5 {h : zHeap} : zc 206 [zI (i32 0), zI (i32 1), zI (i32 19), zI (i32 11)] h = some (zL (i64 1643), h) := by
  rw [e_Model_four]
  have e : (((((((i32 0 * i32 32) + i32 1) * i32 32) + i32 19) * i32 32) + i32 11).toInt64) = i64 1643 := by decide
  rw [e]
theorem m_k6 {h : zHeap} : zc 206 [zI (i32 4), zI (i32 21), zI (i32 5), zI (i32 20)] h = some (zL (i64 152756), h) := by
  rw [e_Model_four]
  have e : (((((((i32 4 * i32 32) + i32 21) * i32 32) + i32 5) * i32 32) + i32 20).toInt64) = i64 152756 := by decide
  rw [e]
theorem m_k7 {h : zHeap} : zc 206 [zI (i32 0), zI (i32 23), zI (i32 5), zI (i32 20)] h = some (zL (i64 23732), h) := by
  rw [e_Model_four]
  have e : (((((((i32 0 * i32 32) + i32 23) * i32 32) + i32 5) * i32 32) + i32 20).toInt64) = i64 23732 := by decide
  rw [e]
theorem m_k8 {h : zHeap} : zc 206 [zI (i32 0), zI (i32 3), zI (i32 21), zI (i32 20)] h = some (zL (i64 3764), h) := by
  rw [e_Model_four]
  have e : (((((((i32 0 * i32 32) + i32 3) * i32 32) + i32 21) * i32 32) + i32 20).toInt64) = i64 3764 := by decide
  rw [e]
theorem m_k9 {h : zHeap} : zc 206 [zI (i32 3), zI (i32 15), zI (i32 12), zI (i32 4)] h = some (zL (i64 114052), h) := by
  rw [e_Model_four]
  have e : (((((((i32 3 * i32 32) + i32 15) * i32 32) + i32 12) * i32 32) + i32 4).toInt64) = i64 114052 := by decide
  rw [e]
theorem m_k10 {h : zHeap} : zc 207 [zI (i32 0), zI (i32 0), zI (i32 0), zI (i32 14), zI (i32 9), zI (i32 7), zI (i32 8), zI (i32 20)] h = some (zL (i64 14982420), h) := by
  rw [e_Model_eight, e_Model_four, zbL_s, e_Model_four, zbL_s]
  have e : (((((((i32 0 * i32 32) + i32 0) * i32 32) + i32 0) * i32 32) + i32 14).toInt64) * i64 1048576 + (((((((i32 9 * i32 32) + i32 7) * i32 32) + i32 8) * i32 32) + i32 20).toInt64) = i64 14982420 := by decide
  rw [e]
theorem m_k11 {h : zHeap} : zc 206 [zI (i32 0), zI (i32 0), zI (i32 14), zI (i32 15)] h = some (zL (i64 463), h) := by
  rw [e_Model_four]
  have e : (((((((i32 0 * i32 32) + i32 0) * i32 32) + i32 14) * i32 32) + i32 15).toInt64) = i64 463 := by decide
  rw [e]
theorem m_k12 {h : zHeap} : zc 206 [zI (i32 0), zI (i32 25), zI (i32 5), zI (i32 19)] h = some (zL (i64 25779), h) := by
  rw [e_Model_four]
  have e : (((((((i32 0 * i32 32) + i32 25) * i32 32) + i32 5) * i32 32) + i32 19).toInt64) = i64 25779 := by decide
  rw [e]
theorem m_k13 {h : zHeap} : zc 206 [zI (i32 23), zI (i32 1), zI (i32 9), zI (i32 20)] h = some (zL (i64 754996), h) := by
  rw [e_Model_four]
  have e : (((((((i32 23 * i32 32) + i32 1) * i32 32) + i32 9) * i32 32) + i32 20).toInt64) = i64 754996 := by decide
  rw [e]
theorem m_k14 {h : zHeap} : zc 207 [zI (i32 0), zI (i32 0), zI (i32 0), zI (i32 8), zI (i32 5), zI (i32 1), zI (i32 18), zI (i32 4)] h = some (zL (i64 8554052), h) := by
  rw [e_Model_eight, e_Model_four, zbL_s, e_Model_four, zbL_s]
  have e : (((((((i32 0 * i32 32) + i32 0) * i32 32) + i32 0) * i32 32) + i32 8).toInt64) * i64 1048576 + (((((((i32 5 * i32 32) + i32 1) * i32 32) + i32 18) * i32 32) + i32 4).toInt64) = i64 8554052 := by decide
  rw [e]
theorem m_k15 {h : zHeap} : zc 207 [zI (i32 0), zI (i32 0), zI (i32 0), zI (i32 3), zI (i32 15), zI (i32 21), zI (i32 7), zI (i32 8)] h = some (zL (i64 3658984), h) := by
  rw [e_Model_eight, e_Model_four, zbL_s, e_Model_four, zbL_s]
  have e : (((((((i32 0 * i32 32) + i32 0) * i32 32) + i32 0) * i32 32) + i32 3).toInt64) * i64 1048576 + (((((((i32 15 * i32 32) + i32 21) * i32 32) + i32 7) * i32 32) + i32 8).toInt64) = i64 3658984 := by decide
  rw [e]
theorem m_wordOf {h : zHeap} {v : Int} (v0 : 0 ≤ v) (v1 : v < 9223372036854775808) : zc 208 [zL (i64 v)] h = some (zI (i32 (wId v)), h) := by
  have cmp : ∀ c : Int, 0 ≤ c → c < 9223372036854775808 → v = c → decide (zcmp (i64 v) (i64 c) ≠ 0) = false := by
    intro c c0 c1 e
    rw [cmp_0 (by omega) v1 (by omega) c1, if_neg (by omega), if_pos e]
    decide
  have cmn : ∀ c : Int, 0 ≤ c → c < 9223372036854775808 → v ≠ c → decide (zcmp (i64 v) (i64 c) ≠ 0) = true := by
    intro c c0 c1 e
    rw [cmp_0 (by omega) v1 (by omega) c1]
    by_cases g : c < v
    · rw [if_pos g]; decide
    · rw [if_neg g, if_neg e]; decide
  unfold wId
  rw [e_Model_wordOf]
  rw [m_k1, zbL_s]
  by_cases c1 : v = 595108
  · rw [cmp 595108 (by omega) (by omega) c1, zif_f, if_pos c1]
  rw [cmn 595108 (by omega) (by omega) c1, zif_t, if_neg c1]
  rw [m_k2, zbL_s]
  by_cases c2 : v = 549512370
  · rw [cmp 549512370 (by omega) (by omega) c2, zif_f, if_pos c2]
  rw [cmn 549512370 (by omega) (by omega) c2, zif_t, if_neg c2]
  rw [m_k3, zbL_s]
  by_cases c3 : v = 606852490734
  · rw [cmp 606852490734 (by omega) (by omega) c3, zif_f, if_pos c3]
  rw [cmn 606852490734 (by omega) (by omega) c3, zif_t, if_neg c3]
  rw [m_k4, zbL_s]
  by_cases c4 : v = 13796819
  · rw [cmp 13796819 (by omega) (by omega) c4, zif_f, if_pos c4]
  rw [cmn 13796819 (by omega) (by omega) c4, zif_t, if_neg c4]
  rw [m_k5, zbL_s]
  by_cases c5 : v = 1643
  · rw [cmp 1643 (by omega) (by omega) c5, zif_f, if_pos c5]
  rw [cmn 1643 (by omega) (by omega) c5, zif_t, if_neg c5]
  rw [m_k6, zbL_s]
  by_cases c6 : v = 152756
  · rw [cmp 152756 (by omega) (by omega) c6, zif_f, if_pos c6]
  rw [cmn 152756 (by omega) (by omega) c6, zif_t, if_neg c6]
  rw [m_k7, zbL_s]
  by_cases c7 : v = 23732
  · rw [cmp 23732 (by omega) (by omega) c7, zif_f, if_pos c7]
  rw [cmn 23732 (by omega) (by omega) c7, zif_t, if_neg c7]
  rw [m_k8, zbL_s]
  by_cases c8 : v = 3764
  · rw [cmp 3764 (by omega) (by omega) c8, zif_f, if_pos c8]
  rw [cmn 3764 (by omega) (by omega) c8, zif_t, if_neg c8]
  rw [m_k9, zbL_s]
  by_cases c9 : v = 114052
  · rw [cmp 114052 (by omega) (by omega) c9, zif_f, if_pos c9]
  rw [cmn 114052 (by omega) (by omega) c9, zif_t, if_neg c9]
  rw [m_k10, zbL_s]
  by_cases c10 : v = 14982420
  · rw [cmp 14982420 (by omega) (by omega) c10, zif_f, if_pos c10]
  rw [cmn 14982420 (by omega) (by omega) c10, zif_t, if_neg c10]
  rw [m_k11, zbL_s]
  by_cases c11 : v = 463
  · rw [cmp 463 (by omega) (by omega) c11, zif_f, if_pos c11]
  rw [cmn 463 (by omega) (by omega) c11, zif_t, if_neg c11]
  rw [m_k12, zbL_s]
  by_cases c12 : v = 25779
  · rw [cmp 25779 (by omega) (by omega) c12, zif_f, if_pos c12]
  rw [cmn 25779 (by omega) (by omega) c12, zif_t, if_neg c12]
  rw [m_k13, zbL_s]
  by_cases c13 : v = 754996
  · rw [cmp 754996 (by omega) (by omega) c13, zif_f, if_pos c13]
  rw [cmn 754996 (by omega) (by omega) c13, zif_t, if_neg c13]
  rw [m_k14, zbL_s]
  by_cases c14 : v = 8554052
  · rw [cmp 8554052 (by omega) (by omega) c14, zif_f, if_pos c14]
  rw [cmn 8554052 (by omega) (by omega) c14, zif_t, if_neg c14]
  rw [m_k15, zbL_s]
  by_cases c15 : v = 3658984
  · rw [cmp 3658984 (by omega) (by omega) c15, zif_f, if_pos c15]
    rw [e_Model_wordOf_175]
  rw [cmn 3658984 (by omega) (by omega) c15, zif_t, if_neg c15]
  rw [e_Model_wordOf_175]
section MW
variable {h : zHeap} {F : Nat → Nat → Int} {C : Nat → Int → Int} {B : Int → Int} {n : Int}
/-- the letters so far: eight at most -/
def vW (B : Int → Int) (s : Int) (k : Nat) : Int := encR (tl B s (min k 8))
theorem m_word (S : St h) (T : tpM F C B n) {s : Int} (hs : F 772 72 = s) (s0 : 0 ≤ s) {x : Int} : ∀ (j : Nat) (k : Nat), n - (s + k) = j → s + k ≤ n → (∀ i, s ≤ i → i < s + k → bL (B i) = true) → zr 209 39 [yR (some 72), yI (i32 x), yL (i64 (vW B s k)), none] [] (zw h (zsF F 771 72 (s + k)) C) = some (zI 0, zw h (zsF (zsF (zsF F 771 72 (rnE bL B n (s + k))) 775 72 (if 8 < rnE bL B n (s + k) - s then 99 else wId (encR (tl B s (rnE bL B n (s + k) - s).toNat)))) 773 72 (if (if 8 < rnE bL B n (s + k) - s then 99 else wId (encR (tl B s (rnE bL B n (s + k) - s).toNat))) = 99 then 4 else 3)) C) := by
  have T' : ∀ p, tpM (zsF F 771 72 p) C B n := fun p => T.rd ((rmE.rfl F).sF (by omega) (by omega))
  have b2 := T.2.1
  have stop : ∀ k : Nat, s + k ≤ n → (∀ i, s ≤ i → i < s + k → bL (B i) = true) → ∀ y : Int, -1 ≤ y → y ≤ 255 → bL y = false → zc 203 [zR (some 72), zI (i32 (s + k))] (zw h (zsF F 771 72 (s + k)) C) = some (zI (i32 y), zw h (zsF F 771 72 (s + k)) C) → zr 209 39 [yR (some 72), yI (i32 x), yL (i64 (vW B s k)), none] [] (zw h (zsF F 771 72 (s + k)) C) = some (zI 0, zw h (zsF (zsF (zsF F 771 72 (s + k)) 775 72 (if 8 < (s + k) - s then 99 else wId (encR (tl B s ((s + k) - s).toNat)))) 773 72 (if (if 8 < (s + k) - s then 99 else wId (encR (tl B s ((s + k) - s).toNat))) = 99 then 4 else 3)) C) := by
    intro k hk al y y0 y1 yl eb
    have el := m_isLetter (h := zw h (zsF F 771 72 (s + k)) C) y0 y1
    rw [if_neg (by rw [yl]; decide)] at el
    have wg := wg_771 (F := zsF F 771 72 (s + k)) (C := C) S
    rw [zsF_s] at wg
    have wg2 := wg_772 (F := zsF F 771 72 (s + k)) (C := C) S
    rw [zsF_k (by omega), hs] at wg2
    rw [e_Model_advance_39]
    by_cases c : (s + k) - s ≤ 8
    · have d8 : decide (i32 (s + k - s) ≤ i32 8) = true := dT (by rw [i32_le (by omega) (by omega) (by omega) (by omega)]; exact c)
      have hv : vW B s k = encR (tl B s (s + k - s).toNat) := by unfold vW; rw [show min k 8 = (s + k - s).toNat by omega]
      have al2 : ∀ c ∈ tl B s (s + k - s).toNat, ltr c := tl_ltr _ (fun i i0 i1 => al i i0 (by omega))
      have v0 := (encR_nn _ al2).1
      have v1 := encR_lt _ al2
      rw [tl_len] at v1
      have v2 : (32 : Int) ^ (s + k - s).toNat ≤ 1099511627776 := by
        have q := Nat.pow_le_pow_right (n := 32) (by omega) (show (s + k - s).toNat ≤ 8 by omega)
        have q2 := Int.natCast_pow 32 (s + k - s).toNat
        rw [show ((32 : Nat) : Int) = 32 from rfl] at q2
        rw [← q2]
        omega
      rw [if_neg (show ¬ (8 < s + k - s) by omega), hv]
      have ew := m_wordOf (h := zw h (zsF F 771 72 (s + k)) C) v0 (by omega)
      have wr := wId_rng (encR (tl B s (s + k - s).toNat))
      generalize encR (tl B s (s + k - s).toNat) = v at *
      have wp := wp_775 (F := zsF F 771 72 (s + k)) (C := C) S (wId v)
      have wg3 := wg_775 (F := zsF (zsF F 771 72 (s + k)) 775 72 (wId v)) (C := C) S
      rw [zsF_s] at wg3
      by_cases c9 : wId v = 99
      · have d9 : decide (i32 (wId v) ≠ i32 99) = false := dF (by rw [ne_eq, i32_eq (by omega) (by omega) (by omega) (by omega)]; omega)
        rw [if_pos c9]
        simp only [zoI_s, zoR_s, zoH_s, zoL_s, zbI_s, zbV_s, zbR_s, zbL_s, zif_t, zif_f, zrz_0, zrz_1, decide_true, decide_false, wg, wg2, wv_72 S, eb, el, d0eq, i32_sub, d8, ew, wp, wg3, d9, wp_773 S]
      · have d9 : decide (i32 (wId v) ≠ i32 99) = true := dT (by rw [ne_eq, i32_eq (by omega) (by omega) (by omega) (by omega)]; omega)
        rw [if_neg c9]
        simp only [zoI_s, zoR_s, zoH_s, zoL_s, zbI_s, zbV_s, zbR_s, zbL_s, zif_t, zif_f, zrz_0, zrz_1, decide_true, decide_false, wg, wg2, wv_72 S, eb, el, d0eq, i32_sub, d8, ew, wp, wg3, d9, wp_773 S]
    · have d8 : decide (i32 (s + k - s) ≤ i32 8) = false := dF (by rw [i32_le (by omega) (by omega) (by omega) (by omega)]; exact c)
      have wg3 := wg_775 (F := zsF (zsF F 771 72 (s + k)) 775 72 99) (C := C) S
      rw [zsF_s] at wg3
      have d9 : decide (i32 99 ≠ i32 99) = false := by decide
      rw [if_pos (show 8 < s + k - s by omega), if_pos rfl]
      simp only [zoI_s, zoR_s, zoH_s, zoL_s, zbI_s, zbV_s, zbR_s, zbL_s, zif_t, zif_f, zrz_0, zrz_1, decide_true, decide_false, wg, wg2, wv_72 S, eb, el, d0eq, i32_sub, d8, wp_775 S, wg3, d9, wp_773 S]
  intro j
  induction j with
  | zero =>
    intro k h1 h2 al
    rw [rnE_f (by omega)]
    have eb := m_byteAt S (T' (s + k)) (p := s + k) (by omega) (by omega)
    rw [if_neg (by omega)] at eb
    exact stop k h2 al (-1) (by omega) (by omega) (by decide) eb
  | succ j ih =>
    intro k h1 h2 al
    have tb := T.2.2 (s + k) (by omega) (by omega)
    have eb := m_byteAt S (T' (s + k)) (p := s + k) (by omega) (by omega)
    rw [if_pos (by omega)] at eb
    by_cases c1 : bL (B (s + k)) = true
    · have el := m_isLetter (h := zw h (zsF F 771 72 (s + k)) C) (x := B (s + k)) (by omega) (by omega)
      rw [if_pos c1] at el
      have al2 : ∀ i, s ≤ i → i < s + ((k + 1 : Nat) : Int) → bL (B i) = true := by
        intro i i0 i1
        by_cases z : i = s + k
        · rw [z]; exact c1
        · exact al i i0 (by omega)
      have iv := ih (k + 1) (by omega) (by omega) al2
      rw [show s + ((k + 1 : Nat) : Int) = s + k + 1 by omega] at iv
      rw [rnE_t (by omega) c1, ← iv, e_Model_advance_39]
      have wg := wg_771 (F := zsF F 771 72 (s + k)) (C := C) S
      rw [zsF_s] at wg
      have wg2 := wg_772 (F := zsF F 771 72 (s + k)) (C := C) S
      rw [zsF_k (by omega), hs] at wg2
      have wp := wp_771 (F := zsF F 771 72 (s + k)) (C := C) S (s + k + 1)
      rw [zsF_ss] at wp
      by_cases c2 : 8 ≤ s + k - s
      · have d8 : decide (i32 8 ≤ i32 (s + k - s)) = true := dT (by rw [i32_le (by omega) (by omega) (by omega) (by omega)]; exact c2)
        have hv : vW B s (k + 1) = vW B s k := by unfold vW; rw [show min (k + 1) 8 = min k 8 by omega]
        rw [hv]
        simp only [zoI_s, zoR_s, zoH_s, zoL_s, zbI_s, zbV_s, zbR_s, zbL_s, zif_t, zif_f, zrz_0, zrz_1, decide_true, decide_false, wg, wg2, wv_72 S, eb, el, d10, i32_sub, d8, i32_add, wp]
      · have d8 : decide (i32 8 ≤ i32 (s + k - s)) = false := dF (by rw [i32_le (by omega) (by omega) (by omega) (by omega)]; exact c2)
        have hv : vW B s (k + 1) = 32 * vW B s k + B (s + k) - 96 := by
          unfold vW
          rw [show min (k + 1) 8 = k + 1 by omega, show min k 8 = k by omega, tl, encR]
          omega
        have e64 := i64_of32 (a := B (s + k)) (by omega) (by omega)
        rw [hv]
        simp only [zoI_s, zoR_s, zoH_s, zoL_s, zbI_s, zbV_s, zbR_s, zbL_s, zif_t, zif_f, zrz_0, zrz_1, decide_true, decide_false, wg, wg2, wv_72 S, eb, el, d10, i32_sub, d8, i32_add, wp, e64, i64_mul, i64_add, i64_sub]
    · rw [rnE_f (fun z => c1 z.2)]
      exact stop k h2 al (B (s + k)) (by omega) (by omega) (eq_false_of_ne_true c1) eb
theorem m_advance (S : St h) (T : tpM F C B n) {p : Int} (hp : F 771 72 = p) (p0 : 0 ≤ p) (p1 : p ≤ n) : ∃ F', zc 209 [zR (some 72)] (zw h F C) = some (zI 0, zw h F' C) ∧ rmE F F' ∧ tkM F' B n (tS B n p) := by
  have e0 := m_adv0 S T (n - p).toNat p (by omega) p0 p1
  rw [← hp, zsF_id, hp] at e0
  have nb : ¬ (tS B n p < n ∧ bB (B (tS B n p)) = true) := fun z => by
    have q := rnE_stop (P := bB) (B := B) (n := n) (n - p).toNat p (by omega) p1
    exact q z
  rw [e_Model_advance, e0]
  have sl := tS_le (B := B) p1
  show ∃ F', _ = _ ∧ rmE F F' ∧ tkM F' B n (tS B n p)
  rw [show rnE bB B n p = tS B n p from rfl]
  generalize tS B n p = s at *
  have b2 := T.2.1
  have T1 : tpM (zsF F 771 72 s) C B n := T.rd ((rmE.rfl F).sF (by omega) (by omega))
  have T2 : tpM (zsF (zsF F 771 72 s) 772 72 s) C B n := T1.rd ((rmE.rfl _).sF (by omega) (by omega))
  have wg := wg_771 (F := zsF F 771 72 s) (C := C) S
  rw [zsF_s] at wg
  have wp := wp_772 (F := zsF F 771 72 s) (C := C) S s
  have wg2 := wg_771 (F := zsF (zsF F 771 72 s) 772 72 s) (C := C) S
  rw [zsF_k (by omega), zsF_s] at wg2
  have eb := m_byteAt S T1 (p := s) (by omega) (by omega)
  have eb2 := m_byteAt S T2 (p := s) (by omega) (by omega)
  have kn : ∀ v : Int, v ≠ 1 → tK B n s = v → tK B n s = 1 → F 774 72 = tN B n s := fun v h1 h2 h3 => by omega
  have kw : ∀ v : Int, v ≠ 0 → tK B n s = v → tK B n s = 0 → F 775 72 = tW B n s := fun v h1 h2 h3 => by omega
  rw [e_Model_advance_0]
  by_cases c : s < n
  · have tb := T.2.2 s (by omega) c
    have cn : ¬ (n ≤ s) := by omega
    rw [if_pos c] at eb eb2
    have nb2 : ¬ (B s = 10 ∨ B s = 32) := fun z => nb ⟨c, by unfold bB; rw [decide_eq_true_eq]; exact z⟩
    have dA : decide (i32 (B s) = i32 10) = false := dF (by rw [i32_eq (by omega) (by omega) (by omega) (by omega)]; omega)
    have dB : decide (i32 (B s) ≠ i32 32) = true := dT (by rw [ne_eq, i32_eq (by omega) (by omega) (by omega) (by omega)]; omega)
    have dC : decide (0 ≤ i32 (B s)) = true := dT (by rw [i32_0, i32_le (by omega) (by omega) (by omega) (by omega)]; omega)
    have el := m_isLetter (h := zw h (zsF (zsF F 771 72 s) 772 72 s) C) (x := B s) (by omega) (by omega)
    have eg := m_isDigit (h := zw h (zsF (zsF F 771 72 s) 772 72 s) C) (x := B s) (by omega) (by omega)
    by_cases cl : bL (B s) = true
    · rw [if_pos cl] at el
      have hE : tE B n s = rnE bL B n s := by unfold tE; rw [if_neg cn, if_pos cl]
      have hK : tK B n s = 0 := by unfold tK; rw [if_neg cn, if_pos cl]
      have T3 : tpM (zsF F 772 72 s) C B n := T.rd ((rmE.rfl _).sF (by omega) (by omega))
      have ew := m_word (F := zsF F 772 72 s) S T3 (s := s) rfl (by omega) (x := B s) (n - s).toNat 0 (by omega) (by omega) (fun i i0 i1 => by omega)
      rw [show s + ((0 : Nat) : Int) = s by omega, show vW B s 0 = 0 from rfl, show zsF (zsF F 772 72 s) 771 72 s = zsF (zsF F 771 72 s) 772 72 s from zsF_sw F _ _ (by omega), ← hE] at ew
      have hW : (if 8 < tE B n s - s then 99 else wId (encR (tl B s (tE B n s - s).toNat))) = tW B n s := rfl
      rw [hW] at ew
      refine ⟨_, ?_, ((((rmE.rfl F).sF (k := 772) (x := s) (by omega) (by omega)).sF (k := 771) (x := tE B n s) (by omega) (by omega)).sF (k := 775) (x := tW B n s) (by omega) (by omega)).sF (k := 773) (x := if tW B n s = 99 then 4 else 3) (by omega) (by omega), rfl, rfl, ?_, fun _ => rfl, fun z => by omega⟩
      · simp only [zoI_s, zoR_s, zoH_s, zoL_s, zbI_s, zbV_s, zbR_s, zbL_s, zif_t, zif_f, zrz_0, zrz_1, decide_true, decide_false, wg, wv_72 S, eb, dA, dB, wp, wg2, eb2, dC, el, d10, ew]
      · show (if tW B n s = 99 then 4 else 3) = kM B n s
        unfold kM
        rw [hK]
        rfl
    · rw [if_neg cl] at el
      by_cases cg : bG (B s) = true
      · rw [if_pos cg] at eg
        have hE : tE B n s = rnE bG B n s := by unfold tE; rw [if_neg cn, if_neg cl, if_pos cg]
        have hK : tK B n s = if rnE bG B n s - s ≤ 2 then 1 else 4 := by unfold tK; rw [if_neg cn, if_neg cl, if_pos cg, hE]
        have T3 : tpM (zsF F 772 72 s) C B n := T.rd ((rmE.rfl _).sF (by omega) (by omega))
        have ew := m_num (F := zsF F 772 72 s) S T3 (s := s) rfl (by omega) (x := B s) (n - s).toNat s 0 (by omega) (by omega) (by omega)
        rw [show zsF (zsF (zsF F 772 72 s) 774 72 0) 771 72 s = zsF (zsF (zsF F 771 72 s) 772 72 s) 774 72 0 from by rw [zsF_sw (zsF F 772 72 s) _ _ (by omega), zsF_sw F _ _ (by omega)], ← hE] at ew
        refine ⟨_, ?_, ((((rmE.rfl F).sF (k := 772) (x := s) (by omega) (by omega)).sF (k := 774) (x := runR B n s (n - s).toNat s 0) (by omega) (by omega)).sF (k := 771) (x := tE B n s) (by omega) (by omega)).sF (k := 773) (x := if tE B n s - s ≤ 2 then 1 else 4) (by omega) (by omega), rfl, rfl, ?_, fun z => ?_, fun z => ?_⟩
        · simp only [zoI_s, zoR_s, zoH_s, zoL_s, zbI_s, zbV_s, zbR_s, zbL_s, zif_t, zif_f, zrz_0, zrz_1, decide_true, decide_false, wg, wv_72 S, eb, dA, dB, wp, wg2, eb2, dC, el, d0eq, eg, d10, wp_774 S, ew]
        · show (if tE B n s - s ≤ 2 then 1 else 4) = kM B n s
          unfold kM
          rw [hK, ← hE]
          split
          · rw [if_neg (by omega), if_neg (by omega)]
          · rw [if_neg (by omega), if_neg (by omega)]
        · exfalso
          rw [hK] at z
          split at z <;> omega
        · show runR B n s (n - s).toNat s 0 = tN B n s
          unfold tN
          refine runR_V _ _ _ (by omega) ?_
          rw [hK] at z
          split at z
          · rename_i q; exact q
          · omega
      · rw [if_neg cg] at eg
        have hE : tE B n s = s + 1 := by unfold tE; rw [if_neg cn, if_neg cl, if_neg cg]
        have wp2 := wp_771 (F := zsF (zsF F 771 72 s) 772 72 s) (C := C) S (s + 1)
        by_cases c5 : B s = 59
        · have hK : tK B n s = 2 := by unfold tK; rw [if_neg cn, if_neg cl, if_neg cg, if_pos c5]
          have d5 : decide (i32 (B s) ≠ i32 59) = false := dF (by rw [c5]; exact fun z => z rfl)
          refine ⟨_, ?_, ((((rmE.rfl F).sF (k := 771) (x := s) (by omega) (by omega)).sF (k := 772) (x := s) (by omega) (by omega)).sF (k := 771) (x := s + 1) (by omega) (by omega)).sF (k := 773) (x := 2) (by omega) (by omega), rfl, hE.symm, ?_, kw 2 (by omega) hK, kn 2 (by omega) hK⟩
          · simp only [zoI_s, zoR_s, zoH_s, zoL_s, zbI_s, zbV_s, zbR_s, zbL_s, zif_t, zif_f, zrz_0, zrz_1, decide_true, decide_false, wg, wv_72 S, eb, dA, dB, wp, wg2, eb2, dC, el, d0eq, eg, i32_add, wp2, d5, wp_773 S]
          · unfold kM; rw [hK]; rfl
        · have hK : tK B n s = 4 := by unfold tK; rw [if_neg cn, if_neg cl, if_neg cg, if_neg c5]
          have d5 : decide (i32 (B s) ≠ i32 59) = true := dT (by rw [ne_eq, i32_eq (by omega) (by omega) (by omega) (by omega)]; exact c5)
          refine ⟨_, ?_, ((((rmE.rfl F).sF (k := 771) (x := s) (by omega) (by omega)).sF (k := 772) (x := s) (by omega) (by omega)).sF (k := 771) (x := s + 1) (by omega) (by omega)).sF (k := 773) (x := 4) (by omega) (by omega), rfl, hE.symm, ?_, kw 4 (by omega) hK, kn 4 (by omega) hK⟩
          · simp only [zoI_s, zoR_s, zoH_s, zoL_s, zbI_s, zbV_s, zbR_s, zbL_s, zif_t, zif_f, zrz_0, zrz_1, decide_true, decide_false, wg, wv_72 S, eb, dA, dB, wp, wg2, eb2, dC, el, d0eq, eg, i32_add, wp2, d5, wp_773 S]
          · unfold kM; rw [hK]; rfl
  · have cn : n ≤ s := by omega
    rw [if_neg c] at eb eb2
    have hE : tE B n s = s := by unfold tE; rw [if_pos cn]
    have hK : tK B n s = 3 := by unfold tK; rw [if_pos cn]
    have dA : decide (i32 (-1) = i32 10) = false := by decide
    have dB : decide (i32 (-1) ≠ i32 32) = true := by decide
    have dC : decide (0 ≤ i32 (-1)) = false := by decide
    refine ⟨_, ?_, (((rmE.rfl F).sF (k := 771) (x := s) (by omega) (by omega)).sF (k := 772) (x := s) (by omega) (by omega)).sF (k := 773) (x := 0) (by omega) (by omega), rfl, hE.symm, ?_, kw 3 (by omega) hK, kn 3 (by omega) hK⟩
    · simp only [zoI_s, zoR_s, zoH_s, zoL_s, zbI_s, zbV_s, zbR_s, zbL_s, zif_t, zif_f, zrz_0, zrz_1, decide_true, decide_false, wg, wv_72 S, eb, dA, dB, wp, wg2, eb2, dC, wp_773 S]
    · unfold kM; rw [if_pos hK]; rfl
end MW
