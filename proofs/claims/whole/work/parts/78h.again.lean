/-! image and again: the reference; again, both -/
section AG
variable {h : zHeap} {F : Nat → Nat → Int} {C : Nat → Int → Int} {L : Nat} {xs : Nat → Int32}
def cpR (g : Int → Int) (q p i : Int) : Int → Int := fun j => if p ≤ j ∧ j < p + i then g (j - p + q) else g j
theorem cpR_0 (g : Int → Int) (q p : Int) : cpR g q p 0 = g := by
  funext j
  unfold cpR
  rw [if_neg (by omega)]
theorem cpR_s (g : Int → Int) {q p i : Int} (i0 : 0 ≤ i) : up1 (cpR g q p i) (p + i) (g (q + i)) = cpR g q p (i + 1) := by
  funext j
  unfold up1 cpR
  by_cases c : j = p + i
  · rw [if_pos c, if_pos (by omega), show j - p + q = q + i by omega]
  · rw [if_neg c]
    by_cases c2 : p ≤ j ∧ j < p + i
    · rw [if_pos c2, if_pos (by omega)]
    · rw [if_neg c2, if_neg (by omega)]
theorem m_imageL (S : St h) {k : Int} (k0 : 0 ≤ k) (k1 : k < 3) : zr 321 14 [yR (some 72), yI (i32 k), yI (i32 0)] [] (zw h F C) = some (zI (i32 1), zw h F (zsW C 73 (cpR (C 73) 0 (1230 * (k + 1)) 1230))) := by
  obtain ⟨f, e1, I⟩ := zinv (fun i (f : Int → Int) => zr 321 14 [yR (some 72), yI (i32 k), yI (i32 i)] [] (zw h F (zsW C 73 f))) (fun i f => f = cpR (C 73) 0 (1230 * (k + 1)) i) 0 1230 (by omega) (fun i f i0 i1 I => by
    subst I
    refine ⟨up1 (cpR (C 73) 0 (1230 * (k + 1)) i) (1230 * (k + 1) + i) (C 73 (0 + i)), ?_, cpR_s _ i0⟩
    have g : cpR (C 73) 0 (1230 * (k + 1)) i i = C 73 (0 + i) := by unfold cpR; rw [if_neg (by omega), Int.zero_add]
    rw [e_Model_image_14]
    simp (disch := omega) only [if_true, if_false, not_true_eq_false, not_false_eq_true, zoI_s, zoR_s, zoH_s, zoL_s, zbI_s, zbV_s, zbR_s, zbL_s, zif_dec, i32_0, ne_eq, i32_lt, i32_le, i32_eq, i32_add, i32_mul, i32_sub, i32_neg, zrz_0, zrz_1, zif_t, zif_f, zsF_s, zsF_k, zsF_a, zsC_s, zsC_a, zsC_i, zsW_s, zsW_a, Int.add_zero, Int.zero_add, true_and, false_and, and_false, Bool.false_eq_true, decide_true, decide_false, Bool.true_and, Bool.false_and, Bool.true_or, Bool.false_or, sub1, and_true, if_pos, if_neg, wv_72 S, wr_768 S, wr_769 S, wr_777 S, wr_785 S, wr_786 S, wr_787 S, wr_789 S, wr_790 S, wr_791 S, wr_802 S, wr_803 S, wr_804 S, wr_805 S, wr_806 S, wr_807 S, wr_809 S, wg_770 S, wp_770 S, wg_771 S, wp_771 S, wg_772 S, wp_772 S, wg_773 S, wp_773 S, wg_774 S, wp_774 S, wg_775 S, wp_775 S, wg_776 S, wp_776 S, wg_778 S, wp_778 S, wg_779 S, wp_779 S, wg_780 S, wp_780 S, wg_781 S, wp_781 S, wg_782 S, wp_782 S, wg_783 S, wp_783 S, wg_784 S, wp_784 S, wg_788 S, wp_788 S, wg_792 S, wp_792 S, wg_793 S, wp_793 S, wg_794 S, wp_794 S, wg_795 S, wp_795 S, wg_796 S, wp_796 S, wg_797 S, wp_797 S, wg_798 S, wp_798 S, wg_799 S, wp_799 S, wg_800 S, wp_800 S, wg_801 S, wp_801 S, wg_808 S, wp_808 S, wg_810 S, wp_810 S, wa_73 S, ws_73 S, i32_mul, zsC_W, zsW_W, zsW_s]
    rw [g, Int.zero_add]) (C 73) (cpR_0 _ _ _).symm
  rw [zsW_id] at e1
  subst I
  rw [e1, e_Model_image_14]
  simp (disch := omega) only [if_true, if_false, not_true_eq_false, not_false_eq_true, zoI_s, zoR_s, zoH_s, zoL_s, zbI_s, zbV_s, zbR_s, zbL_s, zif_dec, i32_0, ne_eq, i32_lt, i32_le, i32_eq, i32_add, i32_mul, i32_sub, i32_neg, zrz_0, zrz_1, zif_t, zif_f, zsF_s, zsF_k, zsF_a, zsC_s, zsC_a, zsC_i, zsW_s, zsW_a, Int.add_zero, Int.zero_add, true_and, false_and, and_false, Bool.false_eq_true, decide_true, decide_false, Bool.true_and, Bool.false_and, Bool.true_or, Bool.false_or, sub1, and_true, if_pos, if_neg]
theorem m_againL (S : St h) {k : Int} (k0 : 0 ≤ k) (k1 : k < 3) : zr 322 14 [yR (some 72), yI (i32 k), yI (i32 0)] [] (zw h F C) = some (zI (i32 1), zw h F (zsW C 73 (cpR (C 73) (1230 * (k + 1)) 0 1230))) := by
  obtain ⟨f, e1, I⟩ := zinv (fun i (f : Int → Int) => zr 322 14 [yR (some 72), yI (i32 k), yI (i32 i)] [] (zw h F (zsW C 73 f))) (fun i f => f = cpR (C 73) (1230 * (k + 1)) 0 i) 0 1230 (by omega) (fun i f i0 i1 I => by
    subst I
    refine ⟨up1 (cpR (C 73) (1230 * (k + 1)) 0 i) (0 + i) (C 73 (1230 * (k + 1) + i)), ?_, cpR_s _ i0⟩
    have g : cpR (C 73) (1230 * (k + 1)) 0 i (1230 * (k + 1) + i) = C 73 (1230 * (k + 1) + i) := by unfold cpR; rw [if_neg (by omega)]
    rw [e_Model_again_14]
    simp (disch := omega) only [if_true, if_false, not_true_eq_false, not_false_eq_true, zoI_s, zoR_s, zoH_s, zoL_s, zbI_s, zbV_s, zbR_s, zbL_s, zif_dec, i32_0, ne_eq, i32_lt, i32_le, i32_eq, i32_add, i32_mul, i32_sub, i32_neg, zrz_0, zrz_1, zif_t, zif_f, zsF_s, zsF_k, zsF_a, zsC_s, zsC_a, zsC_i, zsW_s, zsW_a, Int.add_zero, Int.zero_add, true_and, false_and, and_false, Bool.false_eq_true, decide_true, decide_false, Bool.true_and, Bool.false_and, Bool.true_or, Bool.false_or, sub1, and_true, if_pos, if_neg, wv_72 S, wr_768 S, wr_769 S, wr_777 S, wr_785 S, wr_786 S, wr_787 S, wr_789 S, wr_790 S, wr_791 S, wr_802 S, wr_803 S, wr_804 S, wr_805 S, wr_806 S, wr_807 S, wr_809 S, wg_770 S, wp_770 S, wg_771 S, wp_771 S, wg_772 S, wp_772 S, wg_773 S, wp_773 S, wg_774 S, wp_774 S, wg_775 S, wp_775 S, wg_776 S, wp_776 S, wg_778 S, wp_778 S, wg_779 S, wp_779 S, wg_780 S, wp_780 S, wg_781 S, wp_781 S, wg_782 S, wp_782 S, wg_783 S, wp_783 S, wg_784 S, wp_784 S, wg_788 S, wp_788 S, wg_792 S, wp_792 S, wg_793 S, wp_793 S, wg_794 S, wp_794 S, wg_795 S, wp_795 S, wg_796 S, wp_796 S, wg_797 S, wp_797 S, wg_798 S, wp_798 S, wg_799 S, wp_799 S, wg_800 S, wp_800 S, wg_801 S, wp_801 S, wg_808 S, wp_808 S, wg_810 S, wp_810 S, wa_73 S, ws_73 S, i32_mul, zsC_W, zsW_W, zsW_s]
    rw [g]) (C 73) (cpR_0 _ _ _).symm
  rw [zsW_id] at e1
  subst I
  rw [e1, e_Model_again_14]
  simp (disch := omega) only [if_true, if_false, not_true_eq_false, not_false_eq_true, zoI_s, zoR_s, zoH_s, zoL_s, zbI_s, zbV_s, zbR_s, zbL_s, zif_dec, i32_0, ne_eq, i32_lt, i32_le, i32_eq, i32_add, i32_mul, i32_sub, i32_neg, zrz_0, zrz_1, zif_t, zif_f, zsF_s, zsF_k, zsF_a, zsC_s, zsC_a, zsC_i, zsW_s, zsW_a, Int.add_zero, Int.zero_add, true_and, false_and, and_false, Bool.false_eq_true, decide_true, decide_false, Bool.true_and, Bool.false_and, Bool.true_or, Bool.false_or, sub1, and_true, if_pos, if_neg]
theorem aR_3 {p : Nat → Option Nat} (H : hAR h 34 = some (9, 3, p)) {d : Int} (d0 : 0 ≤ d) (d1 : d < 3) : zaR (zw h F C) (some 34) (i32 d) = some (p d.toNat) := by
  show (match hAR h 34 with | some (_, n, f) => _ | none => none) = _
  rw [H]
  dsimp only
  rw [if_pos ⟨by rw [i32_0, i32_le (by omega) (by omega) (by omega) (by omega)]; exact d0, by rw [i32_nat d0 (by omega)]; omega⟩, i32_nat d0 (by omega)]
theorem b74 (S : St h) {k : Int} (k0 : 0 ≤ k) (k1 : k < 3) : zaB (zw h F C) (some 74) (i32 k) = some (i32 (C 74 k)) := zw_aB S.2.2.2.2.1 (Or.inr rfl) (by unfold zK0; omega) (by omega) k0 k1
theorem c74 (S : St h) {k : Int} (k0 : 0 ≤ k) (k1 : k < 3) : zaC (zw h F C) (some 74) (i32 k) (i32 1) = some (zw h F (zsC C 74 k 1)) := zw_aC S.2.2.2.2.1 (Or.inr rfl) (by unfold zK0; omega) (by omega) k0 k1 (by decide)
theorem j_again {k : Int} (hk : inI k) : jnt 188 322 [zI (i32 k)] := by
  intro L xs h F C W
  obtain ⟨Q, kn, sz, sc, p, p1, p2, p3, p4, p5⟩ := id W
  have S := Q.1
  unfold inI at hk
  have mi := fun h => @m_isIn h k 0 2 hk.1 hk.2 (by omega) (by omega) (by omega) (by omega)
  by_cases c : 0 ≤ k ∧ k < 3
  · have dm : decide (i32 (if 0 ≤ k ∧ k ≤ 2 then 1 else 0) = 0) = false := by rw [if_pos (by omega)]; decide
    have d0 : decide (i32 k < 0) = false := dF (by rw [i32_0, i32_lt (by omega) (by omega) (by omega) (by omega)]; omega)
    have d1 : decide (i32 3 ≤ i32 k) = false := dF (by rw [i32_le (by omega) (by omega) (by omega) (by omega)]; omega)
    have aR := fun F C => aR_3 (h := h) (F := F) (C := C) p1 c.1 c.2
    have kk : (k.toNat : Int) = k := Int.toNat_of_nonneg c.1
    rcases p2 k.toNat (by omega) with ⟨i1, i2⟩ | ⟨b, i1, i2, i3, i4, i5, i6, i7, i8⟩
    · rw [i1] at aR
      rw [kk] at i2
      have db : decide (i32 0 ≠ 0) = false := by decide
      have bb := b74 (F := F) (C := C) S c.1 c.2
      rw [i2] at bb
      refine ⟨0, zw h F C, h, F, C, ?_, ?_, zw_is, W⟩
      · simp only [zoI_s, zoR_s, zoH_s, zoL_s, zbI_s, zbV_s, zbR_s, zbL_s, zif_t, zif_f, zrz_0, zrz_1, decide_true, decide_false, e_Main_again, d0, d1, wr_705 S, aR, Option.isSome_none]
      · simp only [zoI_s, zoR_s, zoH_s, zoL_s, zbI_s, zbV_s, zbR_s, zbL_s, zif_t, zif_f, zrz_0, zrz_1, decide_true, decide_false, e_Model_again, mi, dm, wr_769 S, bb, db]
    · rw [i1] at aR
      rw [kk] at i2
      have ak : imA C k.toNat = fun j => C 73 (1230 * (k + 1) + j) := by unfold imA; rw [kk]
      obtain ⟨F1, C1, e1, fr, V1, Z1⟩ := c_tcopy (F := F) (C := C) S.2.2.2.2.2.1 i5 (by omega) i6 i7 i8
      have r73 : C1 73 = C 73 := (fr 73 (by omega)).2
      have r74 : C1 74 = C 74 := (fr 74 (by omega)).2
      have db : decide (i32 1 ≠ 0) = true := by decide
      have bb := b74 (F := F1) (C := C1) S c.1 c.2
      rw [r74, i2] at bb
      have mL := m_againL (F := F1) (C := C1) S c.1 c.2
      have tv := fun F C m as => zw_v (h := h) (F := F) (C := C) (m := m) (as := as) S.2.2.2.2.2.1.1
      refine ⟨1, zw h F1 C1, h, F1, zsW C1 73 (cpR (C1 73) (1230 * (k + 1)) 0 1230), ?_, ?_, zw_is, ?_⟩
      rotate_left
      · simp only [zoI_s, zoR_s, zoH_s, zoL_s, zbI_s, zbV_s, zbR_s, zbL_s, zif_t, zif_f, zrz_0, zrz_1, decide_true, decide_false, e_Model_again, mi, dm, wr_769 S, bb, db, mL]
      · rw [r73]
        have ea : ∀ j, 0 ≤ j → j < 1230 → cpR (C 73) (1230 * (k + 1)) 0 1230 j = imA C k.toNat j := by
          intro j j0 j1
          rw [ak]; unfold cpR
          rw [if_pos (by omega)]
          dsimp only
          rw [show j - 0 + 1230 * (k + 1) = 1230 * (k + 1) + j by omega]
        refine W.nw ?_ ?_ Z1 (fun x hx => ⟨(fr x (by omega)).1, by rw [zsW_a (by omega), (fr x (by omega)).2]⟩) (by rw [zsW_a (by omega), r74]) (fun j j0 j1 => ?_)
        · rw [zsW_s]
          exact ((V1.fr i7 (fun x hx _ => ⟨fun _ => rfl, zsW_a (by omega)⟩)).cg i7 ea)
        · rw [zsW_s]; exact i7.cg ea
        · rw [zsW_s]; unfold cpR; rw [if_neg (by omega)]
      · simp only [zoI_s, zoR_s, zoH_s, zoL_s, zbI_s, zbV_s, zbR_s, zbL_s, zif_t, zif_f, zrz_0, zrz_1, decide_true, decide_false, e_Main_again, d0, d1, wr_705 S, wr_704 S, aR, Option.isSome_some, tv, e1]
  · have dm : decide (i32 (if 0 ≤ k ∧ k ≤ 2 then 1 else 0) = 0) = true := by rw [if_neg (by omega)]; decide
    refine ⟨0, zw h F C, h, F, C, ?_, ?_, zw_is, W⟩
    · by_cases c0 : k < 0
      · have d0 : decide (i32 k < 0) = true := dT (by rw [i32_0, i32_lt (by omega) (by omega) (by omega) (by omega)]; omega)
        simp only [zoI_s, zoR_s, zoH_s, zoL_s, zbI_s, zbV_s, zbR_s, zbL_s, zif_t, zif_f, zrz_0, zrz_1, decide_true, decide_false, e_Main_again, d0]
      · have d0 : decide (i32 k < 0) = false := dF (by rw [i32_0, i32_lt (by omega) (by omega) (by omega) (by omega)]; omega)
        have d1 : decide (i32 3 ≤ i32 k) = true := dT (by rw [i32_le (by omega) (by omega) (by omega) (by omega)]; omega)
        simp only [zoI_s, zoR_s, zoH_s, zoL_s, zbI_s, zbV_s, zbR_s, zbL_s, zif_t, zif_f, zrz_0, zrz_1, decide_true, decide_false, e_Main_again, d0, d1]
    · simp only [zoI_s, zoR_s, zoH_s, zoL_s, zbI_s, zbV_s, zbR_s, zbL_s, zif_t, zif_f, zrz_0, zrz_1, decide_true, decide_false, e_Model_again, mi, dm]
end AG
