/-! the class reads a line: years, logs; which line it is -/
section KY
variable {h : zHeap} {F : Nat → Nat → Int} {C : Nat → Int → Int} {T : Int → Int} {v : Int → Int}
theorem k_log (S : St h) (V : loV F C 45 T) (O : lOK T) (hT : T 0 < 8) {l m x : Int} (hl : (l = 11 ∧ x = v 2 ∧ C 49 2 = v 2) ∨ (l = 12 ∧ x = -1)) (a0 : C 49 0 = v 0) (a1 : C 49 1 = v 1) (b0 : 0 ≤ v 0 ∧ v 0 ≤ 3) (b1 : 0 ≤ v 1 ∧ v 1 ≤ 7) (b2 : -1 ≤ x ∧ x ≤ 7) : ∃ F' C', zc 80 [zR (some 35), zI (i32 l), zI (i32 m)] (zw h F C) = some (zI 0, zw h F' C') ∧ kpF F C F' C' ∧ (loV F' C' 45 (kpS l v m T) ∧ lOK (kpS l v m T)) ∧ ((∀ k a, a ≠ 45 → F' k a = F k a) ∧ (0 ≤ F' 192 45 ∧ F' 192 45 ≤ 8)) := by
  have Hl := H45 S
  have x0 := wa_49 (F := F) (C := C) S (i := 0) (by omega) (by omega)
  have x1 := wa_49 (F := F) (C := C) S (i := 1) (by omega) (by omega)
  rw [a0] at x0
  rw [a1] at x1
  have oo := O.1
  have ea : zc 54 [zR (some 45), zI (i32 (v 0)), zI (i32 (v 1)), zI (i32 x)] (zw h F C) = some (zI 0, zw h (zsF F 192 45 (T 0 + 1)) (zsC (zsC (zsC C (45 + 1) (T 0) (v 0)) (45 + 2) (T 0) (v 1)) (45 + 3) (T 0) x)) := by
    simp (disch := omega) only [if_true, if_false, not_true_eq_false, not_false_eq_true, zoI_s, zoR_s, zoH_s, zoL_s, zbI_s, zbV_s, zbR_s, zbL_s, zif_dec, i32_0, ne_eq, i32_lt, i32_le, i32_eq, i32_add, i32_mul, i32_sub, i32_neg, zrz_0, zrz_1, zif_t, zif_f, zsF_s, zsF_k, zsF_a, zsC_s, zsC_a, zsC_i, zsW_s, zsW_a, Int.add_zero, Int.zero_add, true_and, false_and, and_false, Bool.false_eq_true, decide_true, decide_false, Bool.true_and, Bool.false_and, Bool.true_or, Bool.false_or, sub1, and_true, if_pos, if_neg, lv Hl, lg_192 Hl, lr_193 Hl, la_193 Hl, lr_194 Hl, la_194 Hl, lr_195 Hl, la_195 Hl, lp_192 Hl, ls_193 Hl, ls_194 Hl, ls_195 Hl, e_Log_add, V.1]
  have eT : kpS l v m T = up1 (up1 (up1 (up1 T (1 + 3 * T 0) (v 0)) (2 + 3 * T 0) (v 1)) (3 + 3 * T 0) x) 0 (T 0 + 1) := by
    unfold kpS
    rcases hl with ⟨rfl, rfl, _⟩ | ⟨rfl, rfl⟩
    · rw [if_neg (by omega), if_neg (by omega), if_neg (by omega), if_neg (by omega), if_neg (by omega), if_pos rfl]
    · rw [if_neg (by omega), if_neg (by omega), if_neg (by omega), if_neg (by omega), if_neg (by omega), if_neg (by omega), if_pos rfl]
  have e0 : kpS l v m T 0 = T 0 + 1 := by rw [eT]; simp (disch := omega) only [up1_s, up1_n]
  obtain ⟨v1, v2⟩ := V
  refine ⟨zsF F 192 45 (T 0 + 1), zsC (zsC (zsC C (45 + 1) (T 0) (v 0)) (45 + 2) (T 0) (v 1)) (45 + 3) (T 0) x, ?_, ((((kpF.rfl F C).sC (by omega) (by omega)).sC (by omega) (by omega)).sC (by omega) (by omega)).sF (by omega) (by omega), ⟨⟨by rw [e0]; rfl, ?_⟩, ⟨by rw [e0]; omega, ?_⟩⟩, ⟨fun k a ha => zsF_a ha, ?_⟩⟩
  · rcases hl with ⟨rfl, rfl, a2⟩ | ⟨rfl, rfl⟩
    · have x2 := wa_49 (F := F) (C := C) S (i := 2) (by omega) (by omega)
      rw [a2] at x2
      simp only [zoI_s, zoR_s, zoH_s, zoL_s, zbI_s, zbV_s, zbR_s, zbL_s, zif_t, zif_f, zrz_0, zrz_1, decide_true, decide_false, e_Reader_keep, t11_0, t11_1, t11_2, t11_3, t11_4, t11_5, t11_6, t11_7, t11_8, t11_9, t11_10, t11_11, wr_322 S, wr_326 S, x0, x1, x2, lv Hl, ea]
    · simp only [zoI_s, zoR_s, zoH_s, zoL_s, zbI_s, zbV_s, zbR_s, zbL_s, zif_t, zif_f, zrz_0, zrz_1, decide_true, decide_false, e_Reader_keep, t12_0, t12_1, t12_2, t12_3, t12_4, t12_5, t12_6, t12_7, t12_8, t12_9, t12_10, t12_11, t12_12, wr_322 S, wr_326 S, x0, x1, lv Hl, ea]
  · intro y y0 y1
    rw [e0] at y1
    rw [eT]
    by_cases c : y = T 0
    · rw [c]
      refine ⟨?_, ?_, ?_⟩
      · simp (disch := omega) only [up1_s, up1_n]; simp (disch := omega) only [zoI_s, zoR_s, zoH_s, zoL_s, zbI_s, zbV_s, zbR_s, zbL_s, zif_t, zif_f, zrz_0, zrz_1, i32_add, i32_mul, i32_sub, i32_neg, zsF_s, zsF_k, zsF_a, zsC_s, zsC_a, zsC_i, zsW_s, zsW_a, Int.add_zero, Int.zero_add, decide_true, decide_false]
      · simp (disch := omega) only [up1_s, up1_n]; simp (disch := omega) only [zoI_s, zoR_s, zoH_s, zoL_s, zbI_s, zbV_s, zbR_s, zbL_s, zif_t, zif_f, zrz_0, zrz_1, i32_add, i32_mul, i32_sub, i32_neg, zsF_s, zsF_k, zsF_a, zsC_s, zsC_a, zsC_i, zsW_s, zsW_a, Int.add_zero, Int.zero_add, decide_true, decide_false]
      · simp (disch := omega) only [up1_s, up1_n]; simp (disch := omega) only [zoI_s, zoR_s, zoH_s, zoL_s, zbI_s, zbV_s, zbR_s, zbL_s, zif_t, zif_f, zrz_0, zrz_1, i32_add, i32_mul, i32_sub, i32_neg, zsF_s, zsF_k, zsF_a, zsC_s, zsC_a, zsC_i, zsW_s, zsW_a, Int.add_zero, Int.zero_add, decide_true, decide_false]
    · have q := v2 y y0 (by omega)
      refine ⟨?_, ?_, ?_⟩
      · simp (disch := omega) only [up1_s, up1_n]; simp (disch := omega) only [zoI_s, zoR_s, zoH_s, zoL_s, zbI_s, zbV_s, zbR_s, zbL_s, zif_t, zif_f, zrz_0, zrz_1, i32_add, i32_mul, i32_sub, i32_neg, zsF_s, zsF_k, zsF_a, zsC_s, zsC_a, zsC_i, zsW_s, zsW_a, Int.add_zero, Int.zero_add, decide_true, decide_false]; exact q.1
      · simp (disch := omega) only [up1_s, up1_n]; simp (disch := omega) only [zoI_s, zoR_s, zoH_s, zoL_s, zbI_s, zbV_s, zbR_s, zbL_s, zif_t, zif_f, zrz_0, zrz_1, i32_add, i32_mul, i32_sub, i32_neg, zsF_s, zsF_k, zsF_a, zsC_s, zsC_a, zsC_i, zsW_s, zsW_a, Int.add_zero, Int.zero_add, decide_true, decide_false]; exact q.2.1
      · simp (disch := omega) only [up1_s, up1_n]; simp (disch := omega) only [zoI_s, zoR_s, zoH_s, zoL_s, zbI_s, zbV_s, zbR_s, zbL_s, zif_t, zif_f, zrz_0, zrz_1, i32_add, i32_mul, i32_sub, i32_neg, zsF_s, zsF_k, zsF_a, zsC_s, zsC_a, zsC_i, zsW_s, zsW_a, Int.add_zero, Int.zero_add, decide_true, decide_false]; exact q.2.2
  · intro y y0 y1
    rw [e0] at y1
    rw [eT]
    by_cases c : y = T 0
    · rw [c]
      refine ⟨?_, ?_, ?_⟩
      · simp (disch := omega) only [up1_s, up1_n]; exact b0
      · simp (disch := omega) only [up1_s, up1_n]; exact b1
      · simp (disch := omega) only [up1_s, up1_n]; exact b2
    · have q := O.2 y y0 (by omega)
      refine ⟨?_, ?_, ?_⟩
      · simp (disch := omega) only [up1_s, up1_n]; exact q.1
      · simp (disch := omega) only [up1_s, up1_n]; exact q.2.1
      · simp (disch := omega) only [up1_s, up1_n]; exact q.2.2
  · show 0 ≤ T 0 + 1 ∧ T 0 + 1 ≤ 8
    omega
def yaC (g : Int → Int) (at_ N : Int) (u : Int → Int) (i : Int) : Int → Int := fun j => if at_ + 1 ≤ j ∧ j < at_ + 1 + i then (if j - at_ - 1 < N then u (j - at_ - 1) else -1) else g j
theorem k_yadd (S : St h) (hT : F 640 43 = T 0) (t0 : 0 ≤ T 0) (t1 : T 0 < 40) {k N : Int} (N0 : 0 ≤ N) (N1 : N ≤ 5) : zc 146 [zR (some 43), zI (i32 k), zR (some 49), zI (i32 N)] (zw h F C) = some (zI 0, zw h (zsF F 640 43 (T 0 + 1)) (zsW C (43 + 1) (yaC (up1 (C (43 + 1)) (T 0 * 6) k) (T 0 * 6) N (C 49) 5))) := by
  have Hy := H43 S
  have L := zinv (fun i f => zr 146 16 [yR (some 43), yI (i32 k), yR (some 49), yI (i32 N), yI (i32 (T 0 * 6)), yI (i32 i)] [] (zw h F (zsW C (43 + 1) f))) (fun i f => f = yaC (up1 (C (43 + 1)) (T 0 * 6) k) (T 0 * 6) N (C 49) i) 0 5 (by omega) (fun i f i0 i1 I => by
    have ar := yr_641 (F := F) (C := zsW C (43 + 1) f) Hy
    have as := fun x => ys_641 (F := F) (C := zsW C (43 + 1) f) Hy (i := T 0 * 6 + 1 + i) (by omega) (by omega) x
    have d5 : decide (i32 5 ≤ i32 i) = false := dF (by rw [i32_le (by omega) (by omega) (by omega) (by omega)]; omega)
    have wn : zaN (zw h F (zsW C (43 + 1) f)) (some 49) = some (i32 5) := zw_aN (n := 5) (S.2.2.2.1 (49, 5) (List.mem_of_getElem? (l := wRW) (i := 0) rfl)) (by unfold zK0; omega)
    have d6 : decide (i32 5 ≤ i32 i) = false := d5
    have stp : ∀ x, (x = if i < N then C 49 i else -1) → up1 f (T 0 * 6 + 1 + i) x = yaC (up1 (C (43 + 1)) (T 0 * 6) k) (T 0 * 6) N (C 49) (i + 1) := by
      intro x hx
      subst I
      funext j
      unfold up1 yaC
      by_cases c1 : j = T 0 * 6 + 1 + i
      · rw [if_pos c1, if_pos (by omega), hx]
        by_cases c2 : i < N
        · rw [if_pos c2, if_pos (by omega), show j - T 0 * 6 - 1 = i by omega]
        · rw [if_neg c2, if_neg (by omega)]
      · rw [if_neg c1]
        by_cases c2 : T 0 * 6 + 1 ≤ j ∧ j < T 0 * 6 + 1 + i
        · rw [if_pos c2, if_pos (show T 0 * 6 + 1 ≤ j ∧ j < T 0 * 6 + 1 + (i + 1) by omega)]
        · rw [if_neg c2, if_neg (show ¬ (T 0 * 6 + 1 ≤ j ∧ j < T 0 * 6 + 1 + (i + 1)) by omega)]
    rw [e_Year_add_16]
    by_cases c : N ≤ i
    · have dN : decide (i32 N ≤ i32 i) = true := dT (by rw [i32_le (by omega) (by omega) (by omega) (by omega)]; exact c)
      refine ⟨up1 f (T 0 * 6 + 1 + i) (-1), ?_, stp _ (by rw [if_neg (by omega)])⟩
      simp only [zoI_s, zoR_s, zoH_s, zoL_s, zbI_s, zbV_s, zbR_s, zbL_s, zif_t, zif_f, zrz_0, zrz_1, decide_true, decide_false, d5, ar, dN, i32_add, as, zsC_W, zsW_W, zsW_s]
    · have dN : decide (i32 N ≤ i32 i) = false := dF (by rw [i32_le (by omega) (by omega) (by omega) (by omega)]; exact c)
      have xa := wa_49 (F := F) (C := zsW C (43 + 1) f) S (i := i) (by omega) (by omega)
      rw [zsW_a (by omega)] at xa
      refine ⟨up1 f (T 0 * 6 + 1 + i) (C 49 i), ?_, stp _ (by rw [if_pos (by omega)])⟩
      simp only [zoI_s, zoR_s, zoH_s, zoL_s, zbI_s, zbV_s, zbR_s, zbL_s, zif_t, zif_f, zrz_0, zrz_1, decide_true, decide_false, d5, ar, dN, wn, i32_add, xa, as, zsC_W, zsW_W, zsW_s]) (up1 (C (43 + 1)) (T 0 * 6) k) (by
      funext j
      unfold yaC
      rw [if_neg (by omega)])
  obtain ⟨f, e, I⟩ := L
  have d4 : decide (i32 40 ≤ i32 (T 0)) = false := dF (by rw [i32_le (by omega) (by omega) (by omega) (by omega)]; omega)
  have as := ys_641 (F := F) (C := C) Hy (i := T 0 * 6) (by omega) (by omega) k
  rw [zsC_W] at as
  have g := yg_640 (F := F) (C := C) Hy
  rw [hT] at g
  have g2 := yg_640 (F := F) (C := zsW C (43 + 1) f) Hy
  rw [hT] at g2
  have d5 : decide (i32 5 ≤ i32 5) = true := by decide
  rw [e_Year_add]
  simp only [zoI_s, zoR_s, zoH_s, zoL_s, zbI_s, zbV_s, zbR_s, zbL_s, zif_t, zif_f, zrz_0, zrz_1, decide_true, decide_false, g, d4, yr_641 Hy, i32_mul, as]
  rw [e, e_Year_add_16, I]
  rw [I] at g2
  simp only [zoI_s, zoR_s, zoH_s, zoL_s, zbI_s, zbV_s, zbR_s, zbL_s, zif_t, zif_f, zrz_0, zrz_1, decide_true, decide_false, d5, g2, i32_add, yp_640 Hy]
theorem k_year (S : St h) (kn : knS h) (V : yeV F C 43 T) (O : yOK T) (hT : T 0 < 40) {l m : Int} (l0 : 5 ≤ l) (l1 : l ≤ 10) (ha : ∀ i, 0 ≤ i → i < zTb0.getD l.toNat 0 → C 49 i = v i) (hN : 0 ≤ zTb0.getD l.toNat 0 ∧ zTb0.getD l.toNat 0 ≤ 5) (b0 : -1 ≤ kyw l v 0 ∧ kyw l v 0 ≤ 9) (b1 : -1 ≤ kyw l v 1 ∧ kyw l v 1 ≤ 7) (b2 : -1 ≤ kyw l v 2 ∧ kyw l v 2 ≤ 7) (b3 : -1 ≤ kyw l v 3 ∧ kyw l v 3 ≤ 7) (b4 : -1 ≤ kyw l v 4 ∧ kyw l v 4 ≤ 7) (b5 : l = 9 → 0 ≤ kyw l v 0) (b6 : l = 6 → kyw l v 0 ≠ kyw l v 1 ∧ kyw l v 2 ≠ kyw l v 3) : ∃ F' C', zc 80 [zR (some 35), zI (i32 l), zI (i32 m)] (zw h F C) = some (zI 0, zw h F' C') ∧ kpF F C F' C' ∧ (yeV F' C' 43 (kpS l v m T) ∧ yOK (kpS l v m T)) ∧ ((∀ k a, a ≠ 43 → F' k a = F k a) ∧ (0 ≤ F' 640 43 ∧ F' 640 43 ≤ 40)) := by
  have Hy := H43 S
  have oo := O.1
  have ea := k_yadd (F := F) (C := C) (T := T) S V.1 oo.1 hT (k := l - 5) hN.1 hN.2
  have eT : kpS l v m T = up1 (up1 (up1 (up1 (up1 (up1 (up1 T (1 + 6 * T 0) (l - 5)) (2 + 6 * T 0) (kyw l v 0)) (3 + 6 * T 0) (kyw l v 1)) (4 + 6 * T 0) (kyw l v 2)) (5 + 6 * T 0) (kyw l v 3)) (6 + 6 * T 0) (kyw l v 4)) 0 (T 0 + 1) := by
    unfold kpS
    rw [if_neg (by omega), if_neg (by omega), if_neg (by omega), if_neg (by omega), if_neg (by omega), if_neg (by omega), if_neg (by omega)]
  have e0 : kpS l v m T 0 = T 0 + 1 := by rw [eT]; simp (disch := omega) only [up1_s, up1_n]
  have k0 := k_0 (F := F) (C := C) kn (l := l) (by omega) (by omega)
  have ek : zc 80 [zR (some 35), zI (i32 l), zI (i32 m)] (zw h F C) = some (zI 0, zw h (zsF F 640 43 (T 0 + 1)) (zsW C (43 + 1) (yaC (up1 (C (43 + 1)) (T 0 * 6) (l - 5)) (T 0 * 6) (zTb0.getD l.toNat 0) (C 49) 5))) := by
    have go : zc 80 [zR (some 35), zI (i32 l), zI (i32 m)] (zw h F C) = zr 80 81 [yR (some 35), yI (i32 l), yI (i32 m)] [] (zw h F C) := by
      rcases (show l = 5 ∨ l = 6 ∨ l = 7 ∨ l = 8 ∨ l = 9 ∨ l = 10 by omega) with rfl | rfl | rfl | rfl | rfl | rfl
      · simp only [zoI_s, zoR_s, zoH_s, zoL_s, zbI_s, zbV_s, zbR_s, zbL_s, zif_t, zif_f, zrz_0, zrz_1, decide_true, decide_false, e_Reader_keep, t5_0, t5_1, t5_2, t5_3, t5_4, t5_5]
      · simp only [zoI_s, zoR_s, zoH_s, zoL_s, zbI_s, zbV_s, zbR_s, zbL_s, zif_t, zif_f, zrz_0, zrz_1, decide_true, decide_false, e_Reader_keep, t6_0, t6_1, t6_2, t6_3, t6_4, t6_5, t6_6]
      · simp only [zoI_s, zoR_s, zoH_s, zoL_s, zbI_s, zbV_s, zbR_s, zbL_s, zif_t, zif_f, zrz_0, zrz_1, decide_true, decide_false, e_Reader_keep, t7_0, t7_1, t7_2, t7_3, t7_4, t7_5, t7_6, t7_7]
      · simp only [zoI_s, zoR_s, zoH_s, zoL_s, zbI_s, zbV_s, zbR_s, zbL_s, zif_t, zif_f, zrz_0, zrz_1, decide_true, decide_false, e_Reader_keep, t8_0, t8_1, t8_2, t8_3, t8_4, t8_5, t8_6, t8_7, t8_8]
      · simp only [zoI_s, zoR_s, zoH_s, zoL_s, zbI_s, zbV_s, zbR_s, zbL_s, zif_t, zif_f, zrz_0, zrz_1, decide_true, decide_false, e_Reader_keep, t9_0, t9_1, t9_2, t9_3, t9_4, t9_5, t9_6, t9_7, t9_8, t9_9]
      · simp only [zoI_s, zoR_s, zoH_s, zoL_s, zbI_s, zbV_s, zbR_s, zbL_s, zif_t, zif_f, zrz_0, zrz_1, decide_true, decide_false, e_Reader_keep, t10_0, t10_1, t10_2, t10_3, t10_4, t10_5, t10_6, t10_7, t10_8, t10_9, t10_10]
    rw [go, e_Reader_keep_81]
    simp only [zoI_s, zoR_s, zoH_s, zoL_s, zbI_s, zbV_s, zbR_s, zbL_s, zif_t, zif_f, zrz_0, zrz_1, decide_true, decide_false, wr_321 S, wr_326 S, k0, i32_sub, yv Hy, ea]
  obtain ⟨v1, v2⟩ := V
  refine ⟨_, _, ek, ((kpF.rfl F C).sW (by omega) (by omega)).sF (by omega) (by omega), ⟨⟨by rw [e0]; rfl, ?_⟩, ⟨by rw [e0]; omega, ?_⟩⟩, ⟨fun k a ha => zsF_a ha, ?_⟩⟩
  · intro j j0 j1
    rw [e0] at j1
    rw [eT, zsW_s]
    unfold yaC
    by_cases c : j < 6 * T 0
    · have q := v2 j j0 c
      rw [if_neg (by omega), up1_n (by omega), q]
      simp (disch := omega) only [up1_s, up1_n]
    · by_cases c1 : j = 6 * T 0
      · rw [c1, if_neg (by omega), show 6 * T 0 = T 0 * 6 by omega, up1_s, show 1 + T 0 * 6 = 1 + 6 * T 0 by omega]
        simp (disch := omega) only [up1_s, up1_n]
      · rw [if_pos (by omega)]
        have kw : ∀ u, 0 ≤ u → u < 5 → (if u < zTb0.getD l.toNat 0 then C 49 u else -1) = kyw l v u := by
          intro u u0 u1
          unfold kyw
          by_cases z : u < zTb0.getD l.toNat 0
          · rw [if_pos z, if_pos z, ha u u0 z]
          · rw [if_neg z, if_neg z]
        rw [kw (j - T 0 * 6 - 1) (by omega) (by omega)]
        rcases (show j = 6 * T 0 + 1 ∨ j = 6 * T 0 + 2 ∨ j = 6 * T 0 + 3 ∨ j = 6 * T 0 + 4 ∨ j = 6 * T 0 + 5 by omega) with z | z | z | z | z
        · rw [show j - T 0 * 6 - 1 = 0 by omega, show 1 + j = 2 + 6 * T 0 by omega]
          simp (disch := omega) only [up1_s, up1_n]
        · rw [show j - T 0 * 6 - 1 = 1 by omega, show 1 + j = 3 + 6 * T 0 by omega]
          simp (disch := omega) only [up1_s, up1_n]
        · rw [show j - T 0 * 6 - 1 = 2 by omega, show 1 + j = 4 + 6 * T 0 by omega]
          simp (disch := omega) only [up1_s, up1_n]
        · rw [show j - T 0 * 6 - 1 = 3 by omega, show 1 + j = 5 + 6 * T 0 by omega]
          simp (disch := omega) only [up1_s, up1_n]
        · rw [show j - T 0 * 6 - 1 = 4 by omega, show 1 + j = 6 + 6 * T 0 by omega]
          simp (disch := omega) only [up1_s, up1_n]
  · intro y y0 y1
    rw [e0] at y1
    rw [eT]
    by_cases c : y = T 0
    · rw [c]
      simp (disch := omega) only [up1_s, up1_n]
      exact ⟨by omega, b0, b1, b2, b3, b4, fun z => b5 (by omega), fun z => b6 (by omega)⟩
    · have q := O.2 y y0 (by omega)
      simp (disch := omega) only [up1_s, up1_n]
      exact q
  · show 0 ≤ T 0 + 1 ∧ T 0 + 1 ≤ 40
    omega
end KY
/-! which line it is -/
def lnW (sort w : Int) : Int := if sort = 0 then (if w = 1 then 0 else if w = 2 then 1 else if w = 3 then 2 else if w = 9 then 3 else if w = 4 then 4 else -1) else if sort = 1 then (if w = 5 then 5 else if w = 6 then 6 else if w = 7 then 7 else if w = 8 then 8 else if w = 9 then 9 else if w = 10 then 10 else -1) else (if w = 14 then 11 else if w = 15 then 12 else -1)
section LW
variable {h : zHeap} {F : Nat → Nat → Int} {C : Nat → Int → Int} {B : Int → Int} {n s : Int}
theorem c_lineOf (S : St h) (T : tpC F C B n) (K : tkC F B n s) (s0 : 0 ≤ s) (s1 : s ≤ n) (hk : tK B n s = 0) {sort : Int} (q0 : 0 ≤ sort) (q1 : sort ≤ 2) : zc 81 [zR (some 35), zI (i32 sort)] (zw h F C) = some (zI (i32 (lnW sort (tW B n s))), zw h F C) := by
  unfold lnW
  rcases (show sort = 0 ∨ sort = 1 ∨ sort = 2 by omega) with rfl | rfl | rfl
  · rw [if_pos rfl]
    have f1 := c_w1 S T K s0 s1 hk
    have f2 := c_w2 S T K s0 s1 hk
    have f3 := c_w3 S T K s0 s1 hk
    have f9 := c_w9 S T K s0 s1 hk
    have f4 := c_w4 S T K s0 s1 hk
    by_cases c1 : tW B n s = 1
    · rw [if_pos c1] at f1
      rw [if_pos c1]
      simp only [zoI_s, zoR_s, zoH_s, zoL_s, zbI_s, zbV_s, zbR_s, zbL_s, zif_t, zif_f, zrz_0, zrz_1, decide_true, decide_false, e_Reader_lineOf, t0_0, wv_35 S, e_Reader_duchyLine, f1, d0eq, d10]
    rw [if_neg c1] at f1
    rw [if_neg c1]
    by_cases c2 : tW B n s = 2
    · rw [if_pos c2] at f2
      rw [if_pos c2]
      simp only [zoI_s, zoR_s, zoH_s, zoL_s, zbI_s, zbV_s, zbR_s, zbL_s, zif_t, zif_f, zrz_0, zrz_1, decide_true, decide_false, e_Reader_lineOf, t0_0, wv_35 S, e_Reader_duchyLine, f1, f2, d0eq, d10]
    rw [if_neg c2] at f2
    rw [if_neg c2]
    by_cases c3 : tW B n s = 3
    · rw [if_pos c3] at f3
      rw [if_pos c3]
      simp only [zoI_s, zoR_s, zoH_s, zoL_s, zbI_s, zbV_s, zbR_s, zbL_s, zif_t, zif_f, zrz_0, zrz_1, decide_true, decide_false, e_Reader_lineOf, t0_0, wv_35 S, e_Reader_duchyLine, f1, f2, f3, d0eq, d10]
    rw [if_neg c3] at f3
    rw [if_neg c3]
    by_cases c9 : tW B n s = 9
    · rw [if_pos c9] at f9
      rw [if_pos c9]
      simp only [zoI_s, zoR_s, zoH_s, zoL_s, zbI_s, zbV_s, zbR_s, zbL_s, zif_t, zif_f, zrz_0, zrz_1, decide_true, decide_false, e_Reader_lineOf, t0_0, wv_35 S, e_Reader_duchyLine, f1, f2, f3, f9, d0eq, d10]
    rw [if_neg c9] at f9
    rw [if_neg c9]
    by_cases c4 : tW B n s = 4
    · rw [if_pos c4] at f4
      rw [if_pos c4]
      simp only [zoI_s, zoR_s, zoH_s, zoL_s, zbI_s, zbV_s, zbR_s, zbL_s, zif_t, zif_f, zrz_0, zrz_1, decide_true, decide_false, e_Reader_lineOf, t0_0, wv_35 S, e_Reader_duchyLine, f1, f2, f3, f9, f4, d0eq, d10]
    rw [if_neg c4] at f4
    rw [if_neg c4]
    simp only [zoI_s, zoR_s, zoH_s, zoL_s, zbI_s, zbV_s, zbR_s, zbL_s, zif_t, zif_f, zrz_0, zrz_1, decide_true, decide_false, e_Reader_lineOf, t0_0, wv_35 S, e_Reader_duchyLine, f1, f2, f3, f9, f4, d0eq, d10]
  · rw [if_neg (by omega), if_pos rfl]
    have f5 := c_w5 S T K s0 s1 hk
    have f6 := c_w6 S T K s0 s1 hk
    have f7 := c_w7 S T K s0 s1 hk
    have f8 := c_w8 S T K s0 s1 hk
    have f9 := c_w9 S T K s0 s1 hk
    have f10 := c_w10 S T K s0 s1 hk
    by_cases c5 : tW B n s = 5
    · rw [if_pos c5] at f5
      rw [if_pos c5]
      simp only [zoI_s, zoR_s, zoH_s, zoL_s, zbI_s, zbV_s, zbR_s, zbL_s, zif_t, zif_f, zrz_0, zrz_1, decide_true, decide_false, e_Reader_lineOf, t1_0, t1_1, wv_35 S, e_Reader_yearLine, f5, d0eq, d10]
    rw [if_neg c5] at f5
    rw [if_neg c5]
    by_cases c6 : tW B n s = 6
    · rw [if_pos c6] at f6
      rw [if_pos c6]
      simp only [zoI_s, zoR_s, zoH_s, zoL_s, zbI_s, zbV_s, zbR_s, zbL_s, zif_t, zif_f, zrz_0, zrz_1, decide_true, decide_false, e_Reader_lineOf, t1_0, t1_1, wv_35 S, e_Reader_yearLine, f5, f6, d0eq, d10]
    rw [if_neg c6] at f6
    rw [if_neg c6]
    by_cases c7 : tW B n s = 7
    · rw [if_pos c7] at f7
      rw [if_pos c7]
      simp only [zoI_s, zoR_s, zoH_s, zoL_s, zbI_s, zbV_s, zbR_s, zbL_s, zif_t, zif_f, zrz_0, zrz_1, decide_true, decide_false, e_Reader_lineOf, t1_0, t1_1, wv_35 S, e_Reader_yearLine, f5, f6, f7, d0eq, d10]
    rw [if_neg c7] at f7
    rw [if_neg c7]
    by_cases c8 : tW B n s = 8
    · rw [if_pos c8] at f8
      rw [if_pos c8]
      simp only [zoI_s, zoR_s, zoH_s, zoL_s, zbI_s, zbV_s, zbR_s, zbL_s, zif_t, zif_f, zrz_0, zrz_1, decide_true, decide_false, e_Reader_lineOf, t1_0, t1_1, wv_35 S, e_Reader_yearLine, f5, f6, f7, f8, d0eq, d10]
    rw [if_neg c8] at f8
    rw [if_neg c8]
    by_cases c9 : tW B n s = 9
    · rw [if_pos c9] at f9
      rw [if_pos c9]
      simp only [zoI_s, zoR_s, zoH_s, zoL_s, zbI_s, zbV_s, zbR_s, zbL_s, zif_t, zif_f, zrz_0, zrz_1, decide_true, decide_false, e_Reader_lineOf, t1_0, t1_1, wv_35 S, e_Reader_yearLine, f5, f6, f7, f8, f9, d0eq, d10]
    rw [if_neg c9] at f9
    rw [if_neg c9]
    by_cases c10 : tW B n s = 10
    · rw [if_pos c10] at f10
      rw [if_pos c10]
      simp only [zoI_s, zoR_s, zoH_s, zoL_s, zbI_s, zbV_s, zbR_s, zbL_s, zif_t, zif_f, zrz_0, zrz_1, decide_true, decide_false, e_Reader_lineOf, t1_0, t1_1, wv_35 S, e_Reader_yearLine, f5, f6, f7, f8, f9, f10, d0eq, d10]
    rw [if_neg c10] at f10
    rw [if_neg c10]
    simp only [zoI_s, zoR_s, zoH_s, zoL_s, zbI_s, zbV_s, zbR_s, zbL_s, zif_t, zif_f, zrz_0, zrz_1, decide_true, decide_false, e_Reader_lineOf, t1_0, t1_1, wv_35 S, e_Reader_yearLine, f5, f6, f7, f8, f9, f10, d0eq, d10]
  · rw [if_neg (by omega), if_neg (by omega)]
    have f14 := c_w14 S T K s0 s1 hk
    have f15 := c_w15 S T K s0 s1 hk
    by_cases c14 : tW B n s = 14
    · rw [if_pos c14] at f14
      rw [if_pos c14]
      simp only [zoI_s, zoR_s, zoH_s, zoL_s, zbI_s, zbV_s, zbR_s, zbL_s, zif_t, zif_f, zrz_0, zrz_1, decide_true, decide_false, e_Reader_lineOf, t2_0, t2_1, t2_2, wv_35 S, e_Reader_logLine, f14, d0eq, d10]
    rw [if_neg c14] at f14
    rw [if_neg c14]
    by_cases c15 : tW B n s = 15
    · rw [if_pos c15] at f15
      rw [if_pos c15]
      simp only [zoI_s, zoR_s, zoH_s, zoL_s, zbI_s, zbV_s, zbR_s, zbL_s, zif_t, zif_f, zrz_0, zrz_1, decide_true, decide_false, e_Reader_lineOf, t2_0, t2_1, t2_2, wv_35 S, e_Reader_logLine, f14, f15, d0eq, d10]
    rw [if_neg c15] at f15
    rw [if_neg c15]
    simp only [zoI_s, zoR_s, zoH_s, zoL_s, zbI_s, zbV_s, zbR_s, zbL_s, zif_t, zif_f, zrz_0, zrz_1, decide_true, decide_false, e_Reader_lineOf, t2_0, t2_1, t2_2, wv_35 S, e_Reader_logLine, f14, f15, d0eq, d10]
theorem c_meaningHere (S : St h) (T : tpC F C B n) (K : tkC F B n s) (s0 : 0 ≤ s) (s1 : s ≤ n) (hk : tK B n s = 0) : zc 85 [zR (some 35)] (zw h F C) = some (zI (i32 (if 11 ≤ tW B n s ∧ tW B n s ≤ 13 then tW B n s - 11 else -1)), zw h F C) := by
  have f11 := c_w11 S T K s0 s1 hk
  have f12 := c_w12 S T K s0 s1 hk
  have f13 := c_w13 S T K s0 s1 hk
  by_cases c11 : tW B n s = 11
  · rw [if_pos c11] at f11
    rw [if_pos (by omega), c11]
    simp only [zoI_s, zoR_s, zoH_s, zoL_s, zbI_s, zbV_s, zbR_s, zbL_s, zif_t, zif_f, zrz_0, zrz_1, decide_true, decide_false, e_Reader_meaningHere, wv_35 S, f11, d10]
    rfl
  rw [if_neg c11] at f11
  by_cases c12 : tW B n s = 12
  · rw [if_pos c12] at f12
    rw [if_pos (by omega), c12]
    simp only [zoI_s, zoR_s, zoH_s, zoL_s, zbI_s, zbV_s, zbR_s, zbL_s, zif_t, zif_f, zrz_0, zrz_1, decide_true, decide_false, e_Reader_meaningHere, wv_35 S, f11, f12, d0eq, d10]
    rfl
  rw [if_neg c12] at f12
  by_cases c13 : tW B n s = 13
  · rw [if_pos c13] at f13
    rw [if_pos (by omega), c13]
    simp only [zoI_s, zoR_s, zoH_s, zoL_s, zbI_s, zbV_s, zbR_s, zbL_s, zif_t, zif_f, zrz_0, zrz_1, decide_true, decide_false, e_Reader_meaningHere, wv_35 S, f11, f12, f13, d0eq, d10]
    rfl
  rw [if_neg c13] at f13
  rw [if_neg (by omega)]
  simp only [zoI_s, zoR_s, zoH_s, zoL_s, zbI_s, zbV_s, zbR_s, zbL_s, zif_t, zif_f, zrz_0, zrz_1, decide_true, decide_false, e_Reader_meaningHere, wv_35 S, f11, f12, f13, d0eq, d10]
/-- how many there are of what a line tells, how many may be -/
def cnF (F : Nat → Nat → Int) (l : Int) : Int := if l = 0 then F 128 36 else if l = 1 then F 129 36 else if l = 2 then F 130 36 else if l = 3 ∨ l = 4 then -1 else if l = 11 ∨ l = 12 then F 192 45 else F 640 43
def lmF (l : Int) : Int := if l = 0 then 6 else if l = 1 then 4 else if l = 2 then 8 else if l = 3 ∨ l = 4 then 0 else if l = 11 ∨ l = 12 then 8 else 40
theorem c_isFull (S : St h) {l : Int} (l0 : 0 ≤ l) (l1 : l < 13) (d1 : (0 ≤ F 128 36 ∧ F 128 36 ≤ 6) ∧ (0 ≤ F 129 36 ∧ F 129 36 ≤ 4) ∧ (0 ≤ F 130 36 ∧ F 130 36 ≤ 8)) (d2 : 0 ≤ F 640 43 ∧ F 640 43 ≤ 40) (d3 : 0 ≤ F 192 45 ∧ F 192 45 ≤ 8) : zc 78 [zR (some 35), zI (i32 l)] (zw h F C) = some (zI (i32 (if lmF l ≤ cnF F l then 1 else 0)), zw h F C) := by
  have Hd := H36 S
  have Hy := H43 S
  have Hl := H45 S
  have key : ∀ x m : Int, -5 ≤ x → x ≤ 1000 → -5 ≤ m → m ≤ 1000 → zif (decide (i32 x < i32 m)) (some (zI (i32 0), zw h F C)) (some (zI (i32 1), zw h F C)) = some (zI (i32 (if m ≤ x then 1 else 0)), zw h F C) := by
    intro x m x0 x1 m0 m1
    by_cases c : x < m
    · rw [zif_p (by rw [i32_lt (by omega) (by omega) (by omega) (by omega)]; exact c), if_neg (by omega)]
    · rw [zif_n (by rw [i32_lt (by omega) (by omega) (by omega) (by omega)]; exact c), if_pos (by omega)]
  rcases (show l = 0 ∨ l = 1 ∨ l = 2 ∨ l = 3 ∨ l = 4 ∨ l = 5 ∨ l = 6 ∨ l = 7 ∨ l = 8 ∨ l = 9 ∨ l = 10 ∨ l = 11 ∨ l = 12 by omega) with rfl | rfl | rfl | rfl | rfl | rfl | rfl | rfl | rfl | rfl | rfl | rfl | rfl
  · rw [show lmF 0 = 6 from rfl, show cnF F 0 = F 128 36 from rfl, ← key (F 128 36) 6 (by omega) (by omega) (by omega) (by omega)]
    simp only [zoI_s, zoR_s, zoH_s, zoL_s, zbI_s, zbV_s, zbR_s, zbL_s, zif_t, zif_f, zrz_0, zrz_1, decide_true, decide_false, e_Reader_isFull, t0_0, wr_320 S, dg_128 Hd]
  · rw [show lmF 1 = 4 from rfl, show cnF F 1 = F 129 36 from rfl, ← key (F 129 36) 4 (by omega) (by omega) (by omega) (by omega)]
    simp only [zoI_s, zoR_s, zoH_s, zoL_s, zbI_s, zbV_s, zbR_s, zbL_s, zif_t, zif_f, zrz_0, zrz_1, decide_true, decide_false, e_Reader_isFull, t1_0, t1_1, wr_320 S, dg_129 Hd]
  · rw [show lmF 2 = 8 from rfl, show cnF F 2 = F 130 36 from rfl, ← key (F 130 36) 8 (by omega) (by omega) (by omega) (by omega)]
    simp only [zoI_s, zoR_s, zoH_s, zoL_s, zbI_s, zbV_s, zbR_s, zbL_s, zif_t, zif_f, zrz_0, zrz_1, decide_true, decide_false, e_Reader_isFull, t2_0, t2_1, t2_2, wr_320 S, dg_130 Hd]
  · rw [show lmF 3 = 0 from rfl, show cnF F 3 = -1 from rfl, if_neg (by omega)]
    simp only [zoI_s, zoR_s, zoH_s, zoL_s, zbI_s, zbV_s, zbR_s, zbL_s, zif_t, zif_f, zrz_0, zrz_1, decide_true, decide_false, e_Reader_isFull, t3_0, t3_1, t3_2, t3_3]
  · rw [show lmF 4 = 0 from rfl, show cnF F 4 = -1 from rfl, if_neg (by omega)]
    simp only [zoI_s, zoR_s, zoH_s, zoL_s, zbI_s, zbV_s, zbR_s, zbL_s, zif_t, zif_f, zrz_0, zrz_1, decide_true, decide_false, e_Reader_isFull, t4_0, t4_1, t4_2, t4_3, t4_4]
  · rw [show lmF 5 = 40 from rfl, show cnF F 5 = F 640 43 from rfl, ← key (F 640 43) 40 (by omega) (by omega) (by omega) (by omega)]
    simp only [zoI_s, zoR_s, zoH_s, zoL_s, zbI_s, zbV_s, zbR_s, zbL_s, zif_t, zif_f, zrz_0, zrz_1, decide_true, decide_false, e_Reader_isFull, t5_0, t5_1, t5_2, t5_3, t5_4, t5_5, wr_321 S, yg_640 Hy]
  · rw [show lmF 6 = 40 from rfl, show cnF F 6 = F 640 43 from rfl, ← key (F 640 43) 40 (by omega) (by omega) (by omega) (by omega)]
    simp only [zoI_s, zoR_s, zoH_s, zoL_s, zbI_s, zbV_s, zbR_s, zbL_s, zif_t, zif_f, zrz_0, zrz_1, decide_true, decide_false, e_Reader_isFull, t6_0, t6_1, t6_2, t6_3, t6_4, t6_5, t6_6, wr_321 S, yg_640 Hy]
  · rw [show lmF 7 = 40 from rfl, show cnF F 7 = F 640 43 from rfl, ← key (F 640 43) 40 (by omega) (by omega) (by omega) (by omega)]
    simp only [zoI_s, zoR_s, zoH_s, zoL_s, zbI_s, zbV_s, zbR_s, zbL_s, zif_t, zif_f, zrz_0, zrz_1, decide_true, decide_false, e_Reader_isFull, t7_0, t7_1, t7_2, t7_3, t7_4, t7_5, t7_6, t7_7, wr_321 S, yg_640 Hy]
  · rw [show lmF 8 = 40 from rfl, show cnF F 8 = F 640 43 from rfl, ← key (F 640 43) 40 (by omega) (by omega) (by omega) (by omega)]
    simp only [zoI_s, zoR_s, zoH_s, zoL_s, zbI_s, zbV_s, zbR_s, zbL_s, zif_t, zif_f, zrz_0, zrz_1, decide_true, decide_false, e_Reader_isFull, t8_0, t8_1, t8_2, t8_3, t8_4, t8_5, t8_6, t8_7, t8_8, wr_321 S, yg_640 Hy]
  · rw [show lmF 9 = 40 from rfl, show cnF F 9 = F 640 43 from rfl, ← key (F 640 43) 40 (by omega) (by omega) (by omega) (by omega)]
    simp only [zoI_s, zoR_s, zoH_s, zoL_s, zbI_s, zbV_s, zbR_s, zbL_s, zif_t, zif_f, zrz_0, zrz_1, decide_true, decide_false, e_Reader_isFull, t9_0, t9_1, t9_2, t9_3, t9_4, t9_5, t9_6, t9_7, t9_8, t9_9, wr_321 S, yg_640 Hy]
  · rw [show lmF 10 = 40 from rfl, show cnF F 10 = F 640 43 from rfl, ← key (F 640 43) 40 (by omega) (by omega) (by omega) (by omega)]
    simp only [zoI_s, zoR_s, zoH_s, zoL_s, zbI_s, zbV_s, zbR_s, zbL_s, zif_t, zif_f, zrz_0, zrz_1, decide_true, decide_false, e_Reader_isFull, t10_0, t10_1, t10_2, t10_3, t10_4, t10_5, t10_6, t10_7, t10_8, t10_9, t10_10, wr_321 S, yg_640 Hy]
  · rw [show lmF 11 = 8 from rfl, show cnF F 11 = F 192 45 from rfl, ← key (F 192 45) 8 (by omega) (by omega) (by omega) (by omega)]
    simp only [zoI_s, zoR_s, zoH_s, zoL_s, zbI_s, zbV_s, zbR_s, zbL_s, zif_t, zif_f, zrz_0, zrz_1, decide_true, decide_false, e_Reader_isFull, t11_0, t11_1, t11_2, t11_3, t11_4, t11_5, t11_6, t11_7, t11_8, t11_9, t11_10, t11_11, wr_322 S, lg_192 Hl]
  · rw [show lmF 12 = 8 from rfl, show cnF F 12 = F 192 45 from rfl, ← key (F 192 45) 8 (by omega) (by omega) (by omega) (by omega)]
    simp only [zoI_s, zoR_s, zoH_s, zoL_s, zbI_s, zbV_s, zbR_s, zbL_s, zif_t, zif_f, zrz_0, zrz_1, decide_true, decide_false, e_Reader_isFull, t12_0, t12_1, t12_2, t12_3, t12_4, t12_5, t12_6, t12_7, t12_8, t12_9, t12_10, t12_11, t12_12, wr_322 S, lg_192 Hl]
end LW
