/-! each case of the law -/
section LC
variable {L i : Nat} {xs : Nat → Int32} {h : zHeap} {F : Nat → Nat → Int} {C : Nat → Int → Int}
def lgo (L : Nat) (xs : Nat → Int32) (i : Nat) (t : Option zRes) : Prop := ∃ h' F' C', t = zr 323 10 [yR (some 1000001), yR (some 0), yR (some 72), yI (i32 ((i + 7 : Nat) : Int))] [] (zw h' F' C') ∧ wOK L xs h' F' C'
theorem lgo_zif {b : Bool} {t u : Option zRes} (ht : lgo L xs i t) (hu : lgo L xs i u) : lgo L xs i (zif b t u) := by
  cases b
  · exact hu
  · exact ht
theorem sc_r {g : zHeap} (hs : hAI g 1000001 = some (0, L, xs)) (hL : L ≤ 3584) (j : Nat) (hi : i + j < L) : zaI g (some 1000001) (i32 (i : Int) + i32 (j : Int)) 0 = some (xs (i + j)) := by
  rw [i32_add]
  refine (zaI_s (i := (i : Int) + j) hs (by omega) (by omega) (by omega)).trans ?_
  rw [show ((i : Int) + (j : Int)).toNat = i + j by omega]
theorem inI_x (x : Int32) : inI x.toInt := ⟨Int32.le_toInt x, Int32.toInt_lt x⟩
theorem zcmp_s (y : Int64) : zcmp y y = 0 := by
  unfold zcmp lg_cmp
  simp
theorem lc_22 (W : wOK L xs h F C) (hL : L ≤ 3584) (hi : i + 7 ≤ L) : lgo L xs i (zr 323 22 [yR (some 1000001), yR (some 0), yR (some 72), yI (i32 (i : Int))] [] (zw h F C)) := by
  have s7 : i32 (i : Int) + i32 7 = i32 ((i + 7 : Nat) : Int) := by rw [i32_add]; rfl
  have r1 : zaI (zw h F C) (some 1000001) (i32 (i : Int) + i32 1) 0 = some (xs (i + 1)) := sc_r (zw_sc.trans W.2.2.2.1) hL 1 (by omega)
  have r2 : zaI (zw h F C) (some 1000001) (i32 (i : Int) + i32 2) 0 = some (xs (i + 2)) := sc_r (zw_sc.trans W.2.2.2.1) hL 2 (by omega)
  have r3 : zaI (zw h F C) (some 1000001) (i32 (i : Int) + i32 3) 0 = some (xs (i + 3)) := sc_r (zw_sc.trans W.2.2.2.1) hL 3 (by omega)
  have r4 : zaI (zw h F C) (some 1000001) (i32 (i : Int) + i32 4) 0 = some (xs (i + 4)) := sc_r (zw_sc.trans W.2.2.2.1) hL 4 (by omega)
  have r5 : zaI (zw h F C) (some 1000001) (i32 (i : Int) + i32 5) 0 = some (xs (i + 5)) := sc_r (zw_sc.trans W.2.2.2.1) hL 5 (by omega)
  obtain ⟨x, _, h', F', C', e1, e2, ⟨F1, C1, rfl⟩, W'⟩ := j_feed (inI_x (xs (i + 1))) (inI_x (xs (i + 2))) (inI_x (xs (i + 3))) (inI_x (xs (i + 4))) (inI_x (xs (i + 5))) L xs h F C W
  simp only [i32_tI] at e1 e2
  have u1 : zaI (zw h' F1 C1) (some 1000001) (i32 (i : Int) + i32 1) 0 = some (xs (i + 1)) := sc_r (zw_sc.trans W'.2.2.2.1) hL 1 (by omega)
  have u2 : zaI (zw h' F1 C1) (some 1000001) (i32 (i : Int) + i32 2) 0 = some (xs (i + 2)) := sc_r (zw_sc.trans W'.2.2.2.1) hL 2 (by omega)
  have u3 : zaI (zw h' F1 C1) (some 1000001) (i32 (i : Int) + i32 3) 0 = some (xs (i + 3)) := sc_r (zw_sc.trans W'.2.2.2.1) hL 3 (by omega)
  have u4 : zaI (zw h' F1 C1) (some 1000001) (i32 (i : Int) + i32 4) 0 = some (xs (i + 4)) := sc_r (zw_sc.trans W'.2.2.2.1) hL 4 (by omega)
  have u5 : zaI (zw h' F1 C1) (some 1000001) (i32 (i : Int) + i32 5) 0 = some (xs (i + 5)) := sc_r (zw_sc.trans W'.2.2.2.1) hL 5 (by omega)
  have dx : decide (i32 x = i32 x) = true := decide_eq_true rfl
  refine ⟨h', F', C', ?_, W'⟩
  rw [e_Law_22]
  simp only [zoI_s, zoR_s, zoH_s, zoL_s, zbI_s, zbV_s, zbR_s, zbL_s, zif_t, zif_f, zrz_0, zrz_1, decide_true, decide_false, r1, r2, r3, r4, r5, wv_0 W.1.1, e1, u1, u2, u3, u4, u5, wv_72 W'.1.1, e2, dx, e_Law_1599, s7]
theorem lc_79 (W : wOK L xs h F C) (hL : L ≤ 3584) (hi : i + 7 ≤ L) : lgo L xs i (zr 323 79 [yR (some 1000001), yR (some 0), yR (some 72), yI (i32 (i : Int))] [] (zw h F C)) := by
  have s7 : i32 (i : Int) + i32 7 = i32 ((i + 7 : Nat) : Int) := by rw [i32_add]; rfl
  have r1 : zaI (zw h F C) (some 1000001) (i32 (i : Int) + i32 1) 0 = some (xs (i + 1)) := sc_r (zw_sc.trans W.2.2.2.1) hL 1 (by omega)
  obtain ⟨x, _, h', F', C', e1, e2, ⟨F1, C1, rfl⟩, W'⟩ := j_end (inI_x (xs (i + 1))) L xs h F C W
  simp only [i32_tI] at e1 e2
  have u1 : zaI (zw h' F1 C1) (some 1000001) (i32 (i : Int) + i32 1) 0 = some (xs (i + 1)) := sc_r (zw_sc.trans W'.2.2.2.1) hL 1 (by omega)
  have dx : decide (i32 x = i32 x) = true := decide_eq_true rfl
  refine ⟨h', F', C', ?_, W'⟩
  rw [e_Law_79]
  simp only [zoI_s, zoR_s, zoH_s, zoL_s, zbI_s, zbV_s, zbR_s, zbL_s, zif_t, zif_f, zrz_0, zrz_1, decide_true, decide_false, r1, wv_0 W.1.1, e1, u1, wv_72 W'.1.1, e2, dx, e_Law_1599, s7]
theorem lc_96 (W : wOK L xs h F C) (hL : L ≤ 3584) (hi : i + 7 ≤ L) : lgo L xs i (zr 323 96 [yR (some 1000001), yR (some 0), yR (some 72), yI (i32 (i : Int))] [] (zw h F C)) := by
  have s7 : i32 (i : Int) + i32 7 = i32 ((i + 7 : Nat) : Int) := by rw [i32_add]; rfl
  have r1 : zaI (zw h F C) (some 1000001) (i32 (i : Int) + i32 1) 0 = some (xs (i + 1)) := sc_r (zw_sc.trans W.2.2.2.1) hL 1 (by omega)
  have r2 : zaI (zw h F C) (some 1000001) (i32 (i : Int) + i32 2) 0 = some (xs (i + 2)) := sc_r (zw_sc.trans W.2.2.2.1) hL 2 (by omega)
  obtain ⟨x, _, h', F', C', e1, e2, ⟨F1, C1, rfl⟩, W'⟩ := j_text (inI_x (xs (i + 1))) (inI_x (xs (i + 2))) L xs h F C W
  simp only [i32_tI] at e1 e2
  have u1 : zaI (zw h' F1 C1) (some 1000001) (i32 (i : Int) + i32 1) 0 = some (xs (i + 1)) := sc_r (zw_sc.trans W'.2.2.2.1) hL 1 (by omega)
  have u2 : zaI (zw h' F1 C1) (some 1000001) (i32 (i : Int) + i32 2) 0 = some (xs (i + 2)) := sc_r (zw_sc.trans W'.2.2.2.1) hL 2 (by omega)
  have dx : decide (i32 x = i32 x) = true := decide_eq_true rfl
  refine ⟨h', F', C', ?_, W'⟩
  rw [e_Law_96]
  simp only [zoI_s, zoR_s, zoH_s, zoL_s, zbI_s, zbV_s, zbR_s, zbL_s, zif_t, zif_f, zrz_0, zrz_1, decide_true, decide_false, r1, r2, wv_0 W.1.1, e1, u1, u2, wv_72 W'.1.1, e2, dx, e_Law_1599, s7]
theorem lc_123 (W : wOK L xs h F C) (hL : L ≤ 3584) (hi : i + 7 ≤ L) : lgo L xs i (zr 323 123 [yR (some 1000001), yR (some 0), yR (some 72), yI (i32 (i : Int))] [] (zw h F C)) := by
  have s7 : i32 (i : Int) + i32 7 = i32 ((i + 7 : Nat) : Int) := by rw [i32_add]; rfl
  have r1 : zaI (zw h F C) (some 1000001) (i32 (i : Int) + i32 1) 0 = some (xs (i + 1)) := sc_r (zw_sc.trans W.2.2.2.1) hL 1 (by omega)
  obtain ⟨x, _, h', F', C', e1, e2, ⟨F1, C1, rfl⟩, W'⟩ := j_faultQ (inI_x (xs (i + 1))) L xs h F C W
  simp only [i32_tI] at e1 e2
  have u1 : zaI (zw h' F1 C1) (some 1000001) (i32 (i : Int) + i32 1) 0 = some (xs (i + 1)) := sc_r (zw_sc.trans W'.2.2.2.1) hL 1 (by omega)
  have dx : decide (i32 x = i32 x) = true := decide_eq_true rfl
  refine ⟨h', F', C', ?_, W'⟩
  rw [e_Law_123]
  simp only [zoI_s, zoR_s, zoH_s, zoL_s, zbI_s, zbV_s, zbR_s, zbL_s, zif_t, zif_f, zrz_0, zrz_1, decide_true, decide_false, r1, wv_0 W.1.1, e1, u1, wv_72 W'.1.1, e2, dx, e_Law_1599, s7]
theorem lc_140 (W : wOK L xs h F C) (hL : L ≤ 3584) (hi : i + 7 ≤ L) : lgo L xs i (zr 323 140 [yR (some 1000001), yR (some 0), yR (some 72), yI (i32 (i : Int))] [] (zw h F C)) := by
  have s7 : i32 (i : Int) + i32 7 = i32 ((i + 7 : Nat) : Int) := by rw [i32_add]; rfl
  have r1 : zaI (zw h F C) (some 1000001) (i32 (i : Int) + i32 1) 0 = some (xs (i + 1)) := sc_r (zw_sc.trans W.2.2.2.1) hL 1 (by omega)
  have r2 : zaI (zw h F C) (some 1000001) (i32 (i : Int) + i32 2) 0 = some (xs (i + 2)) := sc_r (zw_sc.trans W.2.2.2.1) hL 2 (by omega)
  obtain ⟨x, _, h', F', C', e1, e2, ⟨F1, C1, rfl⟩, W'⟩ := j_duchyQ (inI_x (xs (i + 1))) (inI_x (xs (i + 2))) L xs h F C W
  simp only [i32_tI] at e1 e2
  have u1 : zaI (zw h' F1 C1) (some 1000001) (i32 (i : Int) + i32 1) 0 = some (xs (i + 1)) := sc_r (zw_sc.trans W'.2.2.2.1) hL 1 (by omega)
  have u2 : zaI (zw h' F1 C1) (some 1000001) (i32 (i : Int) + i32 2) 0 = some (xs (i + 2)) := sc_r (zw_sc.trans W'.2.2.2.1) hL 2 (by omega)
  have dx : decide (i32 x = i32 x) = true := decide_eq_true rfl
  refine ⟨h', F', C', ?_, W'⟩
  rw [e_Law_140]
  simp only [zoI_s, zoR_s, zoH_s, zoL_s, zbI_s, zbV_s, zbR_s, zbL_s, zif_t, zif_f, zrz_0, zrz_1, decide_true, decide_false, r1, r2, wv_0 W.1.1, e1, u1, u2, wv_72 W'.1.1, e2, dx, e_Law_1599, s7]
theorem lc_167 (W : wOK L xs h F C) (hL : L ≤ 3584) (hi : i + 7 ≤ L) : lgo L xs i (zr 323 167 [yR (some 1000001), yR (some 0), yR (some 72), yI (i32 (i : Int))] [] (zw h F C)) := by
  have s7 : i32 (i : Int) + i32 7 = i32 ((i + 7 : Nat) : Int) := by rw [i32_add]; rfl
  have r1 : zaI (zw h F C) (some 1000001) (i32 (i : Int) + i32 1) 0 = some (xs (i + 1)) := sc_r (zw_sc.trans W.2.2.2.1) hL 1 (by omega)
  have r2 : zaI (zw h F C) (some 1000001) (i32 (i : Int) + i32 2) 0 = some (xs (i + 2)) := sc_r (zw_sc.trans W.2.2.2.1) hL 2 (by omega)
  have r3 : zaI (zw h F C) (some 1000001) (i32 (i : Int) + i32 3) 0 = some (xs (i + 3)) := sc_r (zw_sc.trans W.2.2.2.1) hL 3 (by omega)
  have r4 : zaI (zw h F C) (some 1000001) (i32 (i : Int) + i32 4) 0 = some (xs (i + 4)) := sc_r (zw_sc.trans W.2.2.2.1) hL 4 (by omega)
  have r5 : zaI (zw h F C) (some 1000001) (i32 (i : Int) + i32 5) 0 = some (xs (i + 5)) := sc_r (zw_sc.trans W.2.2.2.1) hL 5 (by omega)
  by_cases b : xs (i + 5) = 0
  · have db : decide (xs (i + 5) = 0) = true := decide_eq_true b
    obtain ⟨x, _, h', F', C', e1, e2, ⟨F1, C1, rfl⟩, W'⟩ := j_note (inI_x (xs (i + 1))) (inI_x (xs (i + 2))) (inI_x (xs (i + 3))) (inI_x (xs (i + 4))) (show inI 0 by unfold inI; omega) L xs h F C W
    simp only [i32_tI] at e1 e2
    have u1 : zaI (zw h' F1 C1) (some 1000001) (i32 (i : Int) + i32 1) 0 = some (xs (i + 1)) := sc_r (zw_sc.trans W'.2.2.2.1) hL 1 (by omega)
    have u2 : zaI (zw h' F1 C1) (some 1000001) (i32 (i : Int) + i32 2) 0 = some (xs (i + 2)) := sc_r (zw_sc.trans W'.2.2.2.1) hL 2 (by omega)
    have u3 : zaI (zw h' F1 C1) (some 1000001) (i32 (i : Int) + i32 3) 0 = some (xs (i + 3)) := sc_r (zw_sc.trans W'.2.2.2.1) hL 3 (by omega)
    have u4 : zaI (zw h' F1 C1) (some 1000001) (i32 (i : Int) + i32 4) 0 = some (xs (i + 4)) := sc_r (zw_sc.trans W'.2.2.2.1) hL 4 (by omega)
    have u5 : zaI (zw h' F1 C1) (some 1000001) (i32 (i : Int) + i32 5) 0 = some (xs (i + 5)) := sc_r (zw_sc.trans W'.2.2.2.1) hL 5 (by omega)
    have dx : decide (i32 x = i32 x) = true := decide_eq_true rfl
    refine ⟨h', F', C', ?_, W'⟩
    rw [e_Law_167]
    simp only [zoI_s, zoR_s, zoH_s, zoL_s, zbI_s, zbV_s, zbR_s, zbL_s, zif_t, zif_f, zrz_0, zrz_1, decide_true, decide_false, r1, r2, r3, r4, r5, db, wv_0 W.1.1, e1, u1, u2, u3, u4, u5, wv_72 W'.1.1, e2, dx, e_Law_1599, s7]
  · have db : decide (xs (i + 5) = 0) = false := decide_eq_false b
    obtain ⟨x, _, h', F', C', e1, e2, ⟨F1, C1, rfl⟩, W'⟩ := j_note (inI_x (xs (i + 1))) (inI_x (xs (i + 2))) (inI_x (xs (i + 3))) (inI_x (xs (i + 4))) (show inI 1 by unfold inI; omega) L xs h F C W
    simp only [i32_tI] at e1 e2
    have u1 : zaI (zw h' F1 C1) (some 1000001) (i32 (i : Int) + i32 1) 0 = some (xs (i + 1)) := sc_r (zw_sc.trans W'.2.2.2.1) hL 1 (by omega)
    have u2 : zaI (zw h' F1 C1) (some 1000001) (i32 (i : Int) + i32 2) 0 = some (xs (i + 2)) := sc_r (zw_sc.trans W'.2.2.2.1) hL 2 (by omega)
    have u3 : zaI (zw h' F1 C1) (some 1000001) (i32 (i : Int) + i32 3) 0 = some (xs (i + 3)) := sc_r (zw_sc.trans W'.2.2.2.1) hL 3 (by omega)
    have u4 : zaI (zw h' F1 C1) (some 1000001) (i32 (i : Int) + i32 4) 0 = some (xs (i + 4)) := sc_r (zw_sc.trans W'.2.2.2.1) hL 4 (by omega)
    have u5 : zaI (zw h' F1 C1) (some 1000001) (i32 (i : Int) + i32 5) 0 = some (xs (i + 5)) := sc_r (zw_sc.trans W'.2.2.2.1) hL 5 (by omega)
    have dx : decide (i32 x = i32 x) = true := decide_eq_true rfl
    refine ⟨h', F', C', ?_, W'⟩
    rw [e_Law_167]
    simp only [zoI_s, zoR_s, zoH_s, zoL_s, zbI_s, zbV_s, zbR_s, zbL_s, zif_t, zif_f, zrz_0, zrz_1, decide_true, decide_false, r1, r2, r3, r4, r5, db, wv_0 W.1.1, e1, u1, u2, u3, u4, u5, wv_72 W'.1.1, e2, dx, e_Law_1599, s7]
theorem lc_232 (W : wOK L xs h F C) (hL : L ≤ 3584) (hi : i + 7 ≤ L) : lgo L xs i (zr 323 232 [yR (some 1000001), yR (some 0), yR (some 72), yI (i32 (i : Int))] [] (zw h F C)) := by
  have s7 : i32 (i : Int) + i32 7 = i32 ((i + 7 : Nat) : Int) := by rw [i32_add]; rfl
  have r1 : zaI (zw h F C) (some 1000001) (i32 (i : Int) + i32 1) 0 = some (xs (i + 1)) := sc_r (zw_sc.trans W.2.2.2.1) hL 1 (by omega)
  have r2 : zaI (zw h F C) (some 1000001) (i32 (i : Int) + i32 2) 0 = some (xs (i + 2)) := sc_r (zw_sc.trans W.2.2.2.1) hL 2 (by omega)
  have r3 : zaI (zw h F C) (some 1000001) (i32 (i : Int) + i32 3) 0 = some (xs (i + 3)) := sc_r (zw_sc.trans W.2.2.2.1) hL 3 (by omega)
  obtain ⟨x, _, h', F', C', e1, e2, ⟨F1, C1, rfl⟩, W'⟩ := j_deedQ (inI_x (xs (i + 1))) (inI_x (xs (i + 2))) (inI_x (xs (i + 3))) L xs h F C W
  simp only [i32_tI] at e1 e2
  have u1 : zaI (zw h' F1 C1) (some 1000001) (i32 (i : Int) + i32 1) 0 = some (xs (i + 1)) := sc_r (zw_sc.trans W'.2.2.2.1) hL 1 (by omega)
  have u2 : zaI (zw h' F1 C1) (some 1000001) (i32 (i : Int) + i32 2) 0 = some (xs (i + 2)) := sc_r (zw_sc.trans W'.2.2.2.1) hL 2 (by omega)
  have u3 : zaI (zw h' F1 C1) (some 1000001) (i32 (i : Int) + i32 3) 0 = some (xs (i + 3)) := sc_r (zw_sc.trans W'.2.2.2.1) hL 3 (by omega)
  have dx : decide (i32 x = i32 x) = true := decide_eq_true rfl
  refine ⟨h', F', C', ?_, W'⟩
  rw [e_Law_232]
  simp only [zoI_s, zoR_s, zoH_s, zoL_s, zbI_s, zbV_s, zbR_s, zbL_s, zif_t, zif_f, zrz_0, zrz_1, decide_true, decide_false, r1, r2, r3, wv_0 W.1.1, e1, u1, u2, u3, wv_72 W'.1.1, e2, dx, e_Law_1599, s7]
theorem lc_269 (W : wOK L xs h F C) (hL : L ≤ 3584) (hi : i + 7 ≤ L) : lgo L xs i (zr 323 269 [yR (some 1000001), yR (some 0), yR (some 72), yI (i32 (i : Int))] [] (zw h F C)) := by
  have s7 : i32 (i : Int) + i32 7 = i32 ((i + 7 : Nat) : Int) := by rw [i32_add]; rfl
  have r1 : zaI (zw h F C) (some 1000001) (i32 (i : Int) + i32 1) 0 = some (xs (i + 1)) := sc_r (zw_sc.trans W.2.2.2.1) hL 1 (by omega)
  have r2 : zaI (zw h F C) (some 1000001) (i32 (i : Int) + i32 2) 0 = some (xs (i + 2)) := sc_r (zw_sc.trans W.2.2.2.1) hL 2 (by omega)
  obtain ⟨x, _, h', F', C', e1, e2, ⟨F1, C1, rfl⟩, W'⟩ := j_stop (inI_x (xs (i + 1))) (inI_x (xs (i + 2))) L xs h F C W
  simp only [i32_tI] at e1 e2
  have u1 : zaI (zw h' F1 C1) (some 1000001) (i32 (i : Int) + i32 1) 0 = some (xs (i + 1)) := sc_r (zw_sc.trans W'.2.2.2.1) hL 1 (by omega)
  have u2 : zaI (zw h' F1 C1) (some 1000001) (i32 (i : Int) + i32 2) 0 = some (xs (i + 2)) := sc_r (zw_sc.trans W'.2.2.2.1) hL 2 (by omega)
  have dx : decide (i32 x = i32 x) = true := decide_eq_true rfl
  refine ⟨h', F', C', ?_, W'⟩
  rw [e_Law_269]
  simp only [zoI_s, zoR_s, zoH_s, zoL_s, zbI_s, zbV_s, zbR_s, zbL_s, zif_t, zif_f, zrz_0, zrz_1, decide_true, decide_false, r1, r2, wv_0 W.1.1, e1, u1, u2, wv_72 W'.1.1, e2, dx, e_Law_1599, s7]
theorem lc_296 (W : wOK L xs h F C) (hL : L ≤ 3584) (hi : i + 7 ≤ L) : lgo L xs i (zr 323 296 [yR (some 1000001), yR (some 0), yR (some 72), yI (i32 (i : Int))] [] (zw h F C)) := by
  have s7 : i32 (i : Int) + i32 7 = i32 ((i + 7 : Nat) : Int) := by rw [i32_add]; rfl
  have r1 : zaI (zw h F C) (some 1000001) (i32 (i : Int) + i32 1) 0 = some (xs (i + 1)) := sc_r (zw_sc.trans W.2.2.2.1) hL 1 (by omega)
  have r2 : zaI (zw h F C) (some 1000001) (i32 (i : Int) + i32 2) 0 = some (xs (i + 2)) := sc_r (zw_sc.trans W.2.2.2.1) hL 2 (by omega)
  have r3 : zaI (zw h F C) (some 1000001) (i32 (i : Int) + i32 3) 0 = some (xs (i + 3)) := sc_r (zw_sc.trans W.2.2.2.1) hL 3 (by omega)
  have r4 : zaI (zw h F C) (some 1000001) (i32 (i : Int) + i32 4) 0 = some (xs (i + 4)) := sc_r (zw_sc.trans W.2.2.2.1) hL 4 (by omega)
  obtain ⟨x, _, h', F', C', e1, e2, ⟨F1, C1, rfl⟩, W'⟩ := j_state (inI_x (xs (i + 1))) (inI_x (xs (i + 2))) (inI_x (xs (i + 3))) (inI_x (xs (i + 4))) L xs h F C W
  simp only [i32_tI] at e1 e2
  have u1 : zaI (zw h' F1 C1) (some 1000001) (i32 (i : Int) + i32 1) 0 = some (xs (i + 1)) := sc_r (zw_sc.trans W'.2.2.2.1) hL 1 (by omega)
  have u2 : zaI (zw h' F1 C1) (some 1000001) (i32 (i : Int) + i32 2) 0 = some (xs (i + 2)) := sc_r (zw_sc.trans W'.2.2.2.1) hL 2 (by omega)
  have u3 : zaI (zw h' F1 C1) (some 1000001) (i32 (i : Int) + i32 3) 0 = some (xs (i + 3)) := sc_r (zw_sc.trans W'.2.2.2.1) hL 3 (by omega)
  have u4 : zaI (zw h' F1 C1) (some 1000001) (i32 (i : Int) + i32 4) 0 = some (xs (i + 4)) := sc_r (zw_sc.trans W'.2.2.2.1) hL 4 (by omega)
  have dx : decide (i32 x = i32 x) = true := decide_eq_true rfl
  refine ⟨h', F', C', ?_, W'⟩
  rw [e_Law_296]
  simp only [zoI_s, zoR_s, zoH_s, zoL_s, zbI_s, zbV_s, zbR_s, zbL_s, zif_t, zif_f, zrz_0, zrz_1, decide_true, decide_false, r1, r2, r3, r4, wv_0 W.1.1, e1, u1, u2, u3, u4, wv_72 W'.1.1, e2, dx, e_Law_1599, s7]
theorem lc_343 (W : wOK L xs h F C) (hL : L ≤ 3584) (hi : i + 7 ≤ L) : lgo L xs i (zr 323 343 [yR (some 1000001), yR (some 0), yR (some 72), yI (i32 (i : Int))] [] (zw h F C)) := by
  have s7 : i32 (i : Int) + i32 7 = i32 ((i + 7 : Nat) : Int) := by rw [i32_add]; rfl
  have r1 : zaI (zw h F C) (some 1000001) (i32 (i : Int) + i32 1) 0 = some (xs (i + 1)) := sc_r (zw_sc.trans W.2.2.2.1) hL 1 (by omega)
  have r2 : zaI (zw h F C) (some 1000001) (i32 (i : Int) + i32 2) 0 = some (xs (i + 2)) := sc_r (zw_sc.trans W.2.2.2.1) hL 2 (by omega)
  have r3 : zaI (zw h F C) (some 1000001) (i32 (i : Int) + i32 3) 0 = some (xs (i + 3)) := sc_r (zw_sc.trans W.2.2.2.1) hL 3 (by omega)
  have r4 : zaI (zw h F C) (some 1000001) (i32 (i : Int) + i32 4) 0 = some (xs (i + 4)) := sc_r (zw_sc.trans W.2.2.2.1) hL 4 (by omega)
  have r5 : zaI (zw h F C) (some 1000001) (i32 (i : Int) + i32 5) 0 = some (xs (i + 5)) := sc_r (zw_sc.trans W.2.2.2.1) hL 5 (by omega)
  have r6 : zaI (zw h F C) (some 1000001) (i32 (i : Int) + i32 6) 0 = some (xs (i + 6)) := sc_r (zw_sc.trans W.2.2.2.1) hL 6 (by omega)
  obtain ⟨x, _, h', F', C', e1, e2, ⟨F1, C1, rfl⟩, W'⟩ := j_ready (inI_x (xs (i + 1))) (inI_x (xs (i + 2))) (inI_x (xs (i + 3))) (inI_x (xs (i + 4))) (inI_x (xs (i + 5))) (inI_x (xs (i + 6))) L xs h F C W
  simp only [i32_tI] at e1 e2
  have u1 : zaI (zw h' F1 C1) (some 1000001) (i32 (i : Int) + i32 1) 0 = some (xs (i + 1)) := sc_r (zw_sc.trans W'.2.2.2.1) hL 1 (by omega)
  have u2 : zaI (zw h' F1 C1) (some 1000001) (i32 (i : Int) + i32 2) 0 = some (xs (i + 2)) := sc_r (zw_sc.trans W'.2.2.2.1) hL 2 (by omega)
  have u3 : zaI (zw h' F1 C1) (some 1000001) (i32 (i : Int) + i32 3) 0 = some (xs (i + 3)) := sc_r (zw_sc.trans W'.2.2.2.1) hL 3 (by omega)
  have u4 : zaI (zw h' F1 C1) (some 1000001) (i32 (i : Int) + i32 4) 0 = some (xs (i + 4)) := sc_r (zw_sc.trans W'.2.2.2.1) hL 4 (by omega)
  have u5 : zaI (zw h' F1 C1) (some 1000001) (i32 (i : Int) + i32 5) 0 = some (xs (i + 5)) := sc_r (zw_sc.trans W'.2.2.2.1) hL 5 (by omega)
  have u6 : zaI (zw h' F1 C1) (some 1000001) (i32 (i : Int) + i32 6) 0 = some (xs (i + 6)) := sc_r (zw_sc.trans W'.2.2.2.1) hL 6 (by omega)
  have dx : decide (i32 x = i32 x) = true := decide_eq_true rfl
  refine ⟨h', F', C', ?_, W'⟩
  rw [e_Law_343]
  simp only [zoI_s, zoR_s, zoH_s, zoL_s, zbI_s, zbV_s, zbR_s, zbL_s, zif_t, zif_f, zrz_0, zrz_1, decide_true, decide_false, r1, r2, r3, r4, r5, r6, wv_0 W.1.1, e1, u1, u2, u3, u4, u5, u6, wv_72 W'.1.1, e2, dx, e_Law_1599, s7]
theorem lc_410 (W : wOK L xs h F C) (hL : L ≤ 3584) (hi : i + 7 ≤ L) : lgo L xs i (zr 323 410 [yR (some 1000001), yR (some 0), yR (some 72), yI (i32 (i : Int))] [] (zw h F C)) := by
  have s7 : i32 (i : Int) + i32 7 = i32 ((i + 7 : Nat) : Int) := by rw [i32_add]; rfl
  have r1 : zaI (zw h F C) (some 1000001) (i32 (i : Int) + i32 1) 0 = some (xs (i + 1)) := sc_r (zw_sc.trans W.2.2.2.1) hL 1 (by omega)
  have r2 : zaI (zw h F C) (some 1000001) (i32 (i : Int) + i32 2) 0 = some (xs (i + 2)) := sc_r (zw_sc.trans W.2.2.2.1) hL 2 (by omega)
  have r3 : zaI (zw h F C) (some 1000001) (i32 (i : Int) + i32 3) 0 = some (xs (i + 3)) := sc_r (zw_sc.trans W.2.2.2.1) hL 3 (by omega)
  have r4 : zaI (zw h F C) (some 1000001) (i32 (i : Int) + i32 4) 0 = some (xs (i + 4)) := sc_r (zw_sc.trans W.2.2.2.1) hL 4 (by omega)
  obtain ⟨x, _, h', F', C', e1, e2, ⟨F1, C1, rfl⟩, W'⟩ := j_favour (inI_x (xs (i + 1))) (inI_x (xs (i + 2))) (inI_x (xs (i + 3))) (inI_x (xs (i + 4))) L xs h F C W
  simp only [i32_tI] at e1 e2
  have u1 : zaI (zw h' F1 C1) (some 1000001) (i32 (i : Int) + i32 1) 0 = some (xs (i + 1)) := sc_r (zw_sc.trans W'.2.2.2.1) hL 1 (by omega)
  have u2 : zaI (zw h' F1 C1) (some 1000001) (i32 (i : Int) + i32 2) 0 = some (xs (i + 2)) := sc_r (zw_sc.trans W'.2.2.2.1) hL 2 (by omega)
  have u3 : zaI (zw h' F1 C1) (some 1000001) (i32 (i : Int) + i32 3) 0 = some (xs (i + 3)) := sc_r (zw_sc.trans W'.2.2.2.1) hL 3 (by omega)
  have u4 : zaI (zw h' F1 C1) (some 1000001) (i32 (i : Int) + i32 4) 0 = some (xs (i + 4)) := sc_r (zw_sc.trans W'.2.2.2.1) hL 4 (by omega)
  have dx : decide (i32 x = i32 x) = true := decide_eq_true rfl
  refine ⟨h', F', C', ?_, W'⟩
  rw [e_Law_410]
  simp only [zoI_s, zoR_s, zoH_s, zoL_s, zbI_s, zbV_s, zbR_s, zbL_s, zif_t, zif_f, zrz_0, zrz_1, decide_true, decide_false, r1, r2, r3, r4, wv_0 W.1.1, e1, u1, u2, u3, u4, wv_72 W'.1.1, e2, dx, e_Law_1599, s7]
theorem lc_457 (W : wOK L xs h F C) (hL : L ≤ 3584) (hi : i + 7 ≤ L) : lgo L xs i (zr 323 457 [yR (some 1000001), yR (some 0), yR (some 72), yI (i32 (i : Int))] [] (zw h F C)) := by
  have s7 : i32 (i : Int) + i32 7 = i32 ((i + 7 : Nat) : Int) := by rw [i32_add]; rfl
  have r1 : zaI (zw h F C) (some 1000001) (i32 (i : Int) + i32 1) 0 = some (xs (i + 1)) := sc_r (zw_sc.trans W.2.2.2.1) hL 1 (by omega)
  have r2 : zaI (zw h F C) (some 1000001) (i32 (i : Int) + i32 2) 0 = some (xs (i + 2)) := sc_r (zw_sc.trans W.2.2.2.1) hL 2 (by omega)
  have r3 : zaI (zw h F C) (some 1000001) (i32 (i : Int) + i32 3) 0 = some (xs (i + 3)) := sc_r (zw_sc.trans W.2.2.2.1) hL 3 (by omega)
  have r4 : zaI (zw h F C) (some 1000001) (i32 (i : Int) + i32 4) 0 = some (xs (i + 4)) := sc_r (zw_sc.trans W.2.2.2.1) hL 4 (by omega)
  by_cases b : xs (i + 4) = 0
  · have db : decide (xs (i + 4) = 0) = true := decide_eq_true b
    obtain ⟨x, _, h', F', C', e1, e2, ⟨F1, C1, rfl⟩, W'⟩ := j_dare (inI_x (xs (i + 1))) (inI_x (xs (i + 2))) (inI_x (xs (i + 3))) (show inI 0 by unfold inI; omega) L xs h F C W
    simp only [i32_tI] at e1 e2
    have u1 : zaI (zw h' F1 C1) (some 1000001) (i32 (i : Int) + i32 1) 0 = some (xs (i + 1)) := sc_r (zw_sc.trans W'.2.2.2.1) hL 1 (by omega)
    have u2 : zaI (zw h' F1 C1) (some 1000001) (i32 (i : Int) + i32 2) 0 = some (xs (i + 2)) := sc_r (zw_sc.trans W'.2.2.2.1) hL 2 (by omega)
    have u3 : zaI (zw h' F1 C1) (some 1000001) (i32 (i : Int) + i32 3) 0 = some (xs (i + 3)) := sc_r (zw_sc.trans W'.2.2.2.1) hL 3 (by omega)
    have u4 : zaI (zw h' F1 C1) (some 1000001) (i32 (i : Int) + i32 4) 0 = some (xs (i + 4)) := sc_r (zw_sc.trans W'.2.2.2.1) hL 4 (by omega)
    have dx : decide (i32 x = i32 x) = true := decide_eq_true rfl
    refine ⟨h', F', C', ?_, W'⟩
    rw [e_Law_457]
    simp only [zoI_s, zoR_s, zoH_s, zoL_s, zbI_s, zbV_s, zbR_s, zbL_s, zif_t, zif_f, zrz_0, zrz_1, decide_true, decide_false, r1, r2, r3, r4, db, wv_0 W.1.1, e1, u1, u2, u3, u4, wv_72 W'.1.1, e2, dx, e_Law_1599, s7]
  · have db : decide (xs (i + 4) = 0) = false := decide_eq_false b
    obtain ⟨x, _, h', F', C', e1, e2, ⟨F1, C1, rfl⟩, W'⟩ := j_dare (inI_x (xs (i + 1))) (inI_x (xs (i + 2))) (inI_x (xs (i + 3))) (show inI 1 by unfold inI; omega) L xs h F C W
    simp only [i32_tI] at e1 e2
    have u1 : zaI (zw h' F1 C1) (some 1000001) (i32 (i : Int) + i32 1) 0 = some (xs (i + 1)) := sc_r (zw_sc.trans W'.2.2.2.1) hL 1 (by omega)
    have u2 : zaI (zw h' F1 C1) (some 1000001) (i32 (i : Int) + i32 2) 0 = some (xs (i + 2)) := sc_r (zw_sc.trans W'.2.2.2.1) hL 2 (by omega)
    have u3 : zaI (zw h' F1 C1) (some 1000001) (i32 (i : Int) + i32 3) 0 = some (xs (i + 3)) := sc_r (zw_sc.trans W'.2.2.2.1) hL 3 (by omega)
    have u4 : zaI (zw h' F1 C1) (some 1000001) (i32 (i : Int) + i32 4) 0 = some (xs (i + 4)) := sc_r (zw_sc.trans W'.2.2.2.1) hL 4 (by omega)
    have dx : decide (i32 x = i32 x) = true := decide_eq_true rfl
    refine ⟨h', F', C', ?_, W'⟩
    rw [e_Law_457]
    simp only [zoI_s, zoR_s, zoH_s, zoL_s, zbI_s, zbV_s, zbR_s, zbL_s, zif_t, zif_f, zrz_0, zrz_1, decide_true, decide_false, r1, r2, r3, r4, db, wv_0 W.1.1, e1, u1, u2, u3, u4, wv_72 W'.1.1, e2, dx, e_Law_1599, s7]
theorem lc_512 (W : wOK L xs h F C) (hL : L ≤ 3584) (hi : i + 7 ≤ L) : lgo L xs i (zr 323 512 [yR (some 1000001), yR (some 0), yR (some 72), yI (i32 (i : Int))] [] (zw h F C)) := by
  have s7 : i32 (i : Int) + i32 7 = i32 ((i + 7 : Nat) : Int) := by rw [i32_add]; rfl
  have r1 : zaI (zw h F C) (some 1000001) (i32 (i : Int) + i32 1) 0 = some (xs (i + 1)) := sc_r (zw_sc.trans W.2.2.2.1) hL 1 (by omega)
  have r2 : zaI (zw h F C) (some 1000001) (i32 (i : Int) + i32 2) 0 = some (xs (i + 2)) := sc_r (zw_sc.trans W.2.2.2.1) hL 2 (by omega)
  have r3 : zaI (zw h F C) (some 1000001) (i32 (i : Int) + i32 3) 0 = some (xs (i + 3)) := sc_r (zw_sc.trans W.2.2.2.1) hL 3 (by omega)
  obtain ⟨x, _, h', F', C', e1, e2, ⟨F1, C1, rfl⟩, W'⟩ := j_alike (inI_x (xs (i + 1))) (inI_x (xs (i + 2))) (inI_x (xs (i + 3))) L xs h F C W
  simp only [i32_tI] at e1 e2
  have u1 : zaI (zw h' F1 C1) (some 1000001) (i32 (i : Int) + i32 1) 0 = some (xs (i + 1)) := sc_r (zw_sc.trans W'.2.2.2.1) hL 1 (by omega)
  have u2 : zaI (zw h' F1 C1) (some 1000001) (i32 (i : Int) + i32 2) 0 = some (xs (i + 2)) := sc_r (zw_sc.trans W'.2.2.2.1) hL 2 (by omega)
  have u3 : zaI (zw h' F1 C1) (some 1000001) (i32 (i : Int) + i32 3) 0 = some (xs (i + 3)) := sc_r (zw_sc.trans W'.2.2.2.1) hL 3 (by omega)
  have dx : decide (i32 x = i32 x) = true := decide_eq_true rfl
  refine ⟨h', F', C', ?_, W'⟩
  rw [e_Law_512]
  simp only [zoI_s, zoR_s, zoH_s, zoL_s, zbI_s, zbV_s, zbR_s, zbL_s, zif_t, zif_f, zrz_0, zrz_1, decide_true, decide_false, r1, r2, r3, wv_0 W.1.1, e1, u1, u2, u3, wv_72 W'.1.1, e2, dx, e_Law_1599, s7]
theorem lc_549 (W : wOK L xs h F C) (hL : L ≤ 3584) (hi : i + 7 ≤ L) : lgo L xs i (zr 323 549 [yR (some 1000001), yR (some 0), yR (some 72), yI (i32 (i : Int))] [] (zw h F C)) := by
  have s7 : i32 (i : Int) + i32 7 = i32 ((i + 7 : Nat) : Int) := by rw [i32_add]; rfl
  have r1 : zaI (zw h F C) (some 1000001) (i32 (i : Int) + i32 1) 0 = some (xs (i + 1)) := sc_r (zw_sc.trans W.2.2.2.1) hL 1 (by omega)
  obtain ⟨x, _, h', F', C', e1, e2, ⟨F1, C1, rfl⟩, W'⟩ := j_lows (inI_x (xs (i + 1))) L xs h F C W
  simp only [i32_tI] at e1 e2
  have u1 : zaI (zw h' F1 C1) (some 1000001) (i32 (i : Int) + i32 1) 0 = some (xs (i + 1)) := sc_r (zw_sc.trans W'.2.2.2.1) hL 1 (by omega)
  have dx : decide (i32 x = i32 x) = true := decide_eq_true rfl
  refine ⟨h', F', C', ?_, W'⟩
  rw [e_Law_549]
  simp only [zoI_s, zoR_s, zoH_s, zoL_s, zbI_s, zbV_s, zbR_s, zbL_s, zif_t, zif_f, zrz_0, zrz_1, decide_true, decide_false, r1, wv_0 W.1.1, e1, u1, wv_72 W'.1.1, e2, dx, e_Law_1599, s7]
theorem lc_566 (W : wOK L xs h F C) (hL : L ≤ 3584) (hi : i + 7 ≤ L) : lgo L xs i (zr 323 566 [yR (some 1000001), yR (some 0), yR (some 72), yI (i32 (i : Int))] [] (zw h F C)) := by
  have s7 : i32 (i : Int) + i32 7 = i32 ((i + 7 : Nat) : Int) := by rw [i32_add]; rfl
  have r1 : zaI (zw h F C) (some 1000001) (i32 (i : Int) + i32 1) 0 = some (xs (i + 1)) := sc_r (zw_sc.trans W.2.2.2.1) hL 1 (by omega)
  have r2 : zaI (zw h F C) (some 1000001) (i32 (i : Int) + i32 2) 0 = some (xs (i + 2)) := sc_r (zw_sc.trans W.2.2.2.1) hL 2 (by omega)
  have r3 : zaI (zw h F C) (some 1000001) (i32 (i : Int) + i32 3) 0 = some (xs (i + 3)) := sc_r (zw_sc.trans W.2.2.2.1) hL 3 (by omega)
  obtain ⟨x, _, h', F', C', e1, e2, ⟨F1, C1, rfl⟩, W'⟩ := j_told (inI_x (xs (i + 1))) (inI_x (xs (i + 2))) (inI_x (xs (i + 3))) L xs h F C W
  simp only [i32_tI] at e1 e2
  have u1 : zaI (zw h' F1 C1) (some 1000001) (i32 (i : Int) + i32 1) 0 = some (xs (i + 1)) := sc_r (zw_sc.trans W'.2.2.2.1) hL 1 (by omega)
  have u2 : zaI (zw h' F1 C1) (some 1000001) (i32 (i : Int) + i32 2) 0 = some (xs (i + 2)) := sc_r (zw_sc.trans W'.2.2.2.1) hL 2 (by omega)
  have u3 : zaI (zw h' F1 C1) (some 1000001) (i32 (i : Int) + i32 3) 0 = some (xs (i + 3)) := sc_r (zw_sc.trans W'.2.2.2.1) hL 3 (by omega)
  have dx : decide (i32 x = i32 x) = true := decide_eq_true rfl
  refine ⟨h', F', C', ?_, W'⟩
  rw [e_Law_566]
  simp only [zoI_s, zoR_s, zoH_s, zoL_s, zbI_s, zbV_s, zbR_s, zbL_s, zif_t, zif_f, zrz_0, zrz_1, decide_true, decide_false, r1, r2, r3, wv_0 W.1.1, e1, u1, u2, u3, wv_72 W'.1.1, e2, dx, e_Law_1599, s7]
theorem lc_603 (W : wOK L xs h F C) (hL : L ≤ 3584) (hi : i + 7 ≤ L) : lgo L xs i (zr 323 603 [yR (some 1000001), yR (some 0), yR (some 72), yI (i32 (i : Int))] [] (zw h F C)) := by
  have s7 : i32 (i : Int) + i32 7 = i32 ((i + 7 : Nat) : Int) := by rw [i32_add]; rfl
  have r1 : zaI (zw h F C) (some 1000001) (i32 (i : Int) + i32 1) 0 = some (xs (i + 1)) := sc_r (zw_sc.trans W.2.2.2.1) hL 1 (by omega)
  have r2 : zaI (zw h F C) (some 1000001) (i32 (i : Int) + i32 2) 0 = some (xs (i + 2)) := sc_r (zw_sc.trans W.2.2.2.1) hL 2 (by omega)
  have r3 : zaI (zw h F C) (some 1000001) (i32 (i : Int) + i32 3) 0 = some (xs (i + 3)) := sc_r (zw_sc.trans W.2.2.2.1) hL 3 (by omega)
  have r4 : zaI (zw h F C) (some 1000001) (i32 (i : Int) + i32 4) 0 = some (xs (i + 4)) := sc_r (zw_sc.trans W.2.2.2.1) hL 4 (by omega)
  have r5 : zaI (zw h F C) (some 1000001) (i32 (i : Int) + i32 5) 0 = some (xs (i + 5)) := sc_r (zw_sc.trans W.2.2.2.1) hL 5 (by omega)
  obtain ⟨x, _, h', F', C', e1, e2, ⟨F1, C1, rfl⟩, W'⟩ := j_weather (inI_x (xs (i + 1))) (inI_x (xs (i + 2))) (inI_x (xs (i + 3))) (inI_x (xs (i + 4))) (inI_x (xs (i + 5))) L xs h F C W
  simp only [i32_tI] at e1 e2
  have u1 : zaI (zw h' F1 C1) (some 1000001) (i32 (i : Int) + i32 1) 0 = some (xs (i + 1)) := sc_r (zw_sc.trans W'.2.2.2.1) hL 1 (by omega)
  have u2 : zaI (zw h' F1 C1) (some 1000001) (i32 (i : Int) + i32 2) 0 = some (xs (i + 2)) := sc_r (zw_sc.trans W'.2.2.2.1) hL 2 (by omega)
  have u3 : zaI (zw h' F1 C1) (some 1000001) (i32 (i : Int) + i32 3) 0 = some (xs (i + 3)) := sc_r (zw_sc.trans W'.2.2.2.1) hL 3 (by omega)
  have u4 : zaI (zw h' F1 C1) (some 1000001) (i32 (i : Int) + i32 4) 0 = some (xs (i + 4)) := sc_r (zw_sc.trans W'.2.2.2.1) hL 4 (by omega)
  have u5 : zaI (zw h' F1 C1) (some 1000001) (i32 (i : Int) + i32 5) 0 = some (xs (i + 5)) := sc_r (zw_sc.trans W'.2.2.2.1) hL 5 (by omega)
  have dx : decide (i32 x = i32 x) = true := decide_eq_true rfl
  refine ⟨h', F', C', ?_, W'⟩
  rw [e_Law_603]
  simp only [zoI_s, zoR_s, zoH_s, zoL_s, zbI_s, zbV_s, zbR_s, zbL_s, zif_t, zif_f, zrz_0, zrz_1, decide_true, decide_false, r1, r2, r3, r4, r5, wv_0 W.1.1, e1, u1, u2, u3, u4, u5, wv_72 W'.1.1, e2, dx, e_Law_1599, s7]
theorem lc_660 (W : wOK L xs h F C) (hL : L ≤ 3584) (hi : i + 7 ≤ L) : lgo L xs i (zr 323 660 [yR (some 1000001), yR (some 0), yR (some 72), yI (i32 (i : Int))] [] (zw h F C)) := by
  have s7 : i32 (i : Int) + i32 7 = i32 ((i + 7 : Nat) : Int) := by rw [i32_add]; rfl
  have r1 : zaI (zw h F C) (some 1000001) (i32 (i : Int) + i32 1) 0 = some (xs (i + 1)) := sc_r (zw_sc.trans W.2.2.2.1) hL 1 (by omega)
  have r2 : zaI (zw h F C) (some 1000001) (i32 (i : Int) + i32 2) 0 = some (xs (i + 2)) := sc_r (zw_sc.trans W.2.2.2.1) hL 2 (by omega)
  have r3 : zaI (zw h F C) (some 1000001) (i32 (i : Int) + i32 3) 0 = some (xs (i + 3)) := sc_r (zw_sc.trans W.2.2.2.1) hL 3 (by omega)
  obtain ⟨x, _, h', F', C', e1, e2, ⟨F1, C1, rfl⟩, W'⟩ := j_factQ (inI_x (xs (i + 1))) (inI_x (xs (i + 2))) (inI_x (xs (i + 3))) L xs h F C W
  simp only [i32_tI] at e1 e2
  have u1 : zaI (zw h' F1 C1) (some 1000001) (i32 (i : Int) + i32 1) 0 = some (xs (i + 1)) := sc_r (zw_sc.trans W'.2.2.2.1) hL 1 (by omega)
  have u2 : zaI (zw h' F1 C1) (some 1000001) (i32 (i : Int) + i32 2) 0 = some (xs (i + 2)) := sc_r (zw_sc.trans W'.2.2.2.1) hL 2 (by omega)
  have u3 : zaI (zw h' F1 C1) (some 1000001) (i32 (i : Int) + i32 3) 0 = some (xs (i + 3)) := sc_r (zw_sc.trans W'.2.2.2.1) hL 3 (by omega)
  have dx : decide (i32 x = i32 x) = true := decide_eq_true rfl
  refine ⟨h', F', C', ?_, W'⟩
  rw [e_Law_660]
  simp only [zoI_s, zoR_s, zoH_s, zoL_s, zbI_s, zbV_s, zbR_s, zbL_s, zif_t, zif_f, zrz_0, zrz_1, decide_true, decide_false, r1, r2, r3, wv_0 W.1.1, e1, u1, u2, u3, wv_72 W'.1.1, e2, dx, e_Law_1599, s7]
theorem lc_697 (W : wOK L xs h F C) (hL : L ≤ 3584) (hi : i + 7 ≤ L) : lgo L xs i (zr 323 697 [yR (some 1000001), yR (some 0), yR (some 72), yI (i32 (i : Int))] [] (zw h F C)) := by
  have s7 : i32 (i : Int) + i32 7 = i32 ((i + 7 : Nat) : Int) := by rw [i32_add]; rfl
  have r1 : zaI (zw h F C) (some 1000001) (i32 (i : Int) + i32 1) 0 = some (xs (i + 1)) := sc_r (zw_sc.trans W.2.2.2.1) hL 1 (by omega)
  have r2 : zaI (zw h F C) (some 1000001) (i32 (i : Int) + i32 2) 0 = some (xs (i + 2)) := sc_r (zw_sc.trans W.2.2.2.1) hL 2 (by omega)
  have r3 : zaI (zw h F C) (some 1000001) (i32 (i : Int) + i32 3) 0 = some (xs (i + 3)) := sc_r (zw_sc.trans W.2.2.2.1) hL 3 (by omega)
  obtain ⟨x, _, h', F', C', e1, e2, ⟨F1, C1, rfl⟩, W'⟩ := j_fits (inI_x (xs (i + 1))) (inI_x (xs (i + 2))) (inI_x (xs (i + 3))) L xs h F C W
  simp only [i32_tI] at e1 e2
  have u1 : zaI (zw h' F1 C1) (some 1000001) (i32 (i : Int) + i32 1) 0 = some (xs (i + 1)) := sc_r (zw_sc.trans W'.2.2.2.1) hL 1 (by omega)
  have u2 : zaI (zw h' F1 C1) (some 1000001) (i32 (i : Int) + i32 2) 0 = some (xs (i + 2)) := sc_r (zw_sc.trans W'.2.2.2.1) hL 2 (by omega)
  have u3 : zaI (zw h' F1 C1) (some 1000001) (i32 (i : Int) + i32 3) 0 = some (xs (i + 3)) := sc_r (zw_sc.trans W'.2.2.2.1) hL 3 (by omega)
  have dx : decide (i32 x = i32 x) = true := decide_eq_true rfl
  refine ⟨h', F', C', ?_, W'⟩
  rw [e_Law_697]
  simp only [zoI_s, zoR_s, zoH_s, zoL_s, zbI_s, zbV_s, zbR_s, zbL_s, zif_t, zif_f, zrz_0, zrz_1, decide_true, decide_false, r1, r2, r3, wv_0 W.1.1, e1, u1, u2, u3, wv_72 W'.1.1, e2, dx, e_Law_1599, s7]
theorem lc_734 (W : wOK L xs h F C) (hL : L ≤ 3584) (hi : i + 7 ≤ L) : lgo L xs i (zr 323 734 [yR (some 1000001), yR (some 0), yR (some 72), yI (i32 (i : Int))] [] (zw h F C)) := by
  have s7 : i32 (i : Int) + i32 7 = i32 ((i + 7 : Nat) : Int) := by rw [i32_add]; rfl
  have r1 : zaI (zw h F C) (some 1000001) (i32 (i : Int) + i32 1) 0 = some (xs (i + 1)) := sc_r (zw_sc.trans W.2.2.2.1) hL 1 (by omega)
  have r2 : zaI (zw h F C) (some 1000001) (i32 (i : Int) + i32 2) 0 = some (xs (i + 2)) := sc_r (zw_sc.trans W.2.2.2.1) hL 2 (by omega)
  have r3 : zaI (zw h F C) (some 1000001) (i32 (i : Int) + i32 3) 0 = some (xs (i + 3)) := sc_r (zw_sc.trans W.2.2.2.1) hL 3 (by omega)
  have r4 : zaI (zw h F C) (some 1000001) (i32 (i : Int) + i32 4) 0 = some (xs (i + 4)) := sc_r (zw_sc.trans W.2.2.2.1) hL 4 (by omega)
  have r5 : zaI (zw h F C) (some 1000001) (i32 (i : Int) + i32 5) 0 = some (xs (i + 5)) := sc_r (zw_sc.trans W.2.2.2.1) hL 5 (by omega)
  by_cases b : xs (i + 5) = 0
  · have db : decide (xs (i + 5) = 0) = true := decide_eq_true b
    obtain ⟨x, _, h', F', C', e1, e2, ⟨F1, C1, rfl⟩, W'⟩ := j_left (inI_x (xs (i + 1))) (inI_x (xs (i + 2))) (inI_x (xs (i + 3))) (inI_x (xs (i + 4))) (show inI 0 by unfold inI; omega) L xs h F C W
    simp only [i32_tI] at e1 e2
    have u1 : zaI (zw h' F1 C1) (some 1000001) (i32 (i : Int) + i32 1) 0 = some (xs (i + 1)) := sc_r (zw_sc.trans W'.2.2.2.1) hL 1 (by omega)
    have u2 : zaI (zw h' F1 C1) (some 1000001) (i32 (i : Int) + i32 2) 0 = some (xs (i + 2)) := sc_r (zw_sc.trans W'.2.2.2.1) hL 2 (by omega)
    have u3 : zaI (zw h' F1 C1) (some 1000001) (i32 (i : Int) + i32 3) 0 = some (xs (i + 3)) := sc_r (zw_sc.trans W'.2.2.2.1) hL 3 (by omega)
    have u4 : zaI (zw h' F1 C1) (some 1000001) (i32 (i : Int) + i32 4) 0 = some (xs (i + 4)) := sc_r (zw_sc.trans W'.2.2.2.1) hL 4 (by omega)
    have u5 : zaI (zw h' F1 C1) (some 1000001) (i32 (i : Int) + i32 5) 0 = some (xs (i + 5)) := sc_r (zw_sc.trans W'.2.2.2.1) hL 5 (by omega)
    have dx : decide (zcmp (i64 x) (i64 x) = 0) = true := decide_eq_true (zcmp_s _)
    refine ⟨h', F', C', ?_, W'⟩
    rw [e_Law_734]
    simp only [zoI_s, zoR_s, zoH_s, zoL_s, zbI_s, zbV_s, zbR_s, zbL_s, zif_t, zif_f, zrz_0, zrz_1, decide_true, decide_false, r1, r2, r3, r4, r5, db, wv_0 W.1.1, e1, u1, u2, u3, u4, u5, wv_72 W'.1.1, e2, dx, e_Law_1599, s7]
  · have db : decide (xs (i + 5) = 0) = false := decide_eq_false b
    obtain ⟨x, _, h', F', C', e1, e2, ⟨F1, C1, rfl⟩, W'⟩ := j_left (inI_x (xs (i + 1))) (inI_x (xs (i + 2))) (inI_x (xs (i + 3))) (inI_x (xs (i + 4))) (show inI 1 by unfold inI; omega) L xs h F C W
    simp only [i32_tI] at e1 e2
    have u1 : zaI (zw h' F1 C1) (some 1000001) (i32 (i : Int) + i32 1) 0 = some (xs (i + 1)) := sc_r (zw_sc.trans W'.2.2.2.1) hL 1 (by omega)
    have u2 : zaI (zw h' F1 C1) (some 1000001) (i32 (i : Int) + i32 2) 0 = some (xs (i + 2)) := sc_r (zw_sc.trans W'.2.2.2.1) hL 2 (by omega)
    have u3 : zaI (zw h' F1 C1) (some 1000001) (i32 (i : Int) + i32 3) 0 = some (xs (i + 3)) := sc_r (zw_sc.trans W'.2.2.2.1) hL 3 (by omega)
    have u4 : zaI (zw h' F1 C1) (some 1000001) (i32 (i : Int) + i32 4) 0 = some (xs (i + 4)) := sc_r (zw_sc.trans W'.2.2.2.1) hL 4 (by omega)
    have u5 : zaI (zw h' F1 C1) (some 1000001) (i32 (i : Int) + i32 5) 0 = some (xs (i + 5)) := sc_r (zw_sc.trans W'.2.2.2.1) hL 5 (by omega)
    have dx : decide (zcmp (i64 x) (i64 x) = 0) = true := decide_eq_true (zcmp_s _)
    refine ⟨h', F', C', ?_, W'⟩
    rw [e_Law_734]
    simp only [zoI_s, zoR_s, zoH_s, zoL_s, zbI_s, zbV_s, zbR_s, zbL_s, zif_t, zif_f, zrz_0, zrz_1, decide_true, decide_false, r1, r2, r3, r4, r5, db, wv_0 W.1.1, e1, u1, u2, u3, u4, u5, wv_72 W'.1.1, e2, dx, e_Law_1599, s7]
theorem lc_800 (W : wOK L xs h F C) (hL : L ≤ 3584) (hi : i + 7 ≤ L) : lgo L xs i (zr 323 800 [yR (some 1000001), yR (some 0), yR (some 72), yI (i32 (i : Int))] [] (zw h F C)) := by
  have s7 : i32 (i : Int) + i32 7 = i32 ((i + 7 : Nat) : Int) := by rw [i32_add]; rfl
  have r1 : zaI (zw h F C) (some 1000001) (i32 (i : Int) + i32 1) 0 = some (xs (i + 1)) := sc_r (zw_sc.trans W.2.2.2.1) hL 1 (by omega)
  have r2 : zaI (zw h F C) (some 1000001) (i32 (i : Int) + i32 2) 0 = some (xs (i + 2)) := sc_r (zw_sc.trans W.2.2.2.1) hL 2 (by omega)
  have r3 : zaI (zw h F C) (some 1000001) (i32 (i : Int) + i32 3) 0 = some (xs (i + 3)) := sc_r (zw_sc.trans W.2.2.2.1) hL 3 (by omega)
  have r4 : zaI (zw h F C) (some 1000001) (i32 (i : Int) + i32 4) 0 = some (xs (i + 4)) := sc_r (zw_sc.trans W.2.2.2.1) hL 4 (by omega)
  obtain ⟨x, _, h', F', C', e1, e2, ⟨F1, C1, rfl⟩, W'⟩ := j_drawn (inI_x (xs (i + 1))) (inI_x (xs (i + 2))) (inI_x (xs (i + 3))) (inI_x (xs (i + 4))) L xs h F C W
  simp only [i32_tI] at e1 e2
  have u1 : zaI (zw h' F1 C1) (some 1000001) (i32 (i : Int) + i32 1) 0 = some (xs (i + 1)) := sc_r (zw_sc.trans W'.2.2.2.1) hL 1 (by omega)
  have u2 : zaI (zw h' F1 C1) (some 1000001) (i32 (i : Int) + i32 2) 0 = some (xs (i + 2)) := sc_r (zw_sc.trans W'.2.2.2.1) hL 2 (by omega)
  have u3 : zaI (zw h' F1 C1) (some 1000001) (i32 (i : Int) + i32 3) 0 = some (xs (i + 3)) := sc_r (zw_sc.trans W'.2.2.2.1) hL 3 (by omega)
  have u4 : zaI (zw h' F1 C1) (some 1000001) (i32 (i : Int) + i32 4) 0 = some (xs (i + 4)) := sc_r (zw_sc.trans W'.2.2.2.1) hL 4 (by omega)
  have dx : decide (i32 x = i32 x) = true := decide_eq_true rfl
  refine ⟨h', F', C', ?_, W'⟩
  rw [e_Law_800]
  simp only [zoI_s, zoR_s, zoH_s, zoL_s, zbI_s, zbV_s, zbR_s, zbL_s, zif_t, zif_f, zrz_0, zrz_1, decide_true, decide_false, r1, r2, r3, r4, wv_0 W.1.1, e1, u1, u2, u3, u4, wv_72 W'.1.1, e2, dx, e_Law_1599, s7]
theorem lc_847 (W : wOK L xs h F C) (hL : L ≤ 3584) (hi : i + 7 ≤ L) : lgo L xs i (zr 323 847 [yR (some 1000001), yR (some 0), yR (some 72), yI (i32 (i : Int))] [] (zw h F C)) := by
  have s7 : i32 (i : Int) + i32 7 = i32 ((i + 7 : Nat) : Int) := by rw [i32_add]; rfl
  have r1 : zaI (zw h F C) (some 1000001) (i32 (i : Int) + i32 1) 0 = some (xs (i + 1)) := sc_r (zw_sc.trans W.2.2.2.1) hL 1 (by omega)
  have r2 : zaI (zw h F C) (some 1000001) (i32 (i : Int) + i32 2) 0 = some (xs (i + 2)) := sc_r (zw_sc.trans W.2.2.2.1) hL 2 (by omega)
  have r3 : zaI (zw h F C) (some 1000001) (i32 (i : Int) + i32 3) 0 = some (xs (i + 3)) := sc_r (zw_sc.trans W.2.2.2.1) hL 3 (by omega)
  have r4 : zaI (zw h F C) (some 1000001) (i32 (i : Int) + i32 4) 0 = some (xs (i + 4)) := sc_r (zw_sc.trans W.2.2.2.1) hL 4 (by omega)
  have r5 : zaI (zw h F C) (some 1000001) (i32 (i : Int) + i32 5) 0 = some (xs (i + 5)) := sc_r (zw_sc.trans W.2.2.2.1) hL 5 (by omega)
  obtain ⟨x, _, h', F', C', e1, e2, ⟨F1, C1, rfl⟩, W'⟩ := j_chant (inI_x (xs (i + 1))) (inI_x (xs (i + 2))) (inI_x (xs (i + 3))) (inI_x (xs (i + 4))) (inI_x (xs (i + 5))) L xs h F C W
  simp only [i32_tI] at e1 e2
  have u1 : zaI (zw h' F1 C1) (some 1000001) (i32 (i : Int) + i32 1) 0 = some (xs (i + 1)) := sc_r (zw_sc.trans W'.2.2.2.1) hL 1 (by omega)
  have u2 : zaI (zw h' F1 C1) (some 1000001) (i32 (i : Int) + i32 2) 0 = some (xs (i + 2)) := sc_r (zw_sc.trans W'.2.2.2.1) hL 2 (by omega)
  have u3 : zaI (zw h' F1 C1) (some 1000001) (i32 (i : Int) + i32 3) 0 = some (xs (i + 3)) := sc_r (zw_sc.trans W'.2.2.2.1) hL 3 (by omega)
  have u4 : zaI (zw h' F1 C1) (some 1000001) (i32 (i : Int) + i32 4) 0 = some (xs (i + 4)) := sc_r (zw_sc.trans W'.2.2.2.1) hL 4 (by omega)
  have u5 : zaI (zw h' F1 C1) (some 1000001) (i32 (i : Int) + i32 5) 0 = some (xs (i + 5)) := sc_r (zw_sc.trans W'.2.2.2.1) hL 5 (by omega)
  have dx : decide (i32 x = i32 x) = true := decide_eq_true rfl
  refine ⟨h', F', C', ?_, W'⟩
  rw [e_Law_847]
  simp only [zoI_s, zoR_s, zoH_s, zoL_s, zbI_s, zbV_s, zbR_s, zbL_s, zif_t, zif_f, zrz_0, zrz_1, decide_true, decide_false, r1, r2, r3, r4, r5, wv_0 W.1.1, e1, u1, u2, u3, u4, u5, wv_72 W'.1.1, e2, dx, e_Law_1599, s7]
theorem lc_904 (W : wOK L xs h F C) (hL : L ≤ 3584) (hi : i + 7 ≤ L) : lgo L xs i (zr 323 904 [yR (some 1000001), yR (some 0), yR (some 72), yI (i32 (i : Int))] [] (zw h F C)) := by
  have s7 : i32 (i : Int) + i32 7 = i32 ((i + 7 : Nat) : Int) := by rw [i32_add]; rfl
  have r1 : zaI (zw h F C) (some 1000001) (i32 (i : Int) + i32 1) 0 = some (xs (i + 1)) := sc_r (zw_sc.trans W.2.2.2.1) hL 1 (by omega)
  have r2 : zaI (zw h F C) (some 1000001) (i32 (i : Int) + i32 2) 0 = some (xs (i + 2)) := sc_r (zw_sc.trans W.2.2.2.1) hL 2 (by omega)
  have r3 : zaI (zw h F C) (some 1000001) (i32 (i : Int) + i32 3) 0 = some (xs (i + 3)) := sc_r (zw_sc.trans W.2.2.2.1) hL 3 (by omega)
  have r4 : zaI (zw h F C) (some 1000001) (i32 (i : Int) + i32 4) 0 = some (xs (i + 4)) := sc_r (zw_sc.trans W.2.2.2.1) hL 4 (by omega)
  have r5 : zaI (zw h F C) (some 1000001) (i32 (i : Int) + i32 5) 0 = some (xs (i + 5)) := sc_r (zw_sc.trans W.2.2.2.1) hL 5 (by omega)
  obtain ⟨x, _, h', F', C', e1, e2, ⟨F1, C1, rfl⟩, W'⟩ := j_ripe (inI_x (xs (i + 1))) (inI_x (xs (i + 2))) (inI_x (xs (i + 3))) (inI_x (xs (i + 4))) (inI_x (xs (i + 5))) L xs h F C W
  simp only [i32_tI] at e1 e2
  have u1 : zaI (zw h' F1 C1) (some 1000001) (i32 (i : Int) + i32 1) 0 = some (xs (i + 1)) := sc_r (zw_sc.trans W'.2.2.2.1) hL 1 (by omega)
  have u2 : zaI (zw h' F1 C1) (some 1000001) (i32 (i : Int) + i32 2) 0 = some (xs (i + 2)) := sc_r (zw_sc.trans W'.2.2.2.1) hL 2 (by omega)
  have u3 : zaI (zw h' F1 C1) (some 1000001) (i32 (i : Int) + i32 3) 0 = some (xs (i + 3)) := sc_r (zw_sc.trans W'.2.2.2.1) hL 3 (by omega)
  have u4 : zaI (zw h' F1 C1) (some 1000001) (i32 (i : Int) + i32 4) 0 = some (xs (i + 4)) := sc_r (zw_sc.trans W'.2.2.2.1) hL 4 (by omega)
  have u5 : zaI (zw h' F1 C1) (some 1000001) (i32 (i : Int) + i32 5) 0 = some (xs (i + 5)) := sc_r (zw_sc.trans W'.2.2.2.1) hL 5 (by omega)
  have dx : decide (i32 x = i32 x) = true := decide_eq_true rfl
  refine ⟨h', F', C', ?_, W'⟩
  rw [e_Law_904]
  simp only [zoI_s, zoR_s, zoH_s, zoL_s, zbI_s, zbV_s, zbR_s, zbL_s, zif_t, zif_f, zrz_0, zrz_1, decide_true, decide_false, r1, r2, r3, r4, r5, wv_0 W.1.1, e1, u1, u2, u3, u4, u5, wv_72 W'.1.1, e2, dx, e_Law_1599, s7]
theorem lc_961 (W : wOK L xs h F C) (hL : L ≤ 3584) (hi : i + 7 ≤ L) : lgo L xs i (zr 323 961 [yR (some 1000001), yR (some 0), yR (some 72), yI (i32 (i : Int))] [] (zw h F C)) := by
  have s7 : i32 (i : Int) + i32 7 = i32 ((i + 7 : Nat) : Int) := by rw [i32_add]; rfl
  have r1 : zaI (zw h F C) (some 1000001) (i32 (i : Int) + i32 1) 0 = some (xs (i + 1)) := sc_r (zw_sc.trans W.2.2.2.1) hL 1 (by omega)
  have r2 : zaI (zw h F C) (some 1000001) (i32 (i : Int) + i32 2) 0 = some (xs (i + 2)) := sc_r (zw_sc.trans W.2.2.2.1) hL 2 (by omega)
  have r3 : zaI (zw h F C) (some 1000001) (i32 (i : Int) + i32 3) 0 = some (xs (i + 3)) := sc_r (zw_sc.trans W.2.2.2.1) hL 3 (by omega)
  obtain ⟨x, _, h', F', C', e1, e2, ⟨F1, C1, rfl⟩, W'⟩ := j_deepest (inI_x (xs (i + 1))) (inI_x (xs (i + 2))) (inI_x (xs (i + 3))) L xs h F C W
  simp only [i32_tI] at e1 e2
  have u1 : zaI (zw h' F1 C1) (some 1000001) (i32 (i : Int) + i32 1) 0 = some (xs (i + 1)) := sc_r (zw_sc.trans W'.2.2.2.1) hL 1 (by omega)
  have u2 : zaI (zw h' F1 C1) (some 1000001) (i32 (i : Int) + i32 2) 0 = some (xs (i + 2)) := sc_r (zw_sc.trans W'.2.2.2.1) hL 2 (by omega)
  have u3 : zaI (zw h' F1 C1) (some 1000001) (i32 (i : Int) + i32 3) 0 = some (xs (i + 3)) := sc_r (zw_sc.trans W'.2.2.2.1) hL 3 (by omega)
  have dx : decide (i32 x = i32 x) = true := decide_eq_true rfl
  refine ⟨h', F', C', ?_, W'⟩
  rw [e_Law_961]
  simp only [zoI_s, zoR_s, zoH_s, zoL_s, zbI_s, zbV_s, zbR_s, zbL_s, zif_t, zif_f, zrz_0, zrz_1, decide_true, decide_false, r1, r2, r3, wv_0 W.1.1, e1, u1, u2, u3, wv_72 W'.1.1, e2, dx, e_Law_1599, s7]
theorem lc_998 (W : wOK L xs h F C) (hL : L ≤ 3584) (hi : i + 7 ≤ L) : lgo L xs i (zr 323 998 [yR (some 1000001), yR (some 0), yR (some 72), yI (i32 (i : Int))] [] (zw h F C)) := by
  have s7 : i32 (i : Int) + i32 7 = i32 ((i + 7 : Nat) : Int) := by rw [i32_add]; rfl
  have r1 : zaI (zw h F C) (some 1000001) (i32 (i : Int) + i32 1) 0 = some (xs (i + 1)) := sc_r (zw_sc.trans W.2.2.2.1) hL 1 (by omega)
  have r2 : zaI (zw h F C) (some 1000001) (i32 (i : Int) + i32 2) 0 = some (xs (i + 2)) := sc_r (zw_sc.trans W.2.2.2.1) hL 2 (by omega)
  have r3 : zaI (zw h F C) (some 1000001) (i32 (i : Int) + i32 3) 0 = some (xs (i + 3)) := sc_r (zw_sc.trans W.2.2.2.1) hL 3 (by omega)
  have r4 : zaI (zw h F C) (some 1000001) (i32 (i : Int) + i32 4) 0 = some (xs (i + 4)) := sc_r (zw_sc.trans W.2.2.2.1) hL 4 (by omega)
  obtain ⟨x, _, h', F', C', e1, e2, ⟨F1, C1, rfl⟩, W'⟩ := j_program (inI_x (xs (i + 1))) (inI_x (xs (i + 2))) (inI_x (xs (i + 3))) (inI_x (xs (i + 4))) L xs h F C W
  simp only [i32_tI] at e1 e2
  have u1 : zaI (zw h' F1 C1) (some 1000001) (i32 (i : Int) + i32 1) 0 = some (xs (i + 1)) := sc_r (zw_sc.trans W'.2.2.2.1) hL 1 (by omega)
  have u2 : zaI (zw h' F1 C1) (some 1000001) (i32 (i : Int) + i32 2) 0 = some (xs (i + 2)) := sc_r (zw_sc.trans W'.2.2.2.1) hL 2 (by omega)
  have u3 : zaI (zw h' F1 C1) (some 1000001) (i32 (i : Int) + i32 3) 0 = some (xs (i + 3)) := sc_r (zw_sc.trans W'.2.2.2.1) hL 3 (by omega)
  have u4 : zaI (zw h' F1 C1) (some 1000001) (i32 (i : Int) + i32 4) 0 = some (xs (i + 4)) := sc_r (zw_sc.trans W'.2.2.2.1) hL 4 (by omega)
  have dx : decide (i32 x = i32 x) = true := decide_eq_true rfl
  refine ⟨h', F', C', ?_, W'⟩
  rw [e_Law_998]
  simp only [zoI_s, zoR_s, zoH_s, zoL_s, zbI_s, zbV_s, zbR_s, zbL_s, zif_t, zif_f, zrz_0, zrz_1, decide_true, decide_false, r1, r2, r3, r4, wv_0 W.1.1, e1, u1, u2, u3, u4, wv_72 W'.1.1, e2, dx, e_Law_1599, s7]
theorem lc_1045 (W : wOK L xs h F C) (hL : L ≤ 3584) (hi : i + 7 ≤ L) : lgo L xs i (zr 323 1045 [yR (some 1000001), yR (some 0), yR (some 72), yI (i32 (i : Int))] [] (zw h F C)) := by
  have s7 : i32 (i : Int) + i32 7 = i32 ((i + 7 : Nat) : Int) := by rw [i32_add]; rfl
  have r1 : zaI (zw h F C) (some 1000001) (i32 (i : Int) + i32 1) 0 = some (xs (i + 1)) := sc_r (zw_sc.trans W.2.2.2.1) hL 1 (by omega)
  have r2 : zaI (zw h F C) (some 1000001) (i32 (i : Int) + i32 2) 0 = some (xs (i + 2)) := sc_r (zw_sc.trans W.2.2.2.1) hL 2 (by omega)
  have r3 : zaI (zw h F C) (some 1000001) (i32 (i : Int) + i32 3) 0 = some (xs (i + 3)) := sc_r (zw_sc.trans W.2.2.2.1) hL 3 (by omega)
  have r4 : zaI (zw h F C) (some 1000001) (i32 (i : Int) + i32 4) 0 = some (xs (i + 4)) := sc_r (zw_sc.trans W.2.2.2.1) hL 4 (by omega)
  obtain ⟨x, _, h', F', C', e1, e2, ⟨F1, C1, rfl⟩, W'⟩ := j_edit (inI_x (xs (i + 1))) (inI_x (xs (i + 2))) (inI_x (xs (i + 3))) (inI_x (xs (i + 4))) L xs h F C W
  simp only [i32_tI] at e1 e2
  have u1 : zaI (zw h' F1 C1) (some 1000001) (i32 (i : Int) + i32 1) 0 = some (xs (i + 1)) := sc_r (zw_sc.trans W'.2.2.2.1) hL 1 (by omega)
  have u2 : zaI (zw h' F1 C1) (some 1000001) (i32 (i : Int) + i32 2) 0 = some (xs (i + 2)) := sc_r (zw_sc.trans W'.2.2.2.1) hL 2 (by omega)
  have u3 : zaI (zw h' F1 C1) (some 1000001) (i32 (i : Int) + i32 3) 0 = some (xs (i + 3)) := sc_r (zw_sc.trans W'.2.2.2.1) hL 3 (by omega)
  have u4 : zaI (zw h' F1 C1) (some 1000001) (i32 (i : Int) + i32 4) 0 = some (xs (i + 4)) := sc_r (zw_sc.trans W'.2.2.2.1) hL 4 (by omega)
  have dx : decide (i32 x = i32 x) = true := decide_eq_true rfl
  refine ⟨h', F', C', ?_, W'⟩
  rw [e_Law_1045]
  simp only [zoI_s, zoR_s, zoH_s, zoL_s, zbI_s, zbV_s, zbR_s, zbL_s, zif_t, zif_f, zrz_0, zrz_1, decide_true, decide_false, r1, r2, r3, r4, wv_0 W.1.1, e1, u1, u2, u3, u4, wv_72 W'.1.1, e2, dx, e_Law_1599, s7]
theorem lc_1092 (W : wOK L xs h F C) (hL : L ≤ 3584) (hi : i + 7 ≤ L) : lgo L xs i (zr 323 1092 [yR (some 1000001), yR (some 0), yR (some 72), yI (i32 (i : Int))] [] (zw h F C)) := by
  have s7 : i32 (i : Int) + i32 7 = i32 ((i + 7 : Nat) : Int) := by rw [i32_add]; rfl
  have r1 : zaI (zw h F C) (some 1000001) (i32 (i : Int) + i32 1) 0 = some (xs (i + 1)) := sc_r (zw_sc.trans W.2.2.2.1) hL 1 (by omega)
  have r2 : zaI (zw h F C) (some 1000001) (i32 (i : Int) + i32 2) 0 = some (xs (i + 2)) := sc_r (zw_sc.trans W.2.2.2.1) hL 2 (by omega)
  have r3 : zaI (zw h F C) (some 1000001) (i32 (i : Int) + i32 3) 0 = some (xs (i + 3)) := sc_r (zw_sc.trans W.2.2.2.1) hL 3 (by omega)
  by_cases b : xs (i + 3) = 0
  · have db : decide (xs (i + 3) = 0) = true := decide_eq_true b
    obtain ⟨x, _, h', F', C', e1, e2, ⟨F1, C1, rfl⟩, W'⟩ := j_choir (inI_x (xs (i + 1))) (inI_x (xs (i + 2))) (show inI 0 by unfold inI; omega) L xs h F C W
    simp only [i32_tI] at e1 e2
    have u1 : zaI (zw h' F1 C1) (some 1000001) (i32 (i : Int) + i32 1) 0 = some (xs (i + 1)) := sc_r (zw_sc.trans W'.2.2.2.1) hL 1 (by omega)
    have u2 : zaI (zw h' F1 C1) (some 1000001) (i32 (i : Int) + i32 2) 0 = some (xs (i + 2)) := sc_r (zw_sc.trans W'.2.2.2.1) hL 2 (by omega)
    have u3 : zaI (zw h' F1 C1) (some 1000001) (i32 (i : Int) + i32 3) 0 = some (xs (i + 3)) := sc_r (zw_sc.trans W'.2.2.2.1) hL 3 (by omega)
    have dx : decide (i32 x = i32 x) = true := decide_eq_true rfl
    refine ⟨h', F', C', ?_, W'⟩
    rw [e_Law_1092]
    simp only [zoI_s, zoR_s, zoH_s, zoL_s, zbI_s, zbV_s, zbR_s, zbL_s, zif_t, zif_f, zrz_0, zrz_1, decide_true, decide_false, r1, r2, r3, db, wv_0 W.1.1, e1, u1, u2, u3, wv_72 W'.1.1, e2, dx, e_Law_1599, s7]
  · have db : decide (xs (i + 3) = 0) = false := decide_eq_false b
    obtain ⟨x, _, h', F', C', e1, e2, ⟨F1, C1, rfl⟩, W'⟩ := j_choir (inI_x (xs (i + 1))) (inI_x (xs (i + 2))) (show inI 1 by unfold inI; omega) L xs h F C W
    simp only [i32_tI] at e1 e2
    have u1 : zaI (zw h' F1 C1) (some 1000001) (i32 (i : Int) + i32 1) 0 = some (xs (i + 1)) := sc_r (zw_sc.trans W'.2.2.2.1) hL 1 (by omega)
    have u2 : zaI (zw h' F1 C1) (some 1000001) (i32 (i : Int) + i32 2) 0 = some (xs (i + 2)) := sc_r (zw_sc.trans W'.2.2.2.1) hL 2 (by omega)
    have u3 : zaI (zw h' F1 C1) (some 1000001) (i32 (i : Int) + i32 3) 0 = some (xs (i + 3)) := sc_r (zw_sc.trans W'.2.2.2.1) hL 3 (by omega)
    have dx : decide (i32 x = i32 x) = true := decide_eq_true rfl
    refine ⟨h', F', C', ?_, W'⟩
    rw [e_Law_1092]
    simp only [zoI_s, zoR_s, zoH_s, zoL_s, zbI_s, zbV_s, zbR_s, zbL_s, zif_t, zif_f, zrz_0, zrz_1, decide_true, decide_false, r1, r2, r3, db, wv_0 W.1.1, e1, u1, u2, u3, wv_72 W'.1.1, e2, dx, e_Law_1599, s7]
theorem lc_1137 (W : wOK L xs h F C) (hL : L ≤ 3584) (hi : i + 7 ≤ L) : lgo L xs i (zr 323 1137 [yR (some 1000001), yR (some 0), yR (some 72), yI (i32 (i : Int))] [] (zw h F C)) := by
  have s7 : i32 (i : Int) + i32 7 = i32 ((i + 7 : Nat) : Int) := by rw [i32_add]; rfl
  have r1 : zaI (zw h F C) (some 1000001) (i32 (i : Int) + i32 1) 0 = some (xs (i + 1)) := sc_r (zw_sc.trans W.2.2.2.1) hL 1 (by omega)
  have r2 : zaI (zw h F C) (some 1000001) (i32 (i : Int) + i32 2) 0 = some (xs (i + 2)) := sc_r (zw_sc.trans W.2.2.2.1) hL 2 (by omega)
  have r3 : zaI (zw h F C) (some 1000001) (i32 (i : Int) + i32 3) 0 = some (xs (i + 3)) := sc_r (zw_sc.trans W.2.2.2.1) hL 3 (by omega)
  by_cases b : xs (i + 3) = 0
  · have db : decide (xs (i + 3) = 0) = true := decide_eq_true b
    obtain ⟨x, _, h', F', C', e1, e2, ⟨F1, C1, rfl⟩, W'⟩ := j_peace (inI_x (xs (i + 1))) (inI_x (xs (i + 2))) (show inI 0 by unfold inI; omega) L xs h F C W
    simp only [i32_tI] at e1 e2
    have u1 : zaI (zw h' F1 C1) (some 1000001) (i32 (i : Int) + i32 1) 0 = some (xs (i + 1)) := sc_r (zw_sc.trans W'.2.2.2.1) hL 1 (by omega)
    have u2 : zaI (zw h' F1 C1) (some 1000001) (i32 (i : Int) + i32 2) 0 = some (xs (i + 2)) := sc_r (zw_sc.trans W'.2.2.2.1) hL 2 (by omega)
    have u3 : zaI (zw h' F1 C1) (some 1000001) (i32 (i : Int) + i32 3) 0 = some (xs (i + 3)) := sc_r (zw_sc.trans W'.2.2.2.1) hL 3 (by omega)
    have dx : decide (i32 x = i32 x) = true := decide_eq_true rfl
    refine ⟨h', F', C', ?_, W'⟩
    rw [e_Law_1137]
    simp only [zoI_s, zoR_s, zoH_s, zoL_s, zbI_s, zbV_s, zbR_s, zbL_s, zif_t, zif_f, zrz_0, zrz_1, decide_true, decide_false, r1, r2, r3, db, wv_0 W.1.1, e1, u1, u2, u3, wv_72 W'.1.1, e2, dx, e_Law_1599, s7]
  · have db : decide (xs (i + 3) = 0) = false := decide_eq_false b
    obtain ⟨x, _, h', F', C', e1, e2, ⟨F1, C1, rfl⟩, W'⟩ := j_peace (inI_x (xs (i + 1))) (inI_x (xs (i + 2))) (show inI 1 by unfold inI; omega) L xs h F C W
    simp only [i32_tI] at e1 e2
    have u1 : zaI (zw h' F1 C1) (some 1000001) (i32 (i : Int) + i32 1) 0 = some (xs (i + 1)) := sc_r (zw_sc.trans W'.2.2.2.1) hL 1 (by omega)
    have u2 : zaI (zw h' F1 C1) (some 1000001) (i32 (i : Int) + i32 2) 0 = some (xs (i + 2)) := sc_r (zw_sc.trans W'.2.2.2.1) hL 2 (by omega)
    have u3 : zaI (zw h' F1 C1) (some 1000001) (i32 (i : Int) + i32 3) 0 = some (xs (i + 3)) := sc_r (zw_sc.trans W'.2.2.2.1) hL 3 (by omega)
    have dx : decide (i32 x = i32 x) = true := decide_eq_true rfl
    refine ⟨h', F', C', ?_, W'⟩
    rw [e_Law_1137]
    simp only [zoI_s, zoR_s, zoH_s, zoL_s, zbI_s, zbV_s, zbR_s, zbL_s, zif_t, zif_f, zrz_0, zrz_1, decide_true, decide_false, r1, r2, r3, db, wv_0 W.1.1, e1, u1, u2, u3, wv_72 W'.1.1, e2, dx, e_Law_1599, s7]
theorem lc_1182 (W : wOK L xs h F C) (hL : L ≤ 3584) (hi : i + 7 ≤ L) : lgo L xs i (zr 323 1182 [yR (some 1000001), yR (some 0), yR (some 72), yI (i32 (i : Int))] [] (zw h F C)) := by
  have s7 : i32 (i : Int) + i32 7 = i32 ((i + 7 : Nat) : Int) := by rw [i32_add]; rfl
  have r1 : zaI (zw h F C) (some 1000001) (i32 (i : Int) + i32 1) 0 = some (xs (i + 1)) := sc_r (zw_sc.trans W.2.2.2.1) hL 1 (by omega)
  have r2 : zaI (zw h F C) (some 1000001) (i32 (i : Int) + i32 2) 0 = some (xs (i + 2)) := sc_r (zw_sc.trans W.2.2.2.1) hL 2 (by omega)
  obtain ⟨x, _, h', F', C', e1, e2, ⟨F1, C1, rfl⟩, W'⟩ := j_marched (inI_x (xs (i + 1))) (inI_x (xs (i + 2))) L xs h F C W
  simp only [i32_tI] at e1 e2
  have u1 : zaI (zw h' F1 C1) (some 1000001) (i32 (i : Int) + i32 1) 0 = some (xs (i + 1)) := sc_r (zw_sc.trans W'.2.2.2.1) hL 1 (by omega)
  have u2 : zaI (zw h' F1 C1) (some 1000001) (i32 (i : Int) + i32 2) 0 = some (xs (i + 2)) := sc_r (zw_sc.trans W'.2.2.2.1) hL 2 (by omega)
  have dx : decide (i32 x = i32 x) = true := decide_eq_true rfl
  refine ⟨h', F', C', ?_, W'⟩
  rw [e_Law_1182]
  simp only [zoI_s, zoR_s, zoH_s, zoL_s, zbI_s, zbV_s, zbR_s, zbL_s, zif_t, zif_f, zrz_0, zrz_1, decide_true, decide_false, r1, r2, wv_0 W.1.1, e1, u1, u2, wv_72 W'.1.1, e2, dx, e_Law_1599, s7]
theorem lc_1209 (W : wOK L xs h F C) (hL : L ≤ 3584) (hi : i + 7 ≤ L) : lgo L xs i (zr 323 1209 [yR (some 1000001), yR (some 0), yR (some 72), yI (i32 (i : Int))] [] (zw h F C)) := by
  have s7 : i32 (i : Int) + i32 7 = i32 ((i + 7 : Nat) : Int) := by rw [i32_add]; rfl
  have r1 : zaI (zw h F C) (some 1000001) (i32 (i : Int) + i32 1) 0 = some (xs (i + 1)) := sc_r (zw_sc.trans W.2.2.2.1) hL 1 (by omega)
  have r2 : zaI (zw h F C) (some 1000001) (i32 (i : Int) + i32 2) 0 = some (xs (i + 2)) := sc_r (zw_sc.trans W.2.2.2.1) hL 2 (by omega)
  have r3 : zaI (zw h F C) (some 1000001) (i32 (i : Int) + i32 3) 0 = some (xs (i + 3)) := sc_r (zw_sc.trans W.2.2.2.1) hL 3 (by omega)
  obtain ⟨x, _, h', F', C', e1, e2, ⟨F1, C1, rfl⟩, W'⟩ := j_chords (inI_x (xs (i + 1))) (inI_x (xs (i + 2))) (inI_x (xs (i + 3))) L xs h F C W
  simp only [i32_tI] at e1 e2
  have u1 : zaI (zw h' F1 C1) (some 1000001) (i32 (i : Int) + i32 1) 0 = some (xs (i + 1)) := sc_r (zw_sc.trans W'.2.2.2.1) hL 1 (by omega)
  have u2 : zaI (zw h' F1 C1) (some 1000001) (i32 (i : Int) + i32 2) 0 = some (xs (i + 2)) := sc_r (zw_sc.trans W'.2.2.2.1) hL 2 (by omega)
  have u3 : zaI (zw h' F1 C1) (some 1000001) (i32 (i : Int) + i32 3) 0 = some (xs (i + 3)) := sc_r (zw_sc.trans W'.2.2.2.1) hL 3 (by omega)
  have dx : decide (i32 x = i32 x) = true := decide_eq_true rfl
  refine ⟨h', F', C', ?_, W'⟩
  rw [e_Law_1209]
  simp only [zoI_s, zoR_s, zoH_s, zoL_s, zbI_s, zbV_s, zbR_s, zbL_s, zif_t, zif_f, zrz_0, zrz_1, decide_true, decide_false, r1, r2, r3, wv_0 W.1.1, e1, u1, u2, u3, wv_72 W'.1.1, e2, dx, e_Law_1599, s7]
theorem lc_1246 (W : wOK L xs h F C) (hL : L ≤ 3584) (hi : i + 7 ≤ L) : lgo L xs i (zr 323 1246 [yR (some 1000001), yR (some 0), yR (some 72), yI (i32 (i : Int))] [] (zw h F C)) := by
  have s7 : i32 (i : Int) + i32 7 = i32 ((i + 7 : Nat) : Int) := by rw [i32_add]; rfl
  have r1 : zaI (zw h F C) (some 1000001) (i32 (i : Int) + i32 1) 0 = some (xs (i + 1)) := sc_r (zw_sc.trans W.2.2.2.1) hL 1 (by omega)
  have r2 : zaI (zw h F C) (some 1000001) (i32 (i : Int) + i32 2) 0 = some (xs (i + 2)) := sc_r (zw_sc.trans W.2.2.2.1) hL 2 (by omega)
  obtain ⟨x, _, h', F', C', e1, e2, ⟨F1, C1, rfl⟩, W'⟩ := j_twins (inI_x (xs (i + 1))) (inI_x (xs (i + 2))) L xs h F C W
  simp only [i32_tI] at e1 e2
  have u1 : zaI (zw h' F1 C1) (some 1000001) (i32 (i : Int) + i32 1) 0 = some (xs (i + 1)) := sc_r (zw_sc.trans W'.2.2.2.1) hL 1 (by omega)
  have u2 : zaI (zw h' F1 C1) (some 1000001) (i32 (i : Int) + i32 2) 0 = some (xs (i + 2)) := sc_r (zw_sc.trans W'.2.2.2.1) hL 2 (by omega)
  have dx : decide (i32 x = i32 x) = true := decide_eq_true rfl
  refine ⟨h', F', C', ?_, W'⟩
  rw [e_Law_1246]
  simp only [zoI_s, zoR_s, zoH_s, zoL_s, zbI_s, zbV_s, zbR_s, zbL_s, zif_t, zif_f, zrz_0, zrz_1, decide_true, decide_false, r1, r2, wv_0 W.1.1, e1, u1, u2, wv_72 W'.1.1, e2, dx, e_Law_1599, s7]
theorem lc_1273 (W : wOK L xs h F C) (hL : L ≤ 3584) (hi : i + 7 ≤ L) : lgo L xs i (zr 323 1273 [yR (some 1000001), yR (some 0), yR (some 72), yI (i32 (i : Int))] [] (zw h F C)) := by
  have s7 : i32 (i : Int) + i32 7 = i32 ((i + 7 : Nat) : Int) := by rw [i32_add]; rfl
  have r1 : zaI (zw h F C) (some 1000001) (i32 (i : Int) + i32 1) 0 = some (xs (i + 1)) := sc_r (zw_sc.trans W.2.2.2.1) hL 1 (by omega)
  have r2 : zaI (zw h F C) (some 1000001) (i32 (i : Int) + i32 2) 0 = some (xs (i + 2)) := sc_r (zw_sc.trans W.2.2.2.1) hL 2 (by omega)
  have r3 : zaI (zw h F C) (some 1000001) (i32 (i : Int) + i32 3) 0 = some (xs (i + 3)) := sc_r (zw_sc.trans W.2.2.2.1) hL 3 (by omega)
  by_cases b : xs (i + 3) = 0
  · have db : decide (xs (i + 3) = 0) = true := decide_eq_true b
    obtain ⟨x, _, h', F', C', e1, e2, ⟨F1, C1, rfl⟩, W'⟩ := j_fairest (inI_x (xs (i + 1))) (inI_x (xs (i + 2))) (show inI 0 by unfold inI; omega) L xs h F C W
    simp only [i32_tI] at e1 e2
    have u1 : zaI (zw h' F1 C1) (some 1000001) (i32 (i : Int) + i32 1) 0 = some (xs (i + 1)) := sc_r (zw_sc.trans W'.2.2.2.1) hL 1 (by omega)
    have u2 : zaI (zw h' F1 C1) (some 1000001) (i32 (i : Int) + i32 2) 0 = some (xs (i + 2)) := sc_r (zw_sc.trans W'.2.2.2.1) hL 2 (by omega)
    have u3 : zaI (zw h' F1 C1) (some 1000001) (i32 (i : Int) + i32 3) 0 = some (xs (i + 3)) := sc_r (zw_sc.trans W'.2.2.2.1) hL 3 (by omega)
    have dx : decide (i32 x = i32 x) = true := decide_eq_true rfl
    refine ⟨h', F', C', ?_, W'⟩
    rw [e_Law_1273]
    simp only [zoI_s, zoR_s, zoH_s, zoL_s, zbI_s, zbV_s, zbR_s, zbL_s, zif_t, zif_f, zrz_0, zrz_1, decide_true, decide_false, r1, r2, r3, db, wv_0 W.1.1, e1, u1, u2, u3, wv_72 W'.1.1, e2, dx, e_Law_1599, s7]
  · have db : decide (xs (i + 3) = 0) = false := decide_eq_false b
    obtain ⟨x, _, h', F', C', e1, e2, ⟨F1, C1, rfl⟩, W'⟩ := j_fairest (inI_x (xs (i + 1))) (inI_x (xs (i + 2))) (show inI 1 by unfold inI; omega) L xs h F C W
    simp only [i32_tI] at e1 e2
    have u1 : zaI (zw h' F1 C1) (some 1000001) (i32 (i : Int) + i32 1) 0 = some (xs (i + 1)) := sc_r (zw_sc.trans W'.2.2.2.1) hL 1 (by omega)
    have u2 : zaI (zw h' F1 C1) (some 1000001) (i32 (i : Int) + i32 2) 0 = some (xs (i + 2)) := sc_r (zw_sc.trans W'.2.2.2.1) hL 2 (by omega)
    have u3 : zaI (zw h' F1 C1) (some 1000001) (i32 (i : Int) + i32 3) 0 = some (xs (i + 3)) := sc_r (zw_sc.trans W'.2.2.2.1) hL 3 (by omega)
    have dx : decide (i32 x = i32 x) = true := decide_eq_true rfl
    refine ⟨h', F', C', ?_, W'⟩
    rw [e_Law_1273]
    simp only [zoI_s, zoR_s, zoH_s, zoL_s, zbI_s, zbV_s, zbR_s, zbL_s, zif_t, zif_f, zrz_0, zrz_1, decide_true, decide_false, r1, r2, r3, db, wv_0 W.1.1, e1, u1, u2, u3, wv_72 W'.1.1, e2, dx, e_Law_1599, s7]
theorem lc_1318 (W : wOK L xs h F C) (hL : L ≤ 3584) (hi : i + 7 ≤ L) : lgo L xs i (zr 323 1318 [yR (some 1000001), yR (some 0), yR (some 72), yI (i32 (i : Int))] [] (zw h F C)) := by
  have s7 : i32 (i : Int) + i32 7 = i32 ((i + 7 : Nat) : Int) := by rw [i32_add]; rfl
  have r1 : zaI (zw h F C) (some 1000001) (i32 (i : Int) + i32 1) 0 = some (xs (i + 1)) := sc_r (zw_sc.trans W.2.2.2.1) hL 1 (by omega)
  have r2 : zaI (zw h F C) (some 1000001) (i32 (i : Int) + i32 2) 0 = some (xs (i + 2)) := sc_r (zw_sc.trans W.2.2.2.1) hL 2 (by omega)
  have r3 : zaI (zw h F C) (some 1000001) (i32 (i : Int) + i32 3) 0 = some (xs (i + 3)) := sc_r (zw_sc.trans W.2.2.2.1) hL 3 (by omega)
  obtain ⟨x, _, h', F', C', e1, e2, ⟨F1, C1, rfl⟩, W'⟩ := j_after (inI_x (xs (i + 1))) (inI_x (xs (i + 2))) (inI_x (xs (i + 3))) L xs h F C W
  simp only [i32_tI] at e1 e2
  have u1 : zaI (zw h' F1 C1) (some 1000001) (i32 (i : Int) + i32 1) 0 = some (xs (i + 1)) := sc_r (zw_sc.trans W'.2.2.2.1) hL 1 (by omega)
  have u2 : zaI (zw h' F1 C1) (some 1000001) (i32 (i : Int) + i32 2) 0 = some (xs (i + 2)) := sc_r (zw_sc.trans W'.2.2.2.1) hL 2 (by omega)
  have u3 : zaI (zw h' F1 C1) (some 1000001) (i32 (i : Int) + i32 3) 0 = some (xs (i + 3)) := sc_r (zw_sc.trans W'.2.2.2.1) hL 3 (by omega)
  have dx : decide (i32 x = i32 x) = true := decide_eq_true rfl
  refine ⟨h', F', C', ?_, W'⟩
  rw [e_Law_1318]
  simp only [zoI_s, zoR_s, zoH_s, zoL_s, zbI_s, zbV_s, zbR_s, zbL_s, zif_t, zif_f, zrz_0, zrz_1, decide_true, decide_false, r1, r2, r3, wv_0 W.1.1, e1, u1, u2, u3, wv_72 W'.1.1, e2, dx, e_Law_1599, s7]
theorem lc_1355 (W : wOK L xs h F C) (hL : L ≤ 3584) (hi : i + 7 ≤ L) : lgo L xs i (zr 323 1355 [yR (some 1000001), yR (some 0), yR (some 72), yI (i32 (i : Int))] [] (zw h F C)) := by
  have s7 : i32 (i : Int) + i32 7 = i32 ((i + 7 : Nat) : Int) := by rw [i32_add]; rfl
  have r1 : zaI (zw h F C) (some 1000001) (i32 (i : Int) + i32 1) 0 = some (xs (i + 1)) := sc_r (zw_sc.trans W.2.2.2.1) hL 1 (by omega)
  have r2 : zaI (zw h F C) (some 1000001) (i32 (i : Int) + i32 2) 0 = some (xs (i + 2)) := sc_r (zw_sc.trans W.2.2.2.1) hL 2 (by omega)
  have r3 : zaI (zw h F C) (some 1000001) (i32 (i : Int) + i32 3) 0 = some (xs (i + 3)) := sc_r (zw_sc.trans W.2.2.2.1) hL 3 (by omega)
  have r4 : zaI (zw h F C) (some 1000001) (i32 (i : Int) + i32 4) 0 = some (xs (i + 4)) := sc_r (zw_sc.trans W.2.2.2.1) hL 4 (by omega)
  have r5 : zaI (zw h F C) (some 1000001) (i32 (i : Int) + i32 5) 0 = some (xs (i + 5)) := sc_r (zw_sc.trans W.2.2.2.1) hL 5 (by omega)
  have r6 : zaI (zw h F C) (some 1000001) (i32 (i : Int) + i32 6) 0 = some (xs (i + 6)) := sc_r (zw_sc.trans W.2.2.2.1) hL 6 (by omega)
  by_cases b : xs (i + 6) = 0
  · have db : decide (xs (i + 6) = 0) = true := decide_eq_true b
    obtain ⟨x, _, h', F', C', e1, e2, ⟨F1, C1, rfl⟩, W'⟩ := j_odds (inI_x (xs (i + 1))) (inI_x (xs (i + 2))) (inI_x (xs (i + 3))) (inI_x (xs (i + 4))) (inI_x (xs (i + 5))) (show inI 0 by unfold inI; omega) L xs h F C W
    simp only [i32_tI] at e1 e2
    have u1 : zaI (zw h' F1 C1) (some 1000001) (i32 (i : Int) + i32 1) 0 = some (xs (i + 1)) := sc_r (zw_sc.trans W'.2.2.2.1) hL 1 (by omega)
    have u2 : zaI (zw h' F1 C1) (some 1000001) (i32 (i : Int) + i32 2) 0 = some (xs (i + 2)) := sc_r (zw_sc.trans W'.2.2.2.1) hL 2 (by omega)
    have u3 : zaI (zw h' F1 C1) (some 1000001) (i32 (i : Int) + i32 3) 0 = some (xs (i + 3)) := sc_r (zw_sc.trans W'.2.2.2.1) hL 3 (by omega)
    have u4 : zaI (zw h' F1 C1) (some 1000001) (i32 (i : Int) + i32 4) 0 = some (xs (i + 4)) := sc_r (zw_sc.trans W'.2.2.2.1) hL 4 (by omega)
    have u5 : zaI (zw h' F1 C1) (some 1000001) (i32 (i : Int) + i32 5) 0 = some (xs (i + 5)) := sc_r (zw_sc.trans W'.2.2.2.1) hL 5 (by omega)
    have u6 : zaI (zw h' F1 C1) (some 1000001) (i32 (i : Int) + i32 6) 0 = some (xs (i + 6)) := sc_r (zw_sc.trans W'.2.2.2.1) hL 6 (by omega)
    have dx : decide (zcmp (i64 x) (i64 x) = 0) = true := decide_eq_true (zcmp_s _)
    refine ⟨h', F', C', ?_, W'⟩
    rw [e_Law_1355]
    simp only [zoI_s, zoR_s, zoH_s, zoL_s, zbI_s, zbV_s, zbR_s, zbL_s, zif_t, zif_f, zrz_0, zrz_1, decide_true, decide_false, r1, r2, r3, r4, r5, r6, db, wv_0 W.1.1, e1, u1, u2, u3, u4, u5, u6, wv_72 W'.1.1, e2, dx, e_Law_1599, s7]
  · have db : decide (xs (i + 6) = 0) = false := decide_eq_false b
    obtain ⟨x, _, h', F', C', e1, e2, ⟨F1, C1, rfl⟩, W'⟩ := j_odds (inI_x (xs (i + 1))) (inI_x (xs (i + 2))) (inI_x (xs (i + 3))) (inI_x (xs (i + 4))) (inI_x (xs (i + 5))) (show inI 1 by unfold inI; omega) L xs h F C W
    simp only [i32_tI] at e1 e2
    have u1 : zaI (zw h' F1 C1) (some 1000001) (i32 (i : Int) + i32 1) 0 = some (xs (i + 1)) := sc_r (zw_sc.trans W'.2.2.2.1) hL 1 (by omega)
    have u2 : zaI (zw h' F1 C1) (some 1000001) (i32 (i : Int) + i32 2) 0 = some (xs (i + 2)) := sc_r (zw_sc.trans W'.2.2.2.1) hL 2 (by omega)
    have u3 : zaI (zw h' F1 C1) (some 1000001) (i32 (i : Int) + i32 3) 0 = some (xs (i + 3)) := sc_r (zw_sc.trans W'.2.2.2.1) hL 3 (by omega)
    have u4 : zaI (zw h' F1 C1) (some 1000001) (i32 (i : Int) + i32 4) 0 = some (xs (i + 4)) := sc_r (zw_sc.trans W'.2.2.2.1) hL 4 (by omega)
    have u5 : zaI (zw h' F1 C1) (some 1000001) (i32 (i : Int) + i32 5) 0 = some (xs (i + 5)) := sc_r (zw_sc.trans W'.2.2.2.1) hL 5 (by omega)
    have u6 : zaI (zw h' F1 C1) (some 1000001) (i32 (i : Int) + i32 6) 0 = some (xs (i + 6)) := sc_r (zw_sc.trans W'.2.2.2.1) hL 6 (by omega)
    have dx : decide (zcmp (i64 x) (i64 x) = 0) = true := decide_eq_true (zcmp_s _)
    refine ⟨h', F', C', ?_, W'⟩
    rw [e_Law_1355]
    simp only [zoI_s, zoR_s, zoH_s, zoL_s, zbI_s, zbV_s, zbR_s, zbL_s, zif_t, zif_f, zrz_0, zrz_1, decide_true, decide_false, r1, r2, r3, r4, r5, r6, db, wv_0 W.1.1, e1, u1, u2, u3, u4, u5, u6, wv_72 W'.1.1, e2, dx, e_Law_1599, s7]
theorem lc_1431 (W : wOK L xs h F C) (hL : L ≤ 3584) (hi : i + 7 ≤ L) : lgo L xs i (zr 323 1431 [yR (some 1000001), yR (some 0), yR (some 72), yI (i32 (i : Int))] [] (zw h F C)) := by
  have s7 : i32 (i : Int) + i32 7 = i32 ((i + 7 : Nat) : Int) := by rw [i32_add]; rfl
  have r1 : zaI (zw h F C) (some 1000001) (i32 (i : Int) + i32 1) 0 = some (xs (i + 1)) := sc_r (zw_sc.trans W.2.2.2.1) hL 1 (by omega)
  have r2 : zaI (zw h F C) (some 1000001) (i32 (i : Int) + i32 2) 0 = some (xs (i + 2)) := sc_r (zw_sc.trans W.2.2.2.1) hL 2 (by omega)
  have r3 : zaI (zw h F C) (some 1000001) (i32 (i : Int) + i32 3) 0 = some (xs (i + 3)) := sc_r (zw_sc.trans W.2.2.2.1) hL 3 (by omega)
  by_cases b : xs (i + 3) = 0
  · have db : decide (xs (i + 3) = 0) = true := decide_eq_true b
    obtain ⟨x, _, h', F', C', e1, e2, ⟨F1, C1, rfl⟩, W'⟩ := j_owns (inI_x (xs (i + 1))) (inI_x (xs (i + 2))) (show inI 0 by unfold inI; omega) L xs h F C W
    simp only [i32_tI] at e1 e2
    have u1 : zaI (zw h' F1 C1) (some 1000001) (i32 (i : Int) + i32 1) 0 = some (xs (i + 1)) := sc_r (zw_sc.trans W'.2.2.2.1) hL 1 (by omega)
    have u2 : zaI (zw h' F1 C1) (some 1000001) (i32 (i : Int) + i32 2) 0 = some (xs (i + 2)) := sc_r (zw_sc.trans W'.2.2.2.1) hL 2 (by omega)
    have u3 : zaI (zw h' F1 C1) (some 1000001) (i32 (i : Int) + i32 3) 0 = some (xs (i + 3)) := sc_r (zw_sc.trans W'.2.2.2.1) hL 3 (by omega)
    have dx : decide (i32 x = i32 x) = true := decide_eq_true rfl
    refine ⟨h', F', C', ?_, W'⟩
    rw [e_Law_1431]
    simp only [zoI_s, zoR_s, zoH_s, zoL_s, zbI_s, zbV_s, zbR_s, zbL_s, zif_t, zif_f, zrz_0, zrz_1, decide_true, decide_false, r1, r2, r3, db, wv_0 W.1.1, e1, u1, u2, u3, wv_72 W'.1.1, e2, dx, e_Law_1599, s7]
  · have db : decide (xs (i + 3) = 0) = false := decide_eq_false b
    obtain ⟨x, _, h', F', C', e1, e2, ⟨F1, C1, rfl⟩, W'⟩ := j_owns (inI_x (xs (i + 1))) (inI_x (xs (i + 2))) (show inI 1 by unfold inI; omega) L xs h F C W
    simp only [i32_tI] at e1 e2
    have u1 : zaI (zw h' F1 C1) (some 1000001) (i32 (i : Int) + i32 1) 0 = some (xs (i + 1)) := sc_r (zw_sc.trans W'.2.2.2.1) hL 1 (by omega)
    have u2 : zaI (zw h' F1 C1) (some 1000001) (i32 (i : Int) + i32 2) 0 = some (xs (i + 2)) := sc_r (zw_sc.trans W'.2.2.2.1) hL 2 (by omega)
    have u3 : zaI (zw h' F1 C1) (some 1000001) (i32 (i : Int) + i32 3) 0 = some (xs (i + 3)) := sc_r (zw_sc.trans W'.2.2.2.1) hL 3 (by omega)
    have dx : decide (i32 x = i32 x) = true := decide_eq_true rfl
    refine ⟨h', F', C', ?_, W'⟩
    rw [e_Law_1431]
    simp only [zoI_s, zoR_s, zoH_s, zoL_s, zbI_s, zbV_s, zbR_s, zbL_s, zif_t, zif_f, zrz_0, zrz_1, decide_true, decide_false, r1, r2, r3, db, wv_0 W.1.1, e1, u1, u2, u3, wv_72 W'.1.1, e2, dx, e_Law_1599, s7]
theorem lc_1476 (W : wOK L xs h F C) (hL : L ≤ 3584) (hi : i + 7 ≤ L) : lgo L xs i (zr 323 1476 [yR (some 1000001), yR (some 0), yR (some 72), yI (i32 (i : Int))] [] (zw h F C)) := by
  have s7 : i32 (i : Int) + i32 7 = i32 ((i + 7 : Nat) : Int) := by rw [i32_add]; rfl
  have r1 : zaI (zw h F C) (some 1000001) (i32 (i : Int) + i32 1) 0 = some (xs (i + 1)) := sc_r (zw_sc.trans W.2.2.2.1) hL 1 (by omega)
  have r2 : zaI (zw h F C) (some 1000001) (i32 (i : Int) + i32 2) 0 = some (xs (i + 2)) := sc_r (zw_sc.trans W.2.2.2.1) hL 2 (by omega)
  obtain ⟨x, _, h', F', C', e1, e2, ⟨F1, C1, rfl⟩, W'⟩ := j_wets (inI_x (xs (i + 1))) (inI_x (xs (i + 2))) L xs h F C W
  simp only [i32_tI] at e1 e2
  have u1 : zaI (zw h' F1 C1) (some 1000001) (i32 (i : Int) + i32 1) 0 = some (xs (i + 1)) := sc_r (zw_sc.trans W'.2.2.2.1) hL 1 (by omega)
  have u2 : zaI (zw h' F1 C1) (some 1000001) (i32 (i : Int) + i32 2) 0 = some (xs (i + 2)) := sc_r (zw_sc.trans W'.2.2.2.1) hL 2 (by omega)
  have dx : decide (i32 x = i32 x) = true := decide_eq_true rfl
  refine ⟨h', F', C', ?_, W'⟩
  rw [e_Law_1476]
  simp only [zoI_s, zoR_s, zoH_s, zoL_s, zbI_s, zbV_s, zbR_s, zbL_s, zif_t, zif_f, zrz_0, zrz_1, decide_true, decide_false, r1, r2, wv_0 W.1.1, e1, u1, u2, wv_72 W'.1.1, e2, dx, e_Law_1599, s7]
theorem lc_1503 (W : wOK L xs h F C) (hL : L ≤ 3584) (hi : i + 7 ≤ L) : lgo L xs i (zr 323 1503 [yR (some 1000001), yR (some 0), yR (some 72), yI (i32 (i : Int))] [] (zw h F C)) := by
  have s7 : i32 (i : Int) + i32 7 = i32 ((i + 7 : Nat) : Int) := by rw [i32_add]; rfl
  have r1 : zaI (zw h F C) (some 1000001) (i32 (i : Int) + i32 1) 0 = some (xs (i + 1)) := sc_r (zw_sc.trans W.2.2.2.1) hL 1 (by omega)
  have r2 : zaI (zw h F C) (some 1000001) (i32 (i : Int) + i32 2) 0 = some (xs (i + 2)) := sc_r (zw_sc.trans W.2.2.2.1) hL 2 (by omega)
  have r3 : zaI (zw h F C) (some 1000001) (i32 (i : Int) + i32 3) 0 = some (xs (i + 3)) := sc_r (zw_sc.trans W.2.2.2.1) hL 3 (by omega)
  by_cases b : xs (i + 3) = 0
  · have db : decide (xs (i + 3) = 0) = true := decide_eq_true b
    obtain ⟨x, _, h', F', C', e1, e2, ⟨F1, C1, rfl⟩, W'⟩ := j_clearest (inI_x (xs (i + 1))) (inI_x (xs (i + 2))) (show inI 0 by unfold inI; omega) L xs h F C W
    simp only [i32_tI] at e1 e2
    have u1 : zaI (zw h' F1 C1) (some 1000001) (i32 (i : Int) + i32 1) 0 = some (xs (i + 1)) := sc_r (zw_sc.trans W'.2.2.2.1) hL 1 (by omega)
    have u2 : zaI (zw h' F1 C1) (some 1000001) (i32 (i : Int) + i32 2) 0 = some (xs (i + 2)) := sc_r (zw_sc.trans W'.2.2.2.1) hL 2 (by omega)
    have u3 : zaI (zw h' F1 C1) (some 1000001) (i32 (i : Int) + i32 3) 0 = some (xs (i + 3)) := sc_r (zw_sc.trans W'.2.2.2.1) hL 3 (by omega)
    have dx : decide (i32 x = i32 x) = true := decide_eq_true rfl
    refine ⟨h', F', C', ?_, W'⟩
    rw [e_Law_1503]
    simp only [zoI_s, zoR_s, zoH_s, zoL_s, zbI_s, zbV_s, zbR_s, zbL_s, zif_t, zif_f, zrz_0, zrz_1, decide_true, decide_false, r1, r2, r3, db, wv_0 W.1.1, e1, u1, u2, u3, wv_72 W'.1.1, e2, dx, e_Law_1599, s7]
  · have db : decide (xs (i + 3) = 0) = false := decide_eq_false b
    obtain ⟨x, _, h', F', C', e1, e2, ⟨F1, C1, rfl⟩, W'⟩ := j_clearest (inI_x (xs (i + 1))) (inI_x (xs (i + 2))) (show inI 1 by unfold inI; omega) L xs h F C W
    simp only [i32_tI] at e1 e2
    have u1 : zaI (zw h' F1 C1) (some 1000001) (i32 (i : Int) + i32 1) 0 = some (xs (i + 1)) := sc_r (zw_sc.trans W'.2.2.2.1) hL 1 (by omega)
    have u2 : zaI (zw h' F1 C1) (some 1000001) (i32 (i : Int) + i32 2) 0 = some (xs (i + 2)) := sc_r (zw_sc.trans W'.2.2.2.1) hL 2 (by omega)
    have u3 : zaI (zw h' F1 C1) (some 1000001) (i32 (i : Int) + i32 3) 0 = some (xs (i + 3)) := sc_r (zw_sc.trans W'.2.2.2.1) hL 3 (by omega)
    have dx : decide (i32 x = i32 x) = true := decide_eq_true rfl
    refine ⟨h', F', C', ?_, W'⟩
    rw [e_Law_1503]
    simp only [zoI_s, zoR_s, zoH_s, zoL_s, zbI_s, zbV_s, zbR_s, zbL_s, zif_t, zif_f, zrz_0, zrz_1, decide_true, decide_false, r1, r2, r3, db, wv_0 W.1.1, e1, u1, u2, u3, wv_72 W'.1.1, e2, dx, e_Law_1599, s7]
theorem lc_1548 (W : wOK L xs h F C) (hL : L ≤ 3584) (hi : i + 7 ≤ L) : lgo L xs i (zr 323 1548 [yR (some 1000001), yR (some 0), yR (some 72), yI (i32 (i : Int))] [] (zw h F C)) := by
  have s7 : i32 (i : Int) + i32 7 = i32 ((i + 7 : Nat) : Int) := by rw [i32_add]; rfl
  have r1 : zaI (zw h F C) (some 1000001) (i32 (i : Int) + i32 1) 0 = some (xs (i + 1)) := sc_r (zw_sc.trans W.2.2.2.1) hL 1 (by omega)
  obtain ⟨x, _, h', F', C', e1, e2, ⟨F1, C1, rfl⟩, W'⟩ := j_countQ (inI_x (xs (i + 1))) L xs h F C W
  simp only [i32_tI] at e1 e2
  have u1 : zaI (zw h' F1 C1) (some 1000001) (i32 (i : Int) + i32 1) 0 = some (xs (i + 1)) := sc_r (zw_sc.trans W'.2.2.2.1) hL 1 (by omega)
  have dx : decide (i32 x = i32 x) = true := decide_eq_true rfl
  refine ⟨h', F', C', ?_, W'⟩
  rw [e_Law_1548]
  simp only [zoI_s, zoR_s, zoH_s, zoL_s, zbI_s, zbV_s, zbR_s, zbL_s, zif_t, zif_f, zrz_0, zrz_1, decide_true, decide_false, r1, wv_0 W.1.1, e1, u1, wv_72 W'.1.1, e2, dx, e_Law_1599, s7]
theorem lc_1565 (W : wOK L xs h F C) (hL : L ≤ 3584) (hi : i + 7 ≤ L) : lgo L xs i (zr 323 1565 [yR (some 1000001), yR (some 0), yR (some 72), yI (i32 (i : Int))] [] (zw h F C)) := by
  have s7 : i32 (i : Int) + i32 7 = i32 ((i + 7 : Nat) : Int) := by rw [i32_add]; rfl
  have r1 : zaI (zw h F C) (some 1000001) (i32 (i : Int) + i32 1) 0 = some (xs (i + 1)) := sc_r (zw_sc.trans W.2.2.2.1) hL 1 (by omega)
  obtain ⟨x, _, h', F', C', e1, e2, ⟨F1, C1, rfl⟩, W'⟩ := j_image (inI_x (xs (i + 1))) L xs h F C W
  simp only [i32_tI] at e1 e2
  have u1 : zaI (zw h' F1 C1) (some 1000001) (i32 (i : Int) + i32 1) 0 = some (xs (i + 1)) := sc_r (zw_sc.trans W'.2.2.2.1) hL 1 (by omega)
  have dx : decide (i32 x = i32 x) = true := decide_eq_true rfl
  refine ⟨h', F', C', ?_, W'⟩
  rw [e_Law_1565]
  simp only [zoI_s, zoR_s, zoH_s, zoL_s, zbI_s, zbV_s, zbR_s, zbL_s, zif_t, zif_f, zrz_0, zrz_1, decide_true, decide_false, r1, wv_0 W.1.1, e1, u1, wv_72 W'.1.1, e2, dx, e_Law_1599, s7]
theorem lc_1582 (W : wOK L xs h F C) (hL : L ≤ 3584) (hi : i + 7 ≤ L) : lgo L xs i (zr 323 1582 [yR (some 1000001), yR (some 0), yR (some 72), yI (i32 (i : Int))] [] (zw h F C)) := by
  have s7 : i32 (i : Int) + i32 7 = i32 ((i + 7 : Nat) : Int) := by rw [i32_add]; rfl
  have r1 : zaI (zw h F C) (some 1000001) (i32 (i : Int) + i32 1) 0 = some (xs (i + 1)) := sc_r (zw_sc.trans W.2.2.2.1) hL 1 (by omega)
  obtain ⟨x, _, h', F', C', e1, e2, ⟨F1, C1, rfl⟩, W'⟩ := j_again (inI_x (xs (i + 1))) L xs h F C W
  simp only [i32_tI] at e1 e2
  have u1 : zaI (zw h' F1 C1) (some 1000001) (i32 (i : Int) + i32 1) 0 = some (xs (i + 1)) := sc_r (zw_sc.trans W'.2.2.2.1) hL 1 (by omega)
  have dx : decide (i32 x = i32 x) = true := decide_eq_true rfl
  refine ⟨h', F', C', ?_, W'⟩
  rw [e_Law_1582]
  simp only [zoI_s, zoR_s, zoH_s, zoL_s, zbI_s, zbV_s, zbR_s, zbL_s, zif_t, zif_f, zrz_0, zrz_1, decide_true, decide_false, r1, wv_0 W.1.1, e1, u1, wv_72 W'.1.1, e2, dx, e_Law_1599, s7]
end LC
