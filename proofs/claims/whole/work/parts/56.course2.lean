/-! a year's deeds -/
def doP (D Y : Int → Int) (X : Nat → Int → Int) (k : Int) : Prop := (Y (1 + 6 * k) = 0 → sndP D X (Y (2 + 6 * k)) ∧ mayP D X (Y (3 + 6 * k)) ∧ (0 ≤ Y (4 + 6 * k) ∧ Y (4 + 6 * k) < D 2)) ∧ (Y (1 + 6 * k) = 1 → sndP D X (Y (2 + 6 * k)) ∧ sndP D X (Y (3 + 6 * k)) ∧ mayP D X (Y (4 + 6 * k)) ∧ mayP D X (Y (5 + 6 * k)) ∧ (0 ≤ Y (6 + 6 * k) ∧ Y (6 + 6 * k) < D 2)) ∧ (Y (1 + 6 * k) = 2 ∨ Y (1 + 6 * k) = 3 → sndP D X (Y (2 + 6 * k)))
def doX (D Y : Int → Int) (X : Nat → Int → Int) (k : Int) : Nat → Int → Int := if Y (1 + 6 * k) = 0 then askX D X (Y (2 + 6 * k)) (Y (3 + 6 * k)) (Y (4 + 6 * k)) else if Y (1 + 6 * k) = 1 then dueX D X (Y (2 + 6 * k)) (Y (3 + 6 * k)) (Y (4 + 6 * k)) (Y (5 + 6 * k)) (Y (6 + 6 * k)) else if Y (1 + 6 * k) = 2 then zsC X 1 (Y (2 + 6 * k)) (wetS (X 1 (Y (2 + 6 * k)))) else if Y (1 + 6 * k) = 3 then zsC X 2 (Y (2 + 6 * k)) ((X 2 (Y (2 + 6 * k)) + 1) % 8) else if Y (1 + 6 * k) = 4 then zsC X 0 6 (Y (2 + 6 * k)) else slpX D X
def begX (D : Int → Int) : Nat → Int → Int := fun c j => if c = 0 then (if j = 6 then D 3 else if j = 7 then -1 else if j = 70 then -1 else if j = 81 then 1 else 0) else if c = 1 then D (4 + 2 * j) else if c = 2 then D (5 + 2 * j) else if c = 4 then -1 else 0
noncomputable def runX (D Y : Int → Int) (n : Int) : Nat → (Nat → Int → Int) → (Nat → Int → Int)
  | 0, X => X
  | j + 1, X => @ite _ (X 0 71 < n ∧ X 0 71 < Y 0 ∧ doP D Y X (X 0 71)) (Classical.propDecidable _) (runX D Y n j (zsC (doX D Y X (X 0 71)) 0 71 (X 0 71 + 1))) X
theorem runX_t {D Y : Int → Int} {n : Int} {j : Nat} {X : Nat → Int → Int} (hc : X 0 71 < n ∧ X 0 71 < Y 0 ∧ doP D Y X (X 0 71)) : runX D Y n (j + 1) X = runX D Y n j (zsC (doX D Y X (X 0 71)) 0 71 (X 0 71 + 1)) := by
  rw [runX, if_pos hc]
theorem runX_f {D Y : Int → Int} {n : Int} {j : Nat} {X : Nat → Int → Int} (hc : ¬ (X 0 71 < n ∧ X 0 71 < Y 0 ∧ doP D Y X (X 0 71))) : runX D Y n j X = X := by
  cases j with
  | zero => rfl
  | succ j => rw [runX, if_neg hc]
theorem askX_71 (D : Int → Int) (X : Nat → Int → Int) (r p q : Int) : askX D X r p q 0 71 = X 0 71 := by
  have h2 : ∀ m, ask2 X r p q m 0 71 = X 0 71 := by
    intro m
    unfold ask2
    split
    · rfl
    · split <;> rfl
  unfold askX ask3
  split
  · split
    · show crkX (ask2 X r p q (blwN D X r p q)) r 0 71 = X 0 71
      unfold crkX
      split
      · exact h2 _
      · exact h2 _
    · exact h2 _
  · exact h2 _
theorem dueX_71 (D : Int → Int) (X : Nat → Int → Int) (a b p s q : Int) : dueX D X a b p s q 0 71 = X 0 71 := by
  unfold dueX
  split
  · rfl
  · split <;> rfl
theorem doX_71 (D Y : Int → Int) (X : Nat → Int → Int) (k : Int) : doX D Y X k 0 71 = X 0 71 := by
  unfold doX
  split
  · exact askX_71 _ _ _ _ _
  · split
    · exact dueX_71 _ _ _ _ _ _ _
    · split
      · rfl
      · split
        · rfl
        · split <;> rfl
theorem askX_82 (D : Int → Int) (X : Nat → Int → Int) (r p q : Int) : askX D X r p q 0 82 = X 0 82 := by
  have h2 : ∀ m, ask2 X r p q m 0 82 = X 0 82 := by
    intro m
    unfold ask2
    split
    · rfl
    · split <;> rfl
  unfold askX ask3
  split
  · split
    · show crkX (ask2 X r p q (blwN D X r p q)) r 0 82 = X 0 82
      unfold crkX
      split
      · exact h2 _
      · exact h2 _
    · exact h2 _
  · exact h2 _
theorem dueX_82 (D : Int → Int) (X : Nat → Int → Int) (a b p s q : Int) : dueX D X a b p s q 0 82 = X 0 82 := by
  unfold dueX
  split
  · rfl
  · split <;> rfl
theorem doX_82 (D Y : Int → Int) (X : Nat → Int → Int) (k : Int) : doX D Y X k 0 82 = X 0 82 := by
  unfold doX
  split
  · exact askX_82 _ _ _ _ _
  · split
    · exact dueX_82 _ _ _ _ _ _ _
    · split
      · rfl
      · split
        · rfl
        · split <;> rfl
theorem askX_81 (D : Int → Int) (X : Nat → Int → Int) (r p q : Int) : askX D X r p q 0 81 = X 0 81 := by
  have h2 : ∀ m, ask2 X r p q m 0 81 = X 0 81 := by
    intro m
    unfold ask2
    split
    · rfl
    · split <;> rfl
  unfold askX ask3
  split
  · split
    · show crkX (ask2 X r p q (blwN D X r p q)) r 0 81 = X 0 81
      unfold crkX
      split
      · exact h2 _
      · exact h2 _
    · exact h2 _
  · exact h2 _
theorem dueX_81 (D : Int → Int) (X : Nat → Int → Int) (a b p s q : Int) : dueX D X a b p s q 0 81 = X 0 81 := by
  unfold dueX
  split
  · rfl
  · split <;> rfl
theorem doX_81 (D Y : Int → Int) (X : Nat → Int → Int) (k : Int) : doX D Y X k 0 81 = X 0 81 := by
  unfold doX
  split
  · exact askX_81 _ _ _ _ _
  · split
    · exact dueX_81 _ _ _ _ _ _ _
    · split
      · rfl
      · split
        · rfl
        · split <;> rfl
theorem askX_80 (D : Int → Int) (X : Nat → Int → Int) (r p q : Int) : askX D X r p q 0 80 = X 0 80 := by
  have h2 : ∀ m, ask2 X r p q m 0 80 = X 0 80 := by
    intro m
    unfold ask2
    split
    · rfl
    · split <;> rfl
  unfold askX ask3
  split
  · split
    · show crkX (ask2 X r p q (blwN D X r p q)) r 0 80 = X 0 80
      unfold crkX
      split
      · exact h2 _
      · exact h2 _
    · exact h2 _
  · exact h2 _
theorem dueX_80 (D : Int → Int) (X : Nat → Int → Int) (a b p s q : Int) : dueX D X a b p s q 0 80 = X 0 80 := by
  unfold dueX
  split
  · rfl
  · split <;> rfl
theorem doX_80 (D Y : Int → Int) (X : Nat → Int → Int) (k : Int) : doX D Y X k 0 80 = X 0 80 := by
  unfold doX
  split
  · exact askX_80 _ _ _ _ _
  · split
    · exact dueX_80 _ _ _ _ _ _ _
    · split
      · rfl
      · split
        · rfl
        · split <;> rfl
theorem cOK.beg {D : Int → Int} (O : dOK D) : cOK D (begX D) 0 := by
  have z3 := O.2.2.2.1
  exact ⟨⟨Int.le_refl 0, Int.le_refl 0⟩, ⟨Int.le_refl 0, show (0 : Int) < 64 by decide⟩, ⟨Int.le_refl 0, Int.le_refl 0⟩, ⟨Int.le_refl 0, Int.le_refl 0⟩, ⟨Int.le_refl 0, Int.le_refl 0⟩, ⟨Int.le_refl 0, Int.le_refl 0⟩, z3, ⟨show (-1 : Int) ≤ -1 by decide, show (-1 : Int) ≤ 7 by decide⟩, ⟨show (-1 : Int) ≤ -1 by decide, show (-1 : Int) ≤ 0 by decide⟩, ⟨Int.le_refl 0, Int.le_refl 0⟩, fun r r0 r1 => ⟨O.2.2.2.2.1 r r0 r1, O.2.2.2.2.2.1 r r0 r1⟩, fun p _ _ => ⟨⟨Int.le_refl 0, show (0 : Int) ≤ 3 by decide⟩, ⟨Int.le_refl 0, Int.le_refl 0⟩, fun _ => rfl⟩, fun q _ _ => ⟨⟨show (-1 : Int) ≤ -1 by decide, show (-1 : Int) ≤ 1 by decide⟩, ⟨Int.le_refl 0, Int.le_refl 0⟩, fun _ => rfl⟩⟩
theorem cOK.doK {D Y : Int → Int} {X : Nat → Int → Int} {B k : Int} (O : dOK D) (Oy : yOK Y) (K : cOK D X B) (k0 : 0 ≤ k) (k1 : k < Y 0) (hd : doP D Y X k) : cOK D (doX D Y X k) (B + 1) := by
  have yr := Oy.2 k k0 k1
  unfold doX
  split
  · rename_i c
    have g := hd.1 c
    exact K.ask O g.1 g.2.1 g.2.2.1 g.2.2.2
  · split
    · rename_i c
      have g := hd.2.1 c
      exact K.due O g.1 g.2.1 g.2.2.1 g.2.2.2.1 (yr.2.2.2.2.2.2.2 c).2 g.2.2.2.2.1 g.2.2.2.2.2
    · split
      · rename_i c
        have g := hd.2.2 (Or.inl c)
        have kr := (K.2.2.2.2.2.2.2.2.2.2.1 _ g.1.1 g.1.2).1
        exact (K.mono (by omega)).w1 (wetS_rng kr.1 kr.2)
      · split
        · exact (K.mono (by omega)).w2 (by omega)
        · split
          · rename_i c
            exact (K.mono (by omega)).i6 (by have := yr.2.2.2.2.2.2.1 c; omega)
          · exact K.slp
section C3
variable {h : zHeap} {F0 F : Nat → Nat → Int} {C0 C X : Nat → Int → Int} {a y : Nat} {D Y : Int → Int} {B : Int}
theorem c_apply (S : St h) (H : duS h a) (V : duV F0 C0 a D) (O : dOK D) (ha : a ≤ 28) (Hy : yeS h y) (Vy : yeV F0 C0 y Y) (Oy : yOK Y) (hy : y ≤ 33) (R : crC F0 C0 D F C X) (K : cOK D X B) {k : Int} (k0 : 0 ≤ k) (k1 : k < Y 0) (hB : B ≤ 1000) (hd : doP D Y X k) : ∃ F' C', zc 14 [zR (some 50), zR (some a), zR (some y), zI (i32 k)] (zw h F C) = some (zI (i32 1), zw h F' C') ∧ crC F0 C0 D F' C' (doX D Y X k) := by
  have Vy1 := Vy.tq R.1 hy
  have yr := Oy.2 k k0 k1
  have g0 := c_cell Hy Vy1 Oy (w := 0) (j := 1 + 6 * k) k0 k1 (by omega) (by omega) (by omega)
  have g1 := c_cell Hy Vy1 Oy (w := 1) (j := 2 + 6 * k) k0 k1 (by omega) (by omega) (by omega)
  have g2 := c_cell Hy Vy1 Oy (w := 2) (j := 3 + 6 * k) k0 k1 (by omega) (by omega) (by omega)
  have g3 := c_cell Hy Vy1 Oy (w := 3) (j := 4 + 6 * k) k0 k1 (by omega) (by omega) (by omega)
  unfold doX
  rw [e_Course_apply]
  rcases (show Y (1 + 6 * k) = 0 ∨ Y (1 + 6 * k) = 1 ∨ Y (1 + 6 * k) = 2 ∨ Y (1 + 6 * k) = 3 ∨ Y (1 + 6 * k) = 4 ∨ Y (1 + 6 * k) = 5 by omega) with c | c | c | c | c | c
  · rw [if_pos c]
    have g := hd.1 c
    obtain ⟨F', C', e, R'⟩ := c_ask S H V O ha R K g.1 g.2.1 g.2.2.1 g.2.2.2 hB
    refine ⟨F', C', ?_, R'⟩
    simp (disch := omega) only [if_true, if_false, not_true_eq_false, not_false_eq_true, zoI_s, zoR_s, zoH_s, zoL_s, zbI_s, zbV_s, zbR_s, zbL_s, zif_dec, i32_0, ne_eq, i32_lt, i32_le, i32_eq, i32_add, i32_mul, i32_sub, i32_neg, zrz_0, zrz_1, zif_t, zif_f, zsF_s, zsF_k, zsF_a, zsC_s, zsC_a, zsC_i, zsW_s, zsW_a, Int.add_zero, Int.zero_add, true_and, false_and, and_false, Bool.false_eq_true, decide_true, decide_false, Bool.true_and, Bool.false_and, Bool.true_or, Bool.false_or, sub1, and_true, if_pos, if_neg, wv_50 S, wr_66 S, wr_67 S, wr_68 S, wr_69 S, wr_70 S, wr_71 S, wg_64 S, wp_64 S, wg_65 S, wp_65 S, wg_72 S, wp_72 S, wg_73 S, wp_73 S, wg_74 S, wp_74 S, wg_75 S, wp_75 S, wg_76 S, wp_76 S, wg_77 S, wp_77 S, wg_78 S, wp_78 S, wg_79 S, wp_79 S, wg_80 S, wp_80 S, yv Hy, g0, g1, g2, g3, c, e]
  · rw [if_neg (by omega), if_pos c]
    have g := hd.2.1 c
    obtain ⟨F', C', e, R'⟩ := c_duet S H V O ha Hy Vy Oy hy R K k0 k1 rfl rfl rfl rfl rfl g.1 g.2.1 g.2.2.1 g.2.2.2.1 (yr.2.2.2.2.2.2.2 c).1 (yr.2.2.2.2.2.2.2 c).2 g.2.2.2.2.1 g.2.2.2.2.2 hB
    refine ⟨F', C', ?_, R'⟩
    simp (disch := omega) only [if_true, if_false, not_true_eq_false, not_false_eq_true, zoI_s, zoR_s, zoH_s, zoL_s, zbI_s, zbV_s, zbR_s, zbL_s, zif_dec, i32_0, ne_eq, i32_lt, i32_le, i32_eq, i32_add, i32_mul, i32_sub, i32_neg, zrz_0, zrz_1, zif_t, zif_f, zsF_s, zsF_k, zsF_a, zsC_s, zsC_a, zsC_i, zsW_s, zsW_a, Int.add_zero, Int.zero_add, true_and, false_and, and_false, Bool.false_eq_true, decide_true, decide_false, Bool.true_and, Bool.false_and, Bool.true_or, Bool.false_or, sub1, and_true, if_pos, if_neg, wv_50 S, wr_66 S, wr_67 S, wr_68 S, wr_69 S, wr_70 S, wr_71 S, wg_64 S, wp_64 S, wg_65 S, wp_65 S, wg_72 S, wp_72 S, wg_73 S, wp_73 S, wg_74 S, wp_74 S, wg_75 S, wp_75 S, wg_76 S, wp_76 S, wg_77 S, wp_77 S, wg_78 S, wp_78 S, wg_79 S, wp_79 S, wg_80 S, wp_80 S, yv Hy, g0, g1, g2, g3, c, e]
  · rw [if_neg (by omega), if_neg (by omega), if_pos c]
    obtain ⟨C', e, R'⟩ := c_moisten S H V O ha R K (hd.2.2 (Or.inl c))
    refine ⟨F, C', ?_, R'⟩
    simp (disch := omega) only [if_true, if_false, not_true_eq_false, not_false_eq_true, zoI_s, zoR_s, zoH_s, zoL_s, zbI_s, zbV_s, zbR_s, zbL_s, zif_dec, i32_0, ne_eq, i32_lt, i32_le, i32_eq, i32_add, i32_mul, i32_sub, i32_neg, zrz_0, zrz_1, zif_t, zif_f, zsF_s, zsF_k, zsF_a, zsC_s, zsC_a, zsC_i, zsW_s, zsW_a, Int.add_zero, Int.zero_add, true_and, false_and, and_false, Bool.false_eq_true, decide_true, decide_false, Bool.true_and, Bool.false_and, Bool.true_or, Bool.false_or, sub1, and_true, if_pos, if_neg, wv_50 S, wr_66 S, wr_67 S, wr_68 S, wr_69 S, wr_70 S, wr_71 S, wg_64 S, wp_64 S, wg_65 S, wp_65 S, wg_72 S, wp_72 S, wg_73 S, wp_73 S, wg_74 S, wp_74 S, wg_75 S, wp_75 S, wg_76 S, wp_76 S, wg_77 S, wp_77 S, wg_78 S, wp_78 S, wg_79 S, wp_79 S, wg_80 S, wp_80 S, yv Hy, g0, g1, g2, g3, c, e]
  · rw [if_neg (by omega), if_neg (by omega), if_neg (by omega), if_pos c]
    obtain ⟨C', e, R'⟩ := c_trim S H V O ha R K (hd.2.2 (Or.inr c))
    refine ⟨F, C', ?_, R'⟩
    simp (disch := omega) only [if_true, if_false, not_true_eq_false, not_false_eq_true, zoI_s, zoR_s, zoH_s, zoL_s, zbI_s, zbV_s, zbR_s, zbL_s, zif_dec, i32_0, ne_eq, i32_lt, i32_le, i32_eq, i32_add, i32_mul, i32_sub, i32_neg, zrz_0, zrz_1, zif_t, zif_f, zsF_s, zsF_k, zsF_a, zsC_s, zsC_a, zsC_i, zsW_s, zsW_a, Int.add_zero, Int.zero_add, true_and, false_and, and_false, Bool.false_eq_true, decide_true, decide_false, Bool.true_and, Bool.false_and, Bool.true_or, Bool.false_or, sub1, and_true, if_pos, if_neg, wv_50 S, wr_66 S, wr_67 S, wr_68 S, wr_69 S, wr_70 S, wr_71 S, wg_64 S, wp_64 S, wg_65 S, wp_65 S, wg_72 S, wp_72 S, wg_73 S, wp_73 S, wg_74 S, wp_74 S, wg_75 S, wp_75 S, wg_76 S, wp_76 S, wg_77 S, wp_77 S, wg_78 S, wp_78 S, wg_79 S, wp_79 S, wg_80 S, wp_80 S, yv Hy, g0, g1, g2, g3, c, e]
  · rw [if_neg (by omega), if_neg (by omega), if_neg (by omega), if_neg (by omega), if_pos c]
    refine ⟨_, C, ?_, R.f78 _⟩
    simp (disch := omega) only [if_true, if_false, not_true_eq_false, not_false_eq_true, zoI_s, zoR_s, zoH_s, zoL_s, zbI_s, zbV_s, zbR_s, zbL_s, zif_dec, i32_0, ne_eq, i32_lt, i32_le, i32_eq, i32_add, i32_mul, i32_sub, i32_neg, zrz_0, zrz_1, zif_t, zif_f, zsF_s, zsF_k, zsF_a, zsC_s, zsC_a, zsC_i, zsW_s, zsW_a, Int.add_zero, Int.zero_add, true_and, false_and, and_false, Bool.false_eq_true, decide_true, decide_false, Bool.true_and, Bool.false_and, Bool.true_or, Bool.false_or, sub1, and_true, if_pos, if_neg, wv_50 S, wr_66 S, wr_67 S, wr_68 S, wr_69 S, wr_70 S, wr_71 S, wg_64 S, wp_64 S, wg_65 S, wp_65 S, wg_72 S, wp_72 S, wg_73 S, wp_73 S, wg_74 S, wp_74 S, wg_75 S, wp_75 S, wg_76 S, wp_76 S, wg_77 S, wp_77 S, wg_78 S, wp_78 S, wg_79 S, wp_79 S, wg_80 S, wp_80 S, yv Hy, g0, g1, g2, g3, c]
  · rw [if_neg (by omega), if_neg (by omega), if_neg (by omega), if_neg (by omega), if_neg (by omega)]
    obtain ⟨F', C', e, R'⟩ := c_sleep S H V O ha R K hB
    refine ⟨F', C', ?_, R'⟩
    simp (disch := omega) only [if_true, if_false, not_true_eq_false, not_false_eq_true, zoI_s, zoR_s, zoH_s, zoL_s, zbI_s, zbV_s, zbR_s, zbL_s, zif_dec, i32_0, ne_eq, i32_lt, i32_le, i32_eq, i32_add, i32_mul, i32_sub, i32_neg, zrz_0, zrz_1, zif_t, zif_f, zsF_s, zsF_k, zsF_a, zsC_s, zsC_a, zsC_i, zsW_s, zsW_a, Int.add_zero, Int.zero_add, true_and, false_and, and_false, Bool.false_eq_true, decide_true, decide_false, Bool.true_and, Bool.false_and, Bool.true_or, Bool.false_or, sub1, and_true, if_pos, if_neg, wv_50 S, wr_66 S, wr_67 S, wr_68 S, wr_69 S, wr_70 S, wr_71 S, wg_64 S, wp_64 S, wg_65 S, wp_65 S, wg_72 S, wp_72 S, wg_73 S, wp_73 S, wg_74 S, wp_74 S, wg_75 S, wp_75 S, wg_76 S, wp_76 S, wg_77 S, wp_77 S, wg_78 S, wp_78 S, wg_79 S, wp_79 S, wg_80 S, wp_80 S, yv Hy, g0, g1, g2, g3, c, e]
theorem c_apply0 (S : St h) (H : duS h a) (V : duV F0 C0 a D) (O : dOK D) (ha : a ≤ 28) (Hy : yeS h y) (Vy : yeV F0 C0 y Y) (Oy : yOK Y) (hy : y ≤ 33) (R : crC F0 C0 D F C X) (K : cOK D X B) {k : Int} (k0 : 0 ≤ k) (k1 : k < Y 0) (hn : ¬ doP D Y X k) : zc 14 [zR (some 50), zR (some a), zR (some y), zI (i32 k)] (zw h F C) = some (zI (i32 0), zw h F C) := by
  have Vy1 := Vy.tq R.1 hy
  have yr := Oy.2 k k0 k1
  have g0 := c_cell Hy Vy1 Oy (w := 0) (j := 1 + 6 * k) k0 k1 (by omega) (by omega) (by omega)
  have g1 := c_cell Hy Vy1 Oy (w := 1) (j := 2 + 6 * k) k0 k1 (by omega) (by omega) (by omega)
  have g2 := c_cell Hy Vy1 Oy (w := 2) (j := 3 + 6 * k) k0 k1 (by omega) (by omega) (by omega)
  have g3 := c_cell Hy Vy1 Oy (w := 3) (j := 4 + 6 * k) k0 k1 (by omega) (by omega) (by omega)
  rw [e_Course_apply]
  rcases (show Y (1 + 6 * k) = 0 ∨ Y (1 + 6 * k) = 1 ∨ Y (1 + 6 * k) = 2 ∨ Y (1 + 6 * k) = 3 ∨ Y (1 + 6 * k) = 4 ∨ Y (1 + 6 * k) = 5 by omega) with c | c | c | c | c | c
  · have e := c_ask0 S H V O ha R K (r := Y (2 + 6 * k)) (p := Y (3 + 6 * k)) (q := Y (4 + 6 * k)) (by omega) (by omega) (by omega) (by omega) (by omega) (by omega) (fun z => hn ⟨fun _ => z, fun c2 => by omega, fun c2 => by omega⟩)
    simp (disch := omega) only [if_true, if_false, not_true_eq_false, not_false_eq_true, zoI_s, zoR_s, zoH_s, zoL_s, zbI_s, zbV_s, zbR_s, zbL_s, zif_dec, i32_0, ne_eq, i32_lt, i32_le, i32_eq, i32_add, i32_mul, i32_sub, i32_neg, zrz_0, zrz_1, zif_t, zif_f, zsF_s, zsF_k, zsF_a, zsC_s, zsC_a, zsC_i, zsW_s, zsW_a, Int.add_zero, Int.zero_add, true_and, false_and, and_false, Bool.false_eq_true, decide_true, decide_false, Bool.true_and, Bool.false_and, Bool.true_or, Bool.false_or, sub1, and_true, if_pos, if_neg, wv_50 S, wr_66 S, wr_67 S, wr_68 S, wr_69 S, wr_70 S, wr_71 S, wg_64 S, wp_64 S, wg_65 S, wp_65 S, wg_72 S, wp_72 S, wg_73 S, wp_73 S, wg_74 S, wp_74 S, wg_75 S, wp_75 S, wg_76 S, wp_76 S, wg_77 S, wp_77 S, wg_78 S, wp_78 S, wg_79 S, wp_79 S, wg_80 S, wp_80 S, yv Hy, g0, g1, g2, g3, c, e]
  · have e := c_duet0 S H V O ha Hy Vy Oy hy R K k0 k1 rfl rfl rfl rfl rfl (fun z => hn ⟨fun c2 => by omega, fun _ => z, fun c2 => by omega⟩)
    simp (disch := omega) only [if_true, if_false, not_true_eq_false, not_false_eq_true, zoI_s, zoR_s, zoH_s, zoL_s, zbI_s, zbV_s, zbR_s, zbL_s, zif_dec, i32_0, ne_eq, i32_lt, i32_le, i32_eq, i32_add, i32_mul, i32_sub, i32_neg, zrz_0, zrz_1, zif_t, zif_f, zsF_s, zsF_k, zsF_a, zsC_s, zsC_a, zsC_i, zsW_s, zsW_a, Int.add_zero, Int.zero_add, true_and, false_and, and_false, Bool.false_eq_true, decide_true, decide_false, Bool.true_and, Bool.false_and, Bool.true_or, Bool.false_or, sub1, and_true, if_pos, if_neg, wv_50 S, wr_66 S, wr_67 S, wr_68 S, wr_69 S, wr_70 S, wr_71 S, wg_64 S, wp_64 S, wg_65 S, wp_65 S, wg_72 S, wp_72 S, wg_73 S, wp_73 S, wg_74 S, wp_74 S, wg_75 S, wp_75 S, wg_76 S, wp_76 S, wg_77 S, wp_77 S, wg_78 S, wp_78 S, wg_79 S, wp_79 S, wg_80 S, wp_80 S, yv Hy, g0, g1, g2, g3, c, e]
  · have e := c_moisten0 S H V O ha R K (r := Y (2 + 6 * k)) (by omega) (by omega) (fun z => hn ⟨fun c2 => by omega, fun c2 => by omega, fun _ => z⟩)
    simp (disch := omega) only [if_true, if_false, not_true_eq_false, not_false_eq_true, zoI_s, zoR_s, zoH_s, zoL_s, zbI_s, zbV_s, zbR_s, zbL_s, zif_dec, i32_0, ne_eq, i32_lt, i32_le, i32_eq, i32_add, i32_mul, i32_sub, i32_neg, zrz_0, zrz_1, zif_t, zif_f, zsF_s, zsF_k, zsF_a, zsC_s, zsC_a, zsC_i, zsW_s, zsW_a, Int.add_zero, Int.zero_add, true_and, false_and, and_false, Bool.false_eq_true, decide_true, decide_false, Bool.true_and, Bool.false_and, Bool.true_or, Bool.false_or, sub1, and_true, if_pos, if_neg, wv_50 S, wr_66 S, wr_67 S, wr_68 S, wr_69 S, wr_70 S, wr_71 S, wg_64 S, wp_64 S, wg_65 S, wp_65 S, wg_72 S, wp_72 S, wg_73 S, wp_73 S, wg_74 S, wp_74 S, wg_75 S, wp_75 S, wg_76 S, wp_76 S, wg_77 S, wp_77 S, wg_78 S, wp_78 S, wg_79 S, wp_79 S, wg_80 S, wp_80 S, yv Hy, g0, g1, g2, g3, c, e]
  · have e := c_trim0 S H V O ha R K (r := Y (2 + 6 * k)) (by omega) (by omega) (fun z => hn ⟨fun c2 => by omega, fun c2 => by omega, fun _ => z⟩)
    simp (disch := omega) only [if_true, if_false, not_true_eq_false, not_false_eq_true, zoI_s, zoR_s, zoH_s, zoL_s, zbI_s, zbV_s, zbR_s, zbL_s, zif_dec, i32_0, ne_eq, i32_lt, i32_le, i32_eq, i32_add, i32_mul, i32_sub, i32_neg, zrz_0, zrz_1, zif_t, zif_f, zsF_s, zsF_k, zsF_a, zsC_s, zsC_a, zsC_i, zsW_s, zsW_a, Int.add_zero, Int.zero_add, true_and, false_and, and_false, Bool.false_eq_true, decide_true, decide_false, Bool.true_and, Bool.false_and, Bool.true_or, Bool.false_or, sub1, and_true, if_pos, if_neg, wv_50 S, wr_66 S, wr_67 S, wr_68 S, wr_69 S, wr_70 S, wr_71 S, wg_64 S, wp_64 S, wg_65 S, wp_65 S, wg_72 S, wp_72 S, wg_73 S, wp_73 S, wg_74 S, wp_74 S, wg_75 S, wp_75 S, wg_76 S, wp_76 S, wg_77 S, wp_77 S, wg_78 S, wp_78 S, wg_79 S, wp_79 S, wg_80 S, wp_80 S, yv Hy, g0, g1, g2, g3, c, e]
  · exact absurd ⟨fun c2 => by omega, fun c2 => by omega, fun c2 => by omega⟩ hn
  · exact absurd ⟨fun c2 => by omega, fun c2 => by omega, fun c2 => by omega⟩ hn
theorem c_begin (S : St h) (H : duS h a) (V : duV F C a D) (O : dOK D) (ha : a ≤ 28) : ∃ F' C', zc 12 [zR (some 50), zR (some a)] (zw h F C) = some (zI 0, zw h F' C') ∧ crC F C D F' C' (begX D) := by
  have b0 := O.1
  have a0 := H.2.2.2.2
  have y1 := fun F C => @zw_aY h F C (a + 1) 51 0 6 6 6 H.2.2.2.1.1 (S.2.2.2.1 (51, 6) (List.mem_of_getElem? (l := wRW) (i := 1) rfl)) (Or.inl rfl) (by omega) (by unfold zK0; omega) (by omega) (by omega) (by omega) (by omega) (by omega)
  have y2 := fun F C => @zw_aY h F C (a + 2) 52 0 6 6 6 H.2.2.2.1.2.1 (S.2.2.2.1 (52, 6) (List.mem_of_getElem? (l := wRW) (i := 2) rfl)) (Or.inl rfl) (by omega) (by unfold zK0; omega) (by omega) (by omega) (by omega) (by omega) (by omega)
  have f3 := fun F C => c_fill (h := h) (F := F) (C := C) (a := 53) (n := 4) (x := 0) (S.2.2.2.1 (53, 4) (List.mem_of_getElem? (l := wRW) (i := 3) rfl)) (by unfold zK0; omega) (by omega)
  have f4 := fun F C => c_fill (h := h) (F := F) (C := C) (a := 54) (n := 4) (x := 0) (S.2.2.2.1 (54, 4) (List.mem_of_getElem? (l := wRW) (i := 4) rfl)) (by unfold zK0; omega) (by omega)
  have f5 := fun F C => c_fill (h := h) (F := F) (C := C) (a := 55) (n := 8) (x := 0) (S.2.2.2.1 (55, 8) (List.mem_of_getElem? (l := wRW) (i := 5) rfl)) (by unfold zK0; omega) (by omega)
  have f6 := fun F C => c_fill (h := h) (F := F) (C := C) (a := 56) (n := 8) (x := -1) (S.2.2.2.1 (56, 8) (List.mem_of_getElem? (l := wRW) (i := 6) rfl)) (by unfold zK0; omega) (by omega)
  rw [e_Course_begin]
  simp (disch := omega) only [if_true, if_false, not_true_eq_false, not_false_eq_true, zoI_s, zoR_s, zoH_s, zoL_s, zbI_s, zbV_s, zbR_s, zbL_s, zif_dec, i32_0, ne_eq, i32_lt, i32_le, i32_eq, i32_add, i32_mul, i32_sub, i32_neg, zrz_0, zrz_1, zif_t, zif_f, zsF_s, zsF_k, zsF_a, zsC_s, zsC_a, zsC_i, zsW_s, zsW_a, Int.add_zero, Int.zero_add, true_and, false_and, and_false, Bool.false_eq_true, decide_true, decide_false, Bool.true_and, Bool.false_and, Bool.true_or, Bool.false_or, sub1, and_true, if_pos, if_neg, wv_50 S, wr_66 S, wr_67 S, wr_68 S, wr_69 S, wr_70 S, wr_71 S, wg_64 S, wp_64 S, wg_65 S, wp_65 S, wg_72 S, wp_72 S, wg_73 S, wp_73 S, wg_74 S, wp_74 S, wg_75 S, wp_75 S, wg_76 S, wp_76 S, wg_77 S, wp_77 S, wg_78 S, wp_78 S, wg_79 S, wp_79 S, wg_80 S, wp_80 S, dg_131 H, dr_132 H, dr_133 H, y1, y2, f3, f4, f5, f6, V.1.2.2.2]
  refine ⟨_, _, rfl, ?_, ⟨rfl, rfl, rfl, rfl, rfl, rfl, rfl, rfl, rfl, rfl, fun z => absurd z (show (1 : Int) ≠ 0 by decide)⟩, fun r r0 r1 => ⟨?_, ?_⟩, fun p p0 p1 => ⟨?_, ?_⟩, fun q q0 q1 => ⟨?_, ?_⟩⟩
  · repeat' (first | exact tq.rfl | refine tq.sF ?_ (by omega) (by omega) | refine tq.sW ?_ (by omega) (by omega))
  · show _ = D (4 + 2 * r)
    rw [← V.2.1 r r0 r1]
    simp (disch := omega) only [if_true, if_false, not_true_eq_false, not_false_eq_true, zoI_s, zoR_s, zoH_s, zoL_s, zbI_s, zbV_s, zbR_s, zbL_s, zif_dec, i32_0, ne_eq, i32_lt, i32_le, i32_eq, i32_add, i32_mul, i32_sub, i32_neg, zrz_0, zrz_1, zif_t, zif_f, zsF_s, zsF_k, zsF_a, zsC_s, zsC_a, zsC_i, zsW_s, zsW_a, Int.add_zero, Int.zero_add, true_and, false_and, and_false, Bool.false_eq_true, decide_true, decide_false, Bool.true_and, Bool.false_and, Bool.true_or, Bool.false_or, sub1, and_true, if_pos, if_neg]
  · show _ = D (5 + 2 * r)
    rw [← V.2.2.1 r r0 r1]
    simp (disch := omega) only [if_true, if_false, not_true_eq_false, not_false_eq_true, zoI_s, zoR_s, zoH_s, zoL_s, zbI_s, zbV_s, zbR_s, zbL_s, zif_dec, i32_0, ne_eq, i32_lt, i32_le, i32_eq, i32_add, i32_mul, i32_sub, i32_neg, zrz_0, zrz_1, zif_t, zif_f, zsF_s, zsF_k, zsF_a, zsC_s, zsC_a, zsC_i, zsW_s, zsW_a, Int.add_zero, Int.zero_add, true_and, false_and, and_false, Bool.false_eq_true, decide_true, decide_false, Bool.true_and, Bool.false_and, Bool.true_or, Bool.false_or, sub1, and_true, if_pos, if_neg]
  · show _ = (0 : Int)
    simp (disch := omega) only [if_true, if_false, not_true_eq_false, not_false_eq_true, zoI_s, zoR_s, zoH_s, zoL_s, zbI_s, zbV_s, zbR_s, zbL_s, zif_dec, i32_0, ne_eq, i32_lt, i32_le, i32_eq, i32_add, i32_mul, i32_sub, i32_neg, zrz_0, zrz_1, zif_t, zif_f, zsF_s, zsF_k, zsF_a, zsC_s, zsC_a, zsC_i, zsW_s, zsW_a, Int.add_zero, Int.zero_add, true_and, false_and, and_false, Bool.false_eq_true, decide_true, decide_false, Bool.true_and, Bool.false_and, Bool.true_or, Bool.false_or, sub1, and_true, if_pos, if_neg]
  · show _ = (0 : Int)
    simp (disch := omega) only [if_true, if_false, not_true_eq_false, not_false_eq_true, zoI_s, zoR_s, zoH_s, zoL_s, zbI_s, zbV_s, zbR_s, zbL_s, zif_dec, i32_0, ne_eq, i32_lt, i32_le, i32_eq, i32_add, i32_mul, i32_sub, i32_neg, zrz_0, zrz_1, zif_t, zif_f, zsF_s, zsF_k, zsF_a, zsC_s, zsC_a, zsC_i, zsW_s, zsW_a, Int.add_zero, Int.zero_add, true_and, false_and, and_false, Bool.false_eq_true, decide_true, decide_false, Bool.true_and, Bool.false_and, Bool.true_or, Bool.false_or, sub1, and_true, if_pos, if_neg]
  · show _ = (-1 : Int)
    simp (disch := omega) only [if_true, if_false, not_true_eq_false, not_false_eq_true, zoI_s, zoR_s, zoH_s, zoL_s, zbI_s, zbV_s, zbR_s, zbL_s, zif_dec, i32_0, ne_eq, i32_lt, i32_le, i32_eq, i32_add, i32_mul, i32_sub, i32_neg, zrz_0, zrz_1, zif_t, zif_f, zsF_s, zsF_k, zsF_a, zsC_s, zsC_a, zsC_i, zsW_s, zsW_a, Int.add_zero, Int.zero_add, true_and, false_and, and_false, Bool.false_eq_true, decide_true, decide_false, Bool.true_and, Bool.false_and, Bool.true_or, Bool.false_or, sub1, and_true, if_pos, if_neg]
  · show _ = (0 : Int)
    simp (disch := omega) only [if_true, if_false, not_true_eq_false, not_false_eq_true, zoI_s, zoR_s, zoH_s, zoL_s, zbI_s, zbV_s, zbR_s, zbL_s, zif_dec, i32_0, ne_eq, i32_lt, i32_le, i32_eq, i32_add, i32_mul, i32_sub, i32_neg, zrz_0, zrz_1, zif_t, zif_f, zsF_s, zsF_k, zsF_a, zsC_s, zsC_a, zsC_i, zsW_s, zsW_a, Int.add_zero, Int.zero_add, true_and, false_and, and_false, Bool.false_eq_true, decide_true, decide_false, Bool.true_and, Bool.false_and, Bool.true_or, Bool.false_or, sub1, and_true, if_pos, if_neg]
theorem c_runL (S : St h) (H : duS h a) (V : duV F0 C0 a D) (O : dOK D) (ha : a ≤ 28) (Hy : yeS h y) (Vy : yeV F0 C0 y Y) (Oy : yOK Y) (hy : y ≤ 33) {n : Int} (n0 : -2147483648 ≤ n) (n1 : n < 2147483648) : ∀ (j : Nat) (X : Nat → Int → Int) (F : Nat → Nat → Int) (C : Nat → Int → Int), crC F0 C0 D F C X → cOK D X (X 0 71) → Y 0 ≤ X 0 71 + j → X 0 71 ≤ Y 0 → ∃ F' C', zr 13 5 [yR (some 50), yR (some a), yR (some y), yI (i32 n), yI (i32 (X 0 71))] [] (zw h F C) = some (zI 0, zw h F' C') ∧ crC F0 C0 D F' C' (runX D Y n j X) ∧ cOK D (runX D Y n j X) (runX D Y n j X 0 71) ∧ runX D Y n j X 0 71 ≤ Y 0 := by
  intro j
  induction j with
  | zero =>
    intro X F C R K hj hk
    have b := Oy.1
    have k9 := K.2.2.2.2.2.2.2.2.2.1
    have Vy1 := Vy.tq R.1 hy
    refine ⟨F, C, ?_, R, K, hk⟩
    rw [e_Course_run_5]
    by_cases c : n ≤ X 0 71
    · simp (disch := omega) only [if_true, if_false, not_true_eq_false, not_false_eq_true, zoI_s, zoR_s, zoH_s, zoL_s, zbI_s, zbV_s, zbR_s, zbL_s, zif_dec, i32_0, ne_eq, i32_lt, i32_le, i32_eq, i32_add, i32_mul, i32_sub, i32_neg, zrz_0, zrz_1, zif_t, zif_f, zsF_s, zsF_k, zsF_a, zsC_s, zsC_a, zsC_i, zsW_s, zsW_a, Int.add_zero, Int.zero_add, true_and, false_and, and_false, Bool.false_eq_true, decide_true, decide_false, Bool.true_and, Bool.false_and, Bool.true_or, Bool.false_or, sub1, and_true, if_pos, if_neg]
    · simp (disch := omega) only [if_true, if_false, not_true_eq_false, not_false_eq_true, zoI_s, zoR_s, zoH_s, zoL_s, zbI_s, zbV_s, zbR_s, zbL_s, zif_dec, i32_0, ne_eq, i32_lt, i32_le, i32_eq, i32_add, i32_mul, i32_sub, i32_neg, zrz_0, zrz_1, zif_t, zif_f, zsF_s, zsF_k, zsF_a, zsC_s, zsC_a, zsC_i, zsW_s, zsW_a, Int.add_zero, Int.zero_add, true_and, false_and, and_false, Bool.false_eq_true, decide_true, decide_false, Bool.true_and, Bool.false_and, Bool.true_or, Bool.false_or, sub1, and_true, if_pos, if_neg, yv Hy, yg_640 Hy, yr_641 Hy, ya_641 Hy, Vy1.1]
  | succ j ih =>
    intro X F C R K hj hk
    have b := Oy.1
    have k9 := K.2.2.2.2.2.2.2.2.2.1
    have Vy1 := Vy.tq R.1 hy
    by_cases c1 : n ≤ X 0 71
    · rw [runX_f (fun z => by omega)]
      refine ⟨F, C, ?_, R, K, hk⟩
      rw [e_Course_run_5]
      simp (disch := omega) only [if_true, if_false, not_true_eq_false, not_false_eq_true, zoI_s, zoR_s, zoH_s, zoL_s, zbI_s, zbV_s, zbR_s, zbL_s, zif_dec, i32_0, ne_eq, i32_lt, i32_le, i32_eq, i32_add, i32_mul, i32_sub, i32_neg, zrz_0, zrz_1, zif_t, zif_f, zsF_s, zsF_k, zsF_a, zsC_s, zsC_a, zsC_i, zsW_s, zsW_a, Int.add_zero, Int.zero_add, true_and, false_and, and_false, Bool.false_eq_true, decide_true, decide_false, Bool.true_and, Bool.false_and, Bool.true_or, Bool.false_or, sub1, and_true, if_pos, if_neg]
    · by_cases c2 : Y 0 ≤ X 0 71
      · rw [runX_f (fun z => by omega)]
        refine ⟨F, C, ?_, R, K, hk⟩
        rw [e_Course_run_5]
        simp (disch := omega) only [if_true, if_false, not_true_eq_false, not_false_eq_true, zoI_s, zoR_s, zoH_s, zoL_s, zbI_s, zbV_s, zbR_s, zbL_s, zif_dec, i32_0, ne_eq, i32_lt, i32_le, i32_eq, i32_add, i32_mul, i32_sub, i32_neg, zrz_0, zrz_1, zif_t, zif_f, zsF_s, zsF_k, zsF_a, zsC_s, zsC_a, zsC_i, zsW_s, zsW_a, Int.add_zero, Int.zero_add, true_and, false_and, and_false, Bool.false_eq_true, decide_true, decide_false, Bool.true_and, Bool.false_and, Bool.true_or, Bool.false_or, sub1, and_true, if_pos, if_neg, yv Hy, yg_640 Hy, yr_641 Hy, ya_641 Hy, Vy1.1]
      · by_cases c3 : doP D Y X (X 0 71)
        · rw [runX_t ⟨by omega, by omega, c3⟩]
          obtain ⟨F1, C1, e1, R1⟩ := c_apply S H V O ha Hy Vy Oy hy R K k9.1 (by omega) (by omega) c3
          have e64 : F1 64 50 = X 0 71 := by rw [R1.2.1.2.2.2.2.2.2.2.2.2.1, doX_71]
          have R2 := R1.f64 (X 0 71 + 1)
          have K2 : cOK D (zsC (doX D Y X (X 0 71)) 0 71 (X 0 71 + 1)) (X 0 71 + 1) := (K.doK O Oy k9.1 (by omega) c3).i71 (by omega)
          obtain ⟨F3, C3, e3, R3, K3, hk3⟩ := ih _ _ _ R2 K2 (show Y 0 ≤ X 0 71 + 1 + (j : Int) by omega) (show X 0 71 + 1 ≤ Y 0 by omega)
          refine ⟨F3, C3, ?_, R3, K3, hk3⟩
          rw [← e3, e_Course_run_5]
          simp (disch := omega) only [if_true, if_false, not_true_eq_false, not_false_eq_true, zoI_s, zoR_s, zoH_s, zoL_s, zbI_s, zbV_s, zbR_s, zbL_s, zif_dec, i32_0, ne_eq, i32_lt, i32_le, i32_eq, i32_add, i32_mul, i32_sub, i32_neg, zrz_0, zrz_1, zif_t, zif_f, zsF_s, zsF_k, zsF_a, zsC_s, zsC_a, zsC_i, zsW_s, zsW_a, Int.add_zero, Int.zero_add, true_and, false_and, and_false, Bool.false_eq_true, decide_true, decide_false, Bool.true_and, Bool.false_and, Bool.true_or, Bool.false_or, sub1, and_true, if_pos, if_neg, wv_50 S, wr_66 S, wr_67 S, wr_68 S, wr_69 S, wr_70 S, wr_71 S, wg_64 S, wp_64 S, wg_65 S, wp_65 S, wg_72 S, wp_72 S, wg_73 S, wp_73 S, wg_74 S, wp_74 S, wg_75 S, wp_75 S, wg_76 S, wp_76 S, wg_77 S, wp_77 S, wg_78 S, wp_78 S, wg_79 S, wp_79 S, wg_80 S, wp_80 S, yv Hy, yg_640 Hy, yr_641 Hy, ya_641 Hy, Vy1.1, e1, e64]
        · rw [runX_f (fun z => c3 z.2.2)]
          refine ⟨F, C, ?_, R, K, hk⟩
          have e := c_apply0 S H V O ha Hy Vy Oy hy R K k9.1 (by omega) c3
          rw [e_Course_run_5]
          simp (disch := omega) only [if_true, if_false, not_true_eq_false, not_false_eq_true, zoI_s, zoR_s, zoH_s, zoL_s, zbI_s, zbV_s, zbR_s, zbL_s, zif_dec, i32_0, ne_eq, i32_lt, i32_le, i32_eq, i32_add, i32_mul, i32_sub, i32_neg, zrz_0, zrz_1, zif_t, zif_f, zsF_s, zsF_k, zsF_a, zsC_s, zsC_a, zsC_i, zsW_s, zsW_a, Int.add_zero, Int.zero_add, true_and, false_and, and_false, Bool.false_eq_true, decide_true, decide_false, Bool.true_and, Bool.false_and, Bool.true_or, Bool.false_or, sub1, and_true, if_pos, if_neg, wv_50 S, wr_66 S, wr_67 S, wr_68 S, wr_69 S, wr_70 S, wr_71 S, wg_64 S, wp_64 S, wg_65 S, wp_65 S, wg_72 S, wp_72 S, wg_73 S, wp_73 S, wg_74 S, wp_74 S, wg_75 S, wp_75 S, wg_76 S, wp_76 S, wg_77 S, wp_77 S, wg_78 S, wp_78 S, wg_79 S, wp_79 S, wg_80 S, wp_80 S, yv Hy, yg_640 Hy, yr_641 Hy, ya_641 Hy, Vy1.1, e]
theorem c_run (S : St h) (H : duS h a) (V : duV F C a D) (O : dOK D) (ha : a ≤ 28) (Hy : yeS h y) (Vy : yeV F C y Y) (Oy : yOK Y) (hy : y ≤ 33) {n : Int} (n0 : -2147483648 ≤ n) (n1 : n < 2147483648) : ∃ F' C', zc 13 [zR (some 50), zR (some a), zR (some y), zI (i32 n)] (zw h F C) = some (zI 0, zw h F' C') ∧ crC F C D F' C' (runX D Y n 40 (begX D)) ∧ cOK D (runX D Y n 40 (begX D)) (runX D Y n 40 (begX D) 0 71) ∧ runX D Y n 40 (begX D) 0 71 ≤ Y 0 := by
  obtain ⟨F1, C1, e1, R1⟩ := c_begin S H V O ha
  have b := Oy.1
  obtain ⟨F2, C2, e2, R2, K2, h2⟩ := c_runL S H V O ha Hy Vy Oy hy n0 n1 40 (begX D) F1 C1 R1 (cOK.beg O) (show Y 0 ≤ 0 + ((40 : Nat) : Int) by omega) (show 0 ≤ Y 0 by omega)
  refine ⟨F2, C2, ?_, R2, K2, h2⟩
  rw [← e2, e_Course_run]
  simp (disch := omega) only [if_true, if_false, not_true_eq_false, not_false_eq_true, zoI_s, zoR_s, zoH_s, zoL_s, zbI_s, zbV_s, zbR_s, zbL_s, zif_dec, i32_0, ne_eq, i32_lt, i32_le, i32_eq, i32_add, i32_mul, i32_sub, i32_neg, zrz_0, zrz_1, zif_t, zif_f, zsF_s, zsF_k, zsF_a, zsC_s, zsC_a, zsC_i, zsW_s, zsW_a, Int.add_zero, Int.zero_add, true_and, false_and, and_false, Bool.false_eq_true, decide_true, decide_false, Bool.true_and, Bool.false_and, Bool.true_or, Bool.false_or, sub1, and_true, if_pos, if_neg, wv_50 S, wr_66 S, wr_67 S, wr_68 S, wr_69 S, wr_70 S, wr_71 S, wg_64 S, wp_64 S, wg_65 S, wp_65 S, wg_72 S, wp_72 S, wg_73 S, wp_73 S, wg_74 S, wp_74 S, wg_75 S, wp_75 S, wg_76 S, wp_76 S, wg_77 S, wp_77 S, wg_78 S, wp_78 S, wg_79 S, wp_79 S, wg_80 S, wp_80 S, e1]
  rfl
end C3
