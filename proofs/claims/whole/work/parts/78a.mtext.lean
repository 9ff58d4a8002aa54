/-! the reference: text -/
section TX
variable {h : zHeap} {B : Int → Int} {n : Int}
theorem m_textL (S : St h) {sort t : Int} (q0 : 0 ≤ sort) (q1 : sort ≤ 2) : ∀ (j : Nat) (q : Int × Int × Int) (T : Int → Int) (F : Nat → Nat → Int) (C : Nat → Int → Int), tpM F C B n → mlR F C B n q → qI n q → dtM C sort q.2.1 T → n - q.1 ≤ j → ∃ F' C', zr 224 76 [yR (some 72), yI (i32 sort), yI (i32 t), yI (i32 241), none] [] (zw h F C) = zr 224 76 [yR (some 72), yI (i32 sort), yI (i32 t), yI (i32 241), none] [] (zw h F' C') ∧ rm2 F F' ∧ cM C C' ∧ mlR F' C' B n (rdS B n sort j (q, T)).1 ∧ dtM C' sort (rdS B n sort j (q, T)).1.2.1 (rdS B n sort j (q, T)).2 ∧ ((rdS B n sort j (q, T)).1.2.1 = 1 ∨ tK B n (rdS B n sort j (q, T)).1.1 = 3) := by
  intro j
  induction j with
  | zero =>
    intro q T F C P R I D hj
    exact ⟨F, C, rfl, rm2.rfl F, cM.rfl C, R, D, Or.inr (by show tK B n q.1 = 3; unfold tK; rw [if_pos (by omega)])⟩
  | succ j ih =>
    intro q T F C P R I D hj
    by_cases c : q.2.1 ≠ 1 ∧ tK B n q.1 ≠ 3
    · have hn := P.2.1
      have sn := tK_lt c.2
      have r := R.1.2 c.1
      have kr := kM_rng B n q.1
      have r73 := r.2.2.2.1
      have d0 : decide (i32 (kM B n q.1) = 0) = false := dF (by rw [i32_0, i32_eq (by omega) (by omega) (by omega) (by omega)]; exact fun z => c.2 (kM_0.mp z))
      rw [rdS, if_pos c]
      have I1 := I.ln (B := B) (sort := sort) (T := T) hn.2 c.1 sn
      obtain ⟨F1, C1, e1, rd1, c1, R1, D1⟩ : ∃ F' C', zr 224 76 [yR (some 72), yI (i32 sort), yI (i32 t), yI (i32 241), none] [] (zw h F C) = zr 224 76 [yR (some 72), yI (i32 sort), yI (i32 t), yI (i32 241), none] [] (zw h F' C') ∧ rm2 F F' ∧ cM C C' ∧ mlR F' C' B n (lnQ B n sort T q) ∧ dtM C' sort (lnQ B n sort T q).2.1 (lnT B n sort T q) := by
        rcases (show sort = 0 ∨ sort = 1 ∨ sort = 2 by omega) with rfl | rfl | rfl
        · obtain ⟨F1, C1, e1, rd1, c1, R1, D1⟩ := m_duchyLine S P R I c.1 c.2 D
          refine ⟨F1, C1, ?_, rd1, c1, R1, D1⟩
          rw [e_Model_text_76]
          simp only [zoI_s, zoR_s, zoH_s, zoL_s, zbI_s, zbV_s, zbR_s, zbL_s, zif_t, zif_f, zrz_0, zrz_1, decide_true, decide_false, wg_776 S, r.1, d0ne, wg_773 S, r73, d0, t0_0, wv_72 S, e1]
        · obtain ⟨F1, C1, e1, rd1, c1, R1, D1⟩ := m_yearLine S P R I c.1 c.2 D
          refine ⟨F1, C1, ?_, rd1, c1, R1, D1⟩
          rw [e_Model_text_76]
          simp only [zoI_s, zoR_s, zoH_s, zoL_s, zbI_s, zbV_s, zbR_s, zbL_s, zif_t, zif_f, zrz_0, zrz_1, decide_true, decide_false, wg_776 S, r.1, d0ne, wg_773 S, r73, d0, t1_0, t1_1, wv_72 S, e1]
        · obtain ⟨F1, C1, e1, rd1, c1, R1, D1⟩ := m_logLine S P R I c.1 c.2 D
          refine ⟨F1, C1, ?_, rd1, c1, R1, D1⟩
          rw [e_Model_text_76]
          simp only [zoI_s, zoR_s, zoH_s, zoL_s, zbI_s, zbV_s, zbR_s, zbL_s, zif_t, zif_f, zrz_0, zrz_1, decide_true, decide_false, wg_776 S, r.1, d0ne, wg_773 S, r73, d0, t2_0, t2_1, wv_72 S, e1]
      by_cases f1 : (lnQ B n sort T q).2.1 = 1
      · rw [rdS_f (fun z => z.1 f1)]
        exact ⟨F1, C1, e1, rd1, c1, R1, D1, Or.inl f1⟩
      · have hl : lnL B n sort q.1 ≠ -1 := by
          intro z
          apply f1
          unfold lnQ
          rw [if_pos z]
        have gt := lnQ_gt (B := B) (T := T) sn hl
        obtain ⟨F2, C2, e2, rd2, c2, R2, D2, x2⟩ := ih (lnQ B n sort T q) (lnT B n sort T q) F1 C1 (P.r2 rd1 c1) R1 I1 D1 (by omega)
        exact ⟨F2, C2, e1.trans e2, rd1.trans rd2, c1.trans c2, R2, D2, x2⟩
    · rw [rdS_f c]
      refine ⟨F, C, rfl, rm2.rfl F, cM.rfl C, R, D, ?_⟩
      by_cases z : q.2.1 = 1
      · exact Or.inl z
      · exact Or.inr (Classical.byContradiction (fun y => c ⟨z, y⟩))
theorem rdS_I {sort : Int} (hn : n ≤ 600) : ∀ (j : Nat) (q : Int × Int × Int) (T : Int → Int), qI n q → qI n (rdS B n sort j (q, T)).1 := by
  intro j
  induction j with
  | zero => intro q T I; exact I
  | succ j ih =>
    intro q T I
    by_cases c : q.2.1 ≠ 1 ∧ tK B n q.1 ≠ 3
    · rw [rdS, if_pos c]
      exact ih _ _ (I.ln hn c.1 (tK_lt c.2))
    · rw [rdS_f c]; exact I
theorem prS_I {sort : Int} (n0 : 0 ≤ n ∧ n ≤ 600) : qI n (prS B n sort).1 := by
  have sl := tS_le (B := B) (n := n) (p := 0) n0.1
  exact rdS_I n0.2 600 _ _ ⟨⟨by dsimp only; omega, by dsimp only; omega⟩, ⟨by dsimp only; omega, by dsimp only; omega⟩, ⟨by dsimp only; omega, by dsimp only; omega⟩, Or.inl rfl, fun z => by dsimp only at z; omega⟩
theorem prS_f {sort : Int} (n0 : 0 ≤ n ∧ n ≤ 600) (_ : 0 ≤ sort) (_ : sort ≤ 2) : 0 ≤ (prS B n sort).1.2.1 ∧ (prS B n sort).1.2.1 ≤ 3 := (prS_I n0).2.1
/-- place and size of a text of a sort -/
def plS (sort k : Int) : Int := if sort = 0 then 610 + 44 * k else if sort = 1 then 698 + 241 * k else 1180 + 25 * k
def szS (sort : Int) : Int := if sort = 0 then 44 else if sort = 1 then 241 else 25
def stR (g : Int → Int) (p : Int) (u : Int → Int) (i : Int) : Int → Int := fun j => if p ≤ j ∧ j < p + i then u (j - p) else g j
theorem m_store (S : St h) {F : Nat → Nat → Int} {C : Nat → Int → Int} {sort t k : Int} (q0 : 0 ≤ sort) (q1 : sort ≤ 2) (k0 : 0 ≤ k) (k1 : k ≤ 1) : zr 224 123 [yR (some 72), yI (i32 sort), yI (i32 t), yI (i32 k), yI (i32 0)] [] (zw h F C) = some (zI (i32 k), zw h F (zsW C 73 (stR (C 73) (plS sort k) (C 75) (szS sort)))) := by
  have eS : ∀ h, zc 222 [zI (i32 sort)] h = some (zI (i32 (szS sort)), h) := by
    intro h
    rcases (show sort = 0 ∨ sort = 1 ∨ sort = 2 by omega) with rfl | rfl | rfl
    · simp only [zoI_s, zoR_s, zoH_s, zoL_s, zbI_s, zbV_s, zbR_s, zbL_s, zif_t, zif_f, zrz_0, zrz_1, decide_true, decide_false, e_Model_sizeOf, d0ne]; rfl
    · simp only [zoI_s, zoR_s, zoH_s, zoL_s, zbI_s, zbV_s, zbR_s, zbL_s, zif_t, zif_f, zrz_0, zrz_1, decide_true, decide_false, e_Model_sizeOf, d1ne, d11]; rfl
    · have a1 : decide (i32 2 ≠ 0) = true := by decide
      have a2 : decide (i32 2 ≠ i32 1) = true := by decide
      simp only [zoI_s, zoR_s, zoH_s, zoL_s, zbI_s, zbV_s, zbR_s, zbL_s, zif_t, zif_f, zrz_0, zrz_1, decide_true, decide_false, e_Model_sizeOf, a1, a2]; rfl
  have eP : ∀ h, zc 221 [zI (i32 sort), zI (i32 k)] h = some (zI (i32 (plS sort k)), h) := by
    intro h
    rcases (show sort = 0 ∨ sort = 1 ∨ sort = 2 by omega) with rfl | rfl | rfl
    · simp only [zoI_s, zoR_s, zoH_s, zoL_s, zbI_s, zbV_s, zbR_s, zbL_s, zif_t, zif_f, zrz_0, zrz_1, decide_true, decide_false, e_Model_placeOf, d0ne, i32_mul, i32_add]; rfl
    · simp only [zoI_s, zoR_s, zoH_s, zoL_s, zbI_s, zbV_s, zbR_s, zbL_s, zif_t, zif_f, zrz_0, zrz_1, decide_true, decide_false, e_Model_placeOf, d1ne, d11, i32_mul, i32_add]; rfl
    · have a1 : decide (i32 2 ≠ 0) = true := by decide
      have a2 : decide (i32 2 ≠ i32 1) = true := by decide
      simp only [zoI_s, zoR_s, zoH_s, zoL_s, zbI_s, zbV_s, zbR_s, zbL_s, zif_t, zif_f, zrz_0, zrz_1, decide_true, decide_false, e_Model_placeOf, a1, a2, i32_mul, i32_add]; rfl
  have sr : 0 ≤ szS sort ∧ szS sort ≤ 241 ∧ 0 ≤ plS sort k ∧ plS sort k + szS sort ≤ 1230 := by
    rcases (show sort = 0 ∨ sort = 1 ∨ sort = 2 by omega) with rfl | rfl | rfl
    · show 0 ≤ (44 : Int) ∧ (44 : Int) ≤ 241 ∧ 0 ≤ 610 + 44 * k ∧ 610 + 44 * k + 44 ≤ 1230
      omega
    · show 0 ≤ (241 : Int) ∧ (241 : Int) ≤ 241 ∧ 0 ≤ 698 + 241 * k ∧ 698 + 241 * k + 241 ≤ 1230
      omega
    · show 0 ≤ (25 : Int) ∧ (25 : Int) ≤ 241 ∧ 0 ≤ 1180 + 25 * k ∧ 1180 + 25 * k + 25 ≤ 1230
      omega
  obtain ⟨f, e, I⟩ := zinv (fun i f => zr 224 123 [yR (some 72), yI (i32 sort), yI (i32 t), yI (i32 k), yI (i32 i)] [] (zw h F (zsW C 73 f))) (fun i f => f = stR (C 73) (plS sort k) (C 75) i) 0 (szS sort) (by omega) (fun i f i0 i1 I => by
    have d1 : decide (i32 (szS sort) ≤ i32 i) = false := dF (by rw [i32_le (by omega) (by omega) (by omega) (by omega)]; omega)
    have wa := wa_75 (F := F) (C := zsW C 73 f) S (i := i) (by omega) (by omega)
    rw [zsW_a (by omega)] at wa
    have ws := ws_73 (F := F) (C := zsW C 73 f) S (i := plS sort k + i) (by omega) (by omega) (C 75 i)
    rw [zsC_W, zsW_W, zsW_s] at ws
    refine ⟨up1 f (plS sort k + i) (C 75 i), ?_, ?_⟩
    · rw [e_Model_text_123]
      simp only [zoI_s, zoR_s, zoH_s, zoL_s, zbI_s, zbV_s, zbR_s, zbL_s, zif_t, zif_f, zrz_0, zrz_1, decide_true, decide_false, eS, d1, wr_768 S, eP, wr_777 S, wa, i32_add, ws]
    · subst I
      funext j
      unfold up1 stR
      by_cases c1 : j = plS sort k + i
      · rw [if_pos c1, if_pos (by omega), show j - plS sort k = i by omega]
      · rw [if_neg c1]
        by_cases c2 : plS sort k ≤ j ∧ j < plS sort k + i
        · rw [if_pos c2, if_pos (by omega)]
        · rw [if_neg c2, if_neg (by omega)]) (C 73) (by funext j; unfold stR; rw [if_neg (by omega)])
  rw [zsW_id] at e
  have d1 : decide (i32 (szS sort) ≤ i32 (szS sort)) = true := dT (Int32.le_refl _)
  rw [e, e_Model_text_123, I]
  simp only [zoI_s, zoR_s, zoH_s, zoL_s, zbI_s, zbV_s, zbR_s, zbL_s, zif_t, zif_f, zrz_0, zrz_1, decide_true, decide_false, eS, d1]
/-- which number a text gets -/
def nuF (A : Int → Int) (sort t : Int) : Int := if 0 ≤ sort ∧ sort ≤ 2 then (if t = -1 then (if A sort < 2 then A sort else -2) else if 0 ≤ t ∧ t < A sort then t else -2) else -2
def a456 (A : Int → Int) (x f pl : Int) : Int → Int := up1 (up1 (up1 A 4 x) 5 f) 6 pl
theorem m_text {F : Nat → Nat → Int} {C : Nat → Int → Int} (S : St h) (hA : (0 ≤ C 73 0 ∧ C 73 0 ≤ 2) ∧ (0 ≤ C 73 1 ∧ C 73 1 ≤ 2) ∧ (0 ≤ C 73 2 ∧ C 73 2 ≤ 2)) (hn : C 73 4 = n) (n0 : 0 ≤ n ∧ n ≤ 600) (hB : ∀ i, 0 ≤ i → i < n → (0 ≤ B i ∧ B i ≤ 255) ∧ C 73 (10 + i) = B i) {sort t : Int} (hs : inI sort) (ht : inI t) : ∃ F' C', (∀ k a, a ≠ 72 → F' k a = F k a) ∧ (∀ a, a ≠ 73 → a ≠ 75 → C' a = C a) ∧ (nuF (C 73) sort t = -2 → zc 224 [zR (some 72), zI (i32 sort), zI (i32 t)] (zw h F C) = some (zI (i32 (-2)), zw h F' C') ∧ C' 73 = a456 (C 73) 0 0 (-1)) ∧ (nuF (C 73) sort t ≠ -2 → (prS B n sort).1.2.1 ≠ 0 → zc 224 [zR (some 72), zI (i32 sort), zI (i32 t)] (zw h F C) = some (zI (i32 (-1)), zw h F' C') ∧ C' 73 = a456 (C 73) 0 (prS B n sort).1.2.1 (prS B n sort).1.2.2) ∧ (nuF (C 73) sort t ≠ -2 → (prS B n sort).1.2.1 = 0 → zc 224 [zR (some 72), zI (i32 sort), zI (i32 t)] (zw h F C) = some (zI (i32 (nuF (C 73) sort t)), zw h F' C') ∧ ∃ u, eqR u (prS B n sort).2 ∧ C' 73 = stR (if t = -1 then up1 (a456 (C 73) 0 0 (prS B n sort).1.2.2) sort (C 73 sort + 1) else a456 (C 73) 0 0 (prS B n sort).1.2.2) (plS sort (nuF (C 73) sort t)) u (szS sort)) := by
  unfold inI at hs ht
  -- the tape is taken
  have w4 := wa_73 (F := F) (C := C) S (i := 4) (by omega) (by omega)
  rw [hn] at w4
  have s4 := ws_73 (F := zsF F 770 72 n) (C := C) S (i := 4) (by omega) (by omega) 0
  have s5 := ws_73 (F := zsF F 770 72 n) (C := zsC C 73 4 0) S (i := 5) (by omega) (by omega) 0
  have s6 := ws_73 (F := zsF F 770 72 n) (C := zsC (zsC C 73 4 0) 73 5 0) S (i := 6) (by omega) (by omega) (-1)
  have row0 : zsC (zsC (zsC C 73 4 0) 73 5 0) 73 6 (-1) 73 = a456 (C 73) 0 0 (-1) := by rw [zsC_row, zsC_row, zsC_row]; rfl
  have oth0 : ∀ a, a ≠ 73 → zsC (zsC (zsC C 73 4 0) 73 5 0) 73 6 (-1) a = C a := fun a ha => by rw [zsC_a ha, zsC_a ha, zsC_a ha]
  have eI := m_isIn (h := zw h (zsF F 770 72 n) (zsC (zsC (zsC C 73 4 0) 73 5 0) 73 6 (-1))) (x := sort) (a := 0) (b := 2) (by omega) (by omega) (by omega) (by omega) (by omega) (by omega)
  by_cases cs : 0 ≤ sort ∧ sort ≤ 2
  · rw [if_pos cs] at eI
    have As : 0 ≤ C 73 sort ∧ C 73 sort ≤ 2 := by
      rcases (show sort = 0 ∨ sort = 1 ∨ sort = 2 by omega) with rfl | rfl | rfl
      · exact hA.1
      · exact hA.2.1
      · exact hA.2.2
    have rs : a456 (C 73) 0 0 (-1) sort = C 73 sort := by unfold a456; rw [up1_n (by omega), up1_n (by omega), up1_n (by omega)]
    have ws := wa_73 (F := zsF F 770 72 n) (C := zsC (zsC (zsC C 73 4 0) 73 5 0) 73 6 (-1)) S (i := sort) (by omega) (by omega)
    rw [row0, rs] at ws
    have eN : nuF (C 73) sort t = (if t = -1 then (if C 73 sort < 2 then C 73 sort else -2) else if 0 ≤ t ∧ t < C 73 sort then t else -2) := by unfold nuF; rw [if_pos cs]
    by_cases cN : nuF (C 73) sort t = -2
    · refine ⟨zsF F 770 72 n, zsC (zsC (zsC C 73 4 0) 73 5 0) 73 6 (-1), fun k a ha => zsF_a ha, fun a ha _ => oth0 a ha, fun _ => ⟨?_, row0⟩, fun z => absurd cN z, fun z => absurd cN z⟩
      rw [eN] at cN
      by_cases ct : t = -1
      · rw [if_pos ct] at cN
        have full : ¬ (C 73 sort < 2) := by
          intro z
          rw [if_pos z] at cN
          omega
        have d1 : decide (i32 (C 73 sort) < i32 2) = false := dF (by rw [i32_lt (by omega) (by omega) (by omega) (by omega)]; exact full)
        have dm : decide (i32 (-1) ≠ i32 (-1)) = false := by decide
        rw [ct]
        simp only [zoI_s, zoR_s, zoH_s, zoL_s, zbI_s, zbV_s, zbR_s, zbL_s, zif_t, zif_f, zrz_0, zrz_1, decide_true, decide_false, e_Model_text, wr_768 S, w4, wp_770 S, s4, s5, s6, eI, d10, dm, ws, d1]
      · rw [if_neg ct] at cN
        have no : ¬ (0 ≤ t ∧ t < C 73 sort) := by
          intro z
          rw [if_pos z] at cN
          omega
        have dm : decide (i32 t ≠ i32 (-1)) = true := dT (by rw [ne_eq, i32_eq (by omega) (by omega) (by omega) (by omega)]; exact ct)
        have eO : zc 223 [zR (some 72), zI (i32 sort), zI (i32 t)] (zw h (zsF F 770 72 n) (zsC (zsC (zsC C 73 4 0) 73 5 0) 73 6 (-1))) = some (zI (i32 0), zw h (zsF F 770 72 n) (zsC (zsC (zsC C 73 4 0) 73 5 0) 73 6 (-1))) := by
          have eI2 := m_isIn (h := zw h (zsF F 770 72 n) (zsC (zsC (zsC C 73 4 0) 73 5 0) 73 6 (-1))) (x := t) (a := 0) (b := C 73 sort - 1) (by omega) (by omega) (by omega) (by omega) (by omega) (by omega)
          rw [if_neg (by omega)] at eI2
          simp only [zoI_s, zoR_s, zoH_s, zoL_s, zbI_s, zbV_s, zbR_s, zbL_s, zif_t, zif_f, zrz_0, zrz_1, decide_true, decide_false, e_Model_isOf, wr_768 S, ws, i32_sub, eI2]
        simp only [zoI_s, zoR_s, zoH_s, zoL_s, zbI_s, zbV_s, zbR_s, zbL_s, zif_t, zif_f, zrz_0, zrz_1, decide_true, decide_false, e_Model_text, wr_768 S, w4, wp_770 S, s4, s5, s6, eI, d10, dm, wv_72 S, eO, d0ne]
    · -- the text is read
      have nr : 0 ≤ nuF (C 73) sort t ∧ nuF (C 73) sort t ≤ 1 := by
        rw [eN] at cN ⊢
        by_cases ct : t = -1
        · rw [if_pos ct] at cN ⊢
          by_cases z : C 73 sort < 2
          · rw [if_pos z]; omega
          · rw [if_neg z] at cN; exact absurd rfl cN
        · rw [if_neg ct] at cN ⊢
          by_cases z : 0 ≤ t ∧ t < C 73 sort
          · rw [if_pos z]; omega
          · rw [if_neg z] at cN; exact absurd rfl cN
      have go1 : zc 224 [zR (some 72), zI (i32 sort), zI (i32 t)] (zw h F C) = zr 224 51 [yR (some 72), yI (i32 sort), yI (i32 t), yI (i32 0), none] [] (zw h (zsF (zsF (zsF F 770 72 n) 771 72 0) 776 72 0) (zsC (zsC (zsC C 73 4 0) 73 5 0) 73 6 (-1))) := by
        have wz := wp_776 (F := zsF (zsF F 770 72 n) 771 72 0) (C := zsC (zsC (zsC C 73 4 0) 73 5 0) 73 6 (-1)) S (x := 0) (Or.inl rfl)
        rw [eN] at cN
        by_cases ct : t = -1
        · rw [if_pos ct] at cN
          have lt : C 73 sort < 2 := by
            by_cases z : C 73 sort < 2
            · exact z
            · rw [if_neg z] at cN; exact absurd rfl cN
          have d1 : decide (i32 (C 73 sort) < i32 2) = true := dT (by rw [i32_lt (by omega) (by omega) (by omega) (by omega)]; exact lt)
          have dm : decide (i32 (-1) ≠ i32 (-1)) = false := by decide
          rw [ct]
          simp only [zoI_s, zoR_s, zoH_s, zoL_s, zbI_s, zbV_s, zbR_s, zbL_s, zif_t, zif_f, zrz_0, zrz_1, decide_true, decide_false, e_Model_text, wr_768 S, w4, wp_770 S, s4, s5, s6, eI, d10, dm, ws, d1, wp_771 S, wz]
        · rw [if_neg ct] at cN
          have yes : 0 ≤ t ∧ t < C 73 sort := by
            by_cases z : 0 ≤ t ∧ t < C 73 sort
            · exact z
            · rw [if_neg z] at cN; exact absurd rfl cN
          have dm : decide (i32 t ≠ i32 (-1)) = true := dT (by rw [ne_eq, i32_eq (by omega) (by omega) (by omega) (by omega)]; exact ct)
          have eO : zc 223 [zR (some 72), zI (i32 sort), zI (i32 t)] (zw h (zsF F 770 72 n) (zsC (zsC (zsC C 73 4 0) 73 5 0) 73 6 (-1))) = some (zI (i32 1), zw h (zsF F 770 72 n) (zsC (zsC (zsC C 73 4 0) 73 5 0) 73 6 (-1))) := by
            have eI2 := m_isIn (h := zw h (zsF F 770 72 n) (zsC (zsC (zsC C 73 4 0) 73 5 0) 73 6 (-1))) (x := t) (a := 0) (b := C 73 sort - 1) (by omega) (by omega) (by omega) (by omega) (by omega) (by omega)
            rw [if_pos (by omega)] at eI2
            simp only [zoI_s, zoR_s, zoH_s, zoL_s, zbI_s, zbV_s, zbR_s, zbL_s, zif_t, zif_f, zrz_0, zrz_1, decide_true, decide_false, e_Model_isOf, wr_768 S, ws, i32_sub, eI2]
          simp only [zoI_s, zoR_s, zoH_s, zoL_s, zbI_s, zbV_s, zbR_s, zbL_s, zif_t, zif_f, zrz_0, zrz_1, decide_true, decide_false, e_Model_text, wr_768 S, w4, wp_770 S, s4, s5, s6, eI, d10, dm, wv_72 S, eO, d1ne, wp_771 S, wz]
      generalize hF1 : zsF (zsF (zsF F 770 72 n) 771 72 0) 776 72 0 = F1 at go1
      generalize hC1 : zsC (zsC (zsC C 73 4 0) 73 5 0) 73 6 (-1) = C1 at *
      have F1o : ∀ k a, a ≠ 72 → F1 k a = F k a := fun k a ha => by rw [← hF1, zsF_a ha, zsF_a ha, zsF_a ha]
      obtain ⟨f75, e75, i75⟩ := zinv (fun i f => zr 224 51 [yR (some 72), yI (i32 sort), yI (i32 t), yI (i32 i), none] [] (zw h F1 (zsW C1 75 f))) (fun i f => ∀ j, 0 ≤ j → j < i → f j = iniT sort j) 0 241 (by omega) (fun i f i0 i1 I => by
        have d2 : decide (i32 241 ≤ i32 i) = false := dF (by rw [i32_le (by omega) (by omega) (by omega) (by omega)]; omega)
        have ws7 := fun x => ws_75 (F := F1) (C := zsW C1 75 f) S (i := i) (by omega) (by omega) x
        refine ⟨up1 f i (iniT sort i), ?_, fun j j0 j1 => ?_⟩
        · rw [e_Model_text_51]
          by_cases c0 : sort = 0
          · have eI3 := m_isIn (h := zw h F1 (zsW C1 75 f)) (x := i) (a := 36) (b := 43) (by omega) (by omega) (by omega) (by omega) (by omega) (by omega)
            by_cases ci : 36 ≤ i ∧ i ≤ 43
            · rw [if_pos ci] at eI3
              have rm := i32_rem (a := i - 36) (b := 2) (by omega) (by omega) (by omega) (by omega)
              have i2 : ∀ x : Int32, (if i32 2 = 0 then none else some x) = some x := fun x => if_neg (by decide)
              have ei : iniT sort i = (i - 36) % 2 := by unfold iniT; rw [if_pos ⟨c0, ci⟩]
              rw [ei, c0]
              simp only [zoI_s, zoR_s, zoH_s, zoL_s, zbI_s, zbV_s, zbR_s, zbL_s, zif_t, zif_f, zrz_0, zrz_1, decide_true, decide_false, d2, wr_777 S, d0ne, eI3, d10, i32_sub, i2, rm, ws7, zsC_W, zsW_W, zsW_s, i32_add]
            · rw [if_neg ci] at eI3
              have ei : iniT sort i = 0 := by unfold iniT; rw [if_neg (fun z => ci z.2)]
              rw [ei, c0]
              simp only [zoI_s, zoR_s, zoH_s, zoL_s, zbI_s, zbV_s, zbR_s, zbL_s, zif_t, zif_f, zrz_0, zrz_1, decide_true, decide_false, d2, wr_777 S, d0ne, eI3, d0eq, ws7, zsC_W, zsW_W, zsW_s, i32_add]
          · have dc : decide (i32 sort ≠ 0) = true := dT (by rw [i32_0, ne_eq, i32_eq (by omega) (by omega) (by omega) (by omega)]; exact c0)
            have ei : iniT sort i = 0 := by unfold iniT; rw [if_neg (fun z => c0 z.1)]
            rw [ei]
            simp only [zoI_s, zoR_s, zoH_s, zoL_s, zbI_s, zbV_s, zbR_s, zbL_s, zif_t, zif_f, zrz_0, zrz_1, decide_true, decide_false, d2, wr_777 S, dc, ws7, zsC_W, zsW_W, zsW_s, i32_add]
        · by_cases c : j = i
          · rw [c, up1_s]
          · rw [up1_n c]; exact I j j0 (by omega)) (C1 75) (fun j j0 j1 => by omega)
      rw [zsW_id] at e75
      generalize hC2 : zsW C1 75 f75 = C2 at *
      have r73 : C2 73 = a456 (C 73) 0 0 (-1) := by rw [← hC2, zsW_a (by omega)]; exact row0
      have r75 : C2 75 = f75 := by rw [← hC2, zsW_s]
      have P2 : tpM F1 C2 B n := ⟨by rw [← hF1]; rfl, n0, fun i i0 i1 => ⟨(hB i i0 i1).1, by rw [r73]; unfold a456; rw [up1_n (by omega), up1_n (by omega), up1_n (by omega)]; exact (hB i i0 i1).2⟩⟩
      obtain ⟨F3, e3, rd3, tk3⟩ := m_advance S P2 (p := 0) (by rw [← hF1]; rfl) (by omega) n0.1
      have sl := tS_le (B := B) (n := n) (p := 0) n0.1
      have R3 : mlR F3 C2 B n (tS B n 0, 0, -1) := ⟨⟨fun z => by dsimp only at z; omega, fun _ => ⟨(rd3 776 72 (by omega)).trans (by rw [← hF1]; rfl), tk3⟩⟩, by rw [r73]; rfl, by rw [r73]; rfl⟩
      have D3 : dtM C2 sort 0 (iniT sort) := by
        have i0 : iniT sort 0 = 0 := by unfold iniT; rw [if_neg (by omega)]
        have i1 : iniT sort 1 = 0 := by unfold iniT; rw [if_neg (by omega)]
        have i2 : iniT sort 2 = 0 := by unfold iniT; rw [if_neg (by omega)]
        unfold dtM
        rw [r75, i75 0 (by omega) (by omega), i75 1 (by omega) (by omega), i75 2 (by omega) (by omega), i0, i1, i2]
        exact ⟨fun _ => by omega, fun _ => by omega, fun _ => by omega, fun _ j j0 j1 => i75 j j0 j1⟩
      have P3 := P2.rd rd3
      obtain ⟨F4, C4, e4, rd4, c4, R4, D4, x4⟩ := m_textL (B := B) (n := n) S (t := t) cs.1 cs.2 600 (tS B n 0, 0, -1) (iniT sort) F3 C2 P3 R3 ⟨⟨by dsimp only; omega, by dsimp only; omega⟩, ⟨by dsimp only; omega, by dsimp only; omega⟩, ⟨by dsimp only; omega, by dsimp only; omega⟩, Or.inl rfl, fun z => by dsimp only at z; omega⟩ D3 (by dsimp only; omega)
      rw [show rdS B n sort 600 ((tS B n 0, 0, -1), iniT sort) = prS B n sort from rfl] at R4 D4 x4
      have go2 : zc 224 [zR (some 72), zI (i32 sort), zI (i32 t)] (zw h F C) = zr 224 76 [yR (some 72), yI (i32 sort), yI (i32 t), yI (i32 241), none] [] (zw h F4 C4) := by
        have d2 : decide (i32 241 ≤ i32 241) = true := by decide
        rw [go1, e75, ← e4, e_Model_text_51]
        simp only [zoI_s, zoR_s, zoH_s, zoL_s, zbI_s, zbV_s, zbR_s, zbL_s, zif_t, zif_f, zrz_0, zrz_1, decide_true, decide_false, d2, wv_72 S, e3]
      have F4o : ∀ k a, a ≠ 72 → F4 k a = F k a := fun k a ha => ((rd4 k a (fun z => ha z.1)).trans (rd3 k a (fun z => ha z.1))).trans (F1o k a ha)
      have C4o : ∀ a, a ≠ 73 → a ≠ 75 → C4 a = C a := fun a h1 h2 => (c4.1 a h1 h2).trans (by rw [← hC2, zsW_a h2, oth0 a h1])
      have row4 : C4 73 = a456 (C 73) 0 (prS B n sort).1.2.1 (prS B n sort).1.2.2 := by
        funext j
        unfold a456
        by_cases j6 : j = 6
        · rw [j6, up1_s]; exact R4.2.2
        · rw [up1_n j6]
          by_cases j5 : j = 5
          · rw [j5, up1_s]; exact R4.2.1
          · rw [up1_n j5, c4.2 j j5 j6, r73]
            unfold a456
            rw [up1_n j6, up1_n j5]
      have w5 := wa_73 (F := F4) (C := C4) S (i := 5) (by omega) (by omega)
      rw [R4.2.1] at w5
      by_cases f0 : (prS B n sort).1.2.1 = 0
      · have r4 := R4.1.2 (by omega)
        have k0 : kM B n (prS B n sort).1.1 = 0 := kM_0.mpr (x4.resolve_left (by omega))
        have r773 := r4.2.2.2.1
        rw [k0] at r773
        rw [f0] at w5
        have As4 : C4 73 sort = C 73 sort := by rw [row4]; unfold a456; rw [up1_n (by omega), up1_n (by omega), up1_n (by omega)]
        have ws4 := wa_73 (F := F4) (C := C4) S (i := sort) (by omega) (by omega)
        rw [As4] at ws4
        have u4 := D4.2.2.2 f0
        rw [f0] at row4
        by_cases ct : t = -1
        · have eK : nuF (C 73) sort t = C 73 sort := by
            rw [eN] at cN ⊢
            rw [if_pos ct] at cN ⊢
            by_cases z : C 73 sort < 2
            · rw [if_pos z]
            · rw [if_neg z] at cN; exact absurd rfl cN
          have wx := ws_73 (F := F4) (C := C4) S (i := sort) (by omega) (by omega) (C 73 sort + 1)
          rw [zsC_W] at wx
          have es := m_store (F := F4) (C := zsW C4 73 (up1 (C4 73) sort (C 73 sort + 1))) S (t := -1) cs.1 cs.2 (k := C 73 sort) (by omega) (by omega)
          rw [zsW_W, zsW_s, zsW_a (by omega)] at es
          refine ⟨F4, zsW C4 73 (stR (up1 (C4 73) sort (C 73 sort + 1)) (plS sort (C 73 sort)) (C4 75) (szS sort)), F4o, fun a h1 h2 => (zsW_a h1).trans (C4o a h1 h2), fun z => absurd z cN, fun _ z => absurd f0 z, fun _ _ => ⟨?_, C4 75, u4, ?_⟩⟩
          rotate_left
          · rw [zsW_s, row4, if_pos ct, eK]
          · have dm : decide (i32 (-1) ≠ i32 (-1)) = false := by decide
            rw [go2, e_Model_text_76, eK, ct]
            simp only [zoI_s, zoR_s, zoH_s, zoL_s, zbI_s, zbV_s, zbR_s, zbL_s, zif_t, zif_f, zrz_0, zrz_1, decide_true, decide_false, wg_776 S, r4.1, d0ne, wg_773 S, r773, d0eq, wr_768 S, w5, dm, ws4, i32_add, wx, es]
        · have eK : nuF (C 73) sort t = t := by
            rw [eN] at cN ⊢
            rw [if_neg ct] at cN ⊢
            by_cases z : 0 ≤ t ∧ t < C 73 sort
            · rw [if_pos z]
            · rw [if_neg z] at cN; exact absurd rfl cN
          rw [eK] at nr
          have es := m_store (F := F4) (C := C4) S (t := t) cs.1 cs.2 (k := t) nr.1 nr.2
          refine ⟨F4, zsW C4 73 (stR (C4 73) (plS sort t) (C4 75) (szS sort)), F4o, fun a h1 h2 => (zsW_a h1).trans (C4o a h1 h2), fun z => absurd z cN, fun _ z => absurd f0 z, fun _ _ => ⟨?_, C4 75, u4, ?_⟩⟩
          rotate_left
          · rw [zsW_s, row4, if_neg ct, eK]
          · have dm : decide (i32 t ≠ i32 (-1)) = true := dT (by rw [ne_eq, i32_eq (by omega) (by omega) (by omega) (by omega)]; exact ct)
            rw [go2, e_Model_text_76, eK]
            simp only [zoI_s, zoR_s, zoH_s, zoL_s, zbI_s, zbV_s, zbR_s, zbL_s, zif_t, zif_f, zrz_0, zrz_1, decide_true, decide_false, wg_776 S, r4.1, d0ne, wg_773 S, r773, d0eq, wr_768 S, w5, dm, es]
      · refine ⟨F4, C4, F4o, C4o, fun z => absurd z cN, fun _ _ => ⟨?_, row4⟩, fun _ z => absurd z f0⟩
        have d5 : decide (i32 (prS B n sort).1.2.1 = 0) = false := by
          have qr : 0 ≤ (prS B n sort).1.2.1 ∧ (prS B n sort).1.2.1 ≤ 3 := prS_f n0 cs.1 cs.2
          exact dF (by rw [i32_0, i32_eq (by omega) (by omega) (by omega) (by omega)]; exact f0)
        rw [go2, e_Model_text_76]
        by_cases f1 : (prS B n sort).1.2.1 = 1
        · have r4 := R4.1.1 f1
          simp only [zoI_s, zoR_s, zoH_s, zoL_s, zbI_s, zbV_s, zbR_s, zbL_s, zif_t, zif_f, zrz_0, zrz_1, decide_true, decide_false, wg_776 S, r4, d1ne, wr_768 S, w5, d5]
        · have r4 := R4.1.2 f1
          have k0 : kM B n (prS B n sort).1.1 = 0 := kM_0.mpr (x4.resolve_left f1)
          have r773 := r4.2.2.2.1
          rw [k0] at r773
          simp only [zoI_s, zoR_s, zoH_s, zoL_s, zbI_s, zbV_s, zbR_s, zbL_s, zif_t, zif_f, zrz_0, zrz_1, decide_true, decide_false, wg_776 S, r4.1, d0ne, wg_773 S, r773, d0eq, wr_768 S, w5, d5]
  · rw [if_neg cs] at eI
    have eN : nuF (C 73) sort t = -2 := by unfold nuF; rw [if_neg cs]
    refine ⟨zsF F 770 72 n, zsC (zsC (zsC C 73 4 0) 73 5 0) 73 6 (-1), fun k a ha => zsF_a ha, fun a ha _ => oth0 a ha, fun _ => ⟨?_, row0⟩, fun z => absurd eN z, fun z => absurd eN z⟩
    simp only [zoI_s, zoR_s, zoH_s, zoL_s, zbI_s, zbV_s, zbR_s, zbL_s, zif_t, zif_f, zrz_0, zrz_1, decide_true, decide_false, e_Model_text, wr_768 S, w4, wp_770 S, s4, s5, s6, eI, d0eq]
end TX
