/-! the reference reads a duchy's line -/
theorem zsC_row (C : Nat → Int → Int) (a : Nat) (i x : Int) : zsC C a i x a = up1 (C a) i x := by
  funext j
  unfold zsC up1
  simp only [true_and]
def eqR (f g : Int → Int) : Prop := ∀ j, 0 ≤ j → j < 241 → f j = g j
theorem eqR.up {f g : Int → Int} (h : eqR f g) (i x : Int) : eqR (up1 f i x) (up1 g i x) := by
  intro j j0 j1
  unfold up1
  split
  · rfl
  · exact h j j0 j1
/-- what is read, as the reference has it -/
def dtM (C : Nat → Int → Int) (sort f : Int) (T : Int → Int) : Prop := (sort = 0 → (0 ≤ C 75 0 ∧ C 75 0 ≤ 6) ∧ (0 ≤ C 75 1 ∧ C 75 1 ≤ 4) ∧ (0 ≤ C 75 2 ∧ C 75 2 ≤ 8)) ∧ (sort = 1 → 0 ≤ C 75 0 ∧ C 75 0 ≤ 40) ∧ (sort = 2 → 0 ≤ C 75 0 ∧ C 75 0 ≤ 8) ∧ (f = 0 → eqR (C 75) T)
theorem dtM.row {C C' : Nat → Int → Int} {sort f : Int} {T : Int → Int} (D : dtM C sort f T) (h : C' 75 = C 75) : dtM C' sort f T := by
  unfold dtM
  rw [h]
  exact D
theorem dtM.ff {C : Nat → Int → Int} {sort f f' : Int} {T T' : Int → Int} (D : dtM C sort f T) (h : f' = 0 → f = 0 ∧ T' = T) : dtM C sort f' T' := ⟨D.1, D.2.1, D.2.2.1, fun z => by rw [(h z).2]; exact D.2.2.2 (h z).1⟩
section MD
variable {h : zHeap} {F : Nat → Nat → Int} {C : Nat → Int → Int} {B : Int → Int} {n : Int} {q : Int × Int × Int} {T : Int → Int}
/-- behind the first word: too many -/
theorem m_full (S : St h) (R : mlR F C B n (nxS B n q.1, q.2)) (I : qI n q) (hn : n ≤ 600) (cf : q.2.1 ≠ 1) {l : Int} (hl : q.2.1 = 0 → lmF l ≤ cnT l T) : ∃ C', zc 211 [zR (some 72), zI (i32 3), zI (i32 (q.1))] (zw h F C) = some (zI 0, zw h F C') ∧ cM C C' ∧ C' 75 = C 75 ∧ mlR F C' B n (hdQ B n l (cnT l T) q) := by
  unfold hdQ
  by_cases c0 : q.2.1 = 0
  · rw [if_pos ⟨c0, hl c0⟩]
    refine ⟨zsC (zsC C 73 5 3) 73 6 q.1, m_also0 S R c0, (cM.rfl C).s5.s6, by rw [zsC_a (by omega), zsC_a (by omega)], ⟨⟨fun z => by dsimp only at z; omega, fun _ => R.1.2 cf⟩, by simp (disch := omega) only [zoI_s, zoR_s, zoH_s, zoL_s, zbI_s, zbV_s, zbR_s, zbL_s, zif_t, zif_f, zrz_0, zrz_1, i32_add, i32_mul, i32_sub, i32_neg, zsF_s, zsF_k, zsF_a, zsC_s, zsC_a, zsC_i, zsW_s, zsW_a, Int.add_zero, Int.zero_add, decide_true, decide_false], by simp (disch := omega) only [zoI_s, zoR_s, zoH_s, zoL_s, zbI_s, zbV_s, zbR_s, zbL_s, zif_t, zif_f, zrz_0, zrz_1, i32_add, i32_mul, i32_sub, i32_neg, zsF_s, zsF_k, zsF_a, zsC_s, zsC_a, zsC_i, zsW_s, zsW_a, Int.add_zero, Int.zero_add, decide_true, decide_false]⟩⟩
  · rw [if_neg (fun z => c0 z.1)]
    have i1 := I.1
    have i4 := I.2.2.2.1
    refine ⟨C, m_also1 S R c0 I.2.1 I.2.2.1 (by omega) (by omega) (fun _ => Or.inl (show q.2.2 < q.1 by omega)), cM.rfl C, rfl, R⟩
theorem hd_no {l : Int} (hl : q.2.1 = 0 → ¬ (lmF l ≤ cnT l T)) : hdQ B n l (cnT l T) q = (nxS B n q.1, q.2) := by
  unfold hdQ
  rw [if_neg (fun z => hl z.1 z.2)]
theorem nmQ_c1 (a : Int × Int × Bool) (ha : a.2.2 = false) (q : Int × Int × Int) : nmQ B n [a] 0 q = nuQ B n a.1 a.2.1 (-5) q := by
  rw [nmQ, nmQ, ha]; rfl
/-- a fault stays away only where none was, and nothing is too much -/
theorem l2_0 {l : Int} (hz : (l2Q B n l T q).2.1 = 0) : q.2.1 = 0 ∧ ¬ (lmF l ≤ cnT l T) := by
  have z1 := (nmQ_0 (tbl l) 0 (hdQ B n l (cnT l T) q) hz).1
  unfold hdQ at z1
  by_cases y : q.2.1 = 0 ∧ lmF l ≤ cnT l T
  · rw [if_pos y] at z1
    have : (3 : Int) = 0 := z1
    omega
  · rw [if_neg y] at z1
    exact ⟨z1, fun w => y ⟨z1, w⟩⟩
theorem m_pair (S : St h) (P : tpM F C B n) (R : mlR F C B n (nxS B n q.1, q.2)) (I : qI n q) (cf : q.2.1 ≠ 1) (sn : q.1 < n) (D : dtM C 0 q.2.1 T) {l m c base lim lo hi hi2 : Int} (hl : (l = 0 ∧ c = 0 ∧ base = 4 ∧ lim = 6 ∧ lo = 0 ∧ hi = 9 ∧ hi2 = 7) ∨ (l = 2 ∧ c = 2 ∧ base = 20 ∧ lim = 8 ∧ lo = 1 ∧ hi = 15 ∧ hi2 = 3)) : ∃ F' C', zc 217 [zR (some 72), zI (i32 (q.1)), zI (i32 c), zI (i32 base), zI (i32 lim), zI (i32 lo), zI (i32 hi), zI (i32 hi2)] (zw h F C) = some (zI 0, zw h F' C') ∧ rm2 F F' ∧ cM C C' ∧ mlR F' C' B n (l2Q B n l T q) ∧ dtM C' 0 (l2Q B n l T q).2.1 (if (l2Q B n l T q).2.1 = 0 then kpS l (vlS B n q.1) m T else T) := by
  have hn := P.2.1
  have eL : lmF l = lim ∧ cnT l T = T c := by rcases hl with ⟨rfl, rfl, rfl, rfl, rfl, rfl, rfl⟩ | ⟨rfl, rfl, rfl, rfl, rfl, rfl, rfl⟩ <;> exact ⟨rfl, rfl⟩
  have eB : tbl l = [(lo, hi, false), (0, hi2, false)] := by rcases hl with ⟨rfl, rfl, rfl, rfl, rfl, rfl, rfl⟩ | ⟨rfl, rfl, rfl, rfl, rfl, rfl, rfl⟩ <;> rfl
  have cr : 0 ≤ C 75 c ∧ C 75 c ≤ lim := by
    have d := D.1 rfl
    rcases hl with ⟨rfl, rfl, rfl, rfl, rfl, rfl, rfl⟩ | ⟨rfl, rfl, rfl, rfl, rfl, rfl, rfl⟩
    · exact d.1
    · exact d.2.2
  have ex : q.2.1 = 0 → C 75 c = T c := fun z => D.2.2.2 z c (by omega) (by omega)
  have r776 : F 776 72 = 0 := (R.1.2 cf).1
  have wc := fun (F : Nat → Nat → Int) (C : Nat → Int → Int) => wa_75 (F := F) (C := C) S (i := c) (by omega) (by omega)
  obtain ⟨C1, e1, c1, y1, R1⟩ : ∃ C1, zc 217 [zR (some 72), zI (i32 (q.1)), zI (i32 c), zI (i32 base), zI (i32 lim), zI (i32 lo), zI (i32 hi), zI (i32 hi2)] (zw h F C) = zr 217 13 [yR (some 72), yI (i32 (q.1)), yI (i32 c), yI (i32 base), yI (i32 lim), yI (i32 lo), yI (i32 hi), yI (i32 hi2), none, none] [] (zw h F C1) ∧ cM C C1 ∧ C1 75 = C 75 ∧ mlR F C1 B n (hdQ B n l (cnT l T) q) := by
    by_cases full : lim ≤ C 75 c
    · obtain ⟨C1, ea, c1, y1, R1⟩ := m_full (T := T) (l := l) S R I hn.2 cf (fun z => by rw [eL.1, eL.2, ← ex z]; exact full)
      have dl : decide (i32 (C 75 c) < i32 lim) = false := dF (by rw [i32_lt (by omega) (by omega) (by omega) (by omega)]; omega)
      refine ⟨C1, ?_, c1, y1, R1⟩
      simp only [zoI_s, zoR_s, zoH_s, zoL_s, zbI_s, zbV_s, zbR_s, zbL_s, zif_t, zif_f, zrz_0, zrz_1, decide_true, decide_false, e_Model_pairTold, wg_776 S, r776, d0ne, wr_777 S, wc, dl, wv_72 S, ea]
    · have dl : decide (i32 (C 75 c) < i32 lim) = true := dT (by rw [i32_lt (by omega) (by omega) (by omega) (by omega)]; omega)
      refine ⟨C, ?_, cM.rfl C, rfl, ?_⟩
      · simp only [zoI_s, zoR_s, zoH_s, zoL_s, zbI_s, zbV_s, zbR_s, zbL_s, zif_t, zif_f, zrz_0, zrz_1, decide_true, decide_false, e_Model_pairTold, wg_776 S, r776, d0ne, wr_777 S, wc, dl]
      · rw [hd_no (fun z => by rw [eL.1, eL.2, ← ex z]; exact full)]
        exact R
  have P1 := P.r2 (rm2.rfl F) c1
  obtain ⟨I1, f1, s1⟩ := I.hd (B := B) (l := l) (c := cnT l T) hn.2 cf sn
  obtain ⟨F2, C2, va, e2, rd2, c2, y2, R2, vr2, v2⟩ := m_numbered S P1 R1 I1 (lo := lo) (hi := hi) (by omega)
  have I2 := I1.nu (B := B) (lo := lo) (hi := hi) (x := -5) hn.2
  have P2 := P1.r2 rd2 c2
  obtain ⟨F3, C3, vb, e3, rd3, c3, y3, R3, vr3, v3⟩ := m_numbered S P2 R2 I2 (lo := 0) (hi := hi2) (by omega)
  have e4 : l2Q B n l T q = nuQ B n 0 hi2 (-5) (nuQ B n lo hi (-5) (hdQ B n l (cnT l T) q)) := by
    unfold l2Q
    rw [eB]
    rfl
  rw [← e4] at R3 v3
  have row : C3 75 = C 75 := y3.trans (y2.trans y1)
  have w3 := wc F3 C3
  rw [row] at w3
  by_cases full : lim ≤ C 75 c
  · have dl : decide (i32 (C 75 c) < i32 lim) = false := dF (by rw [i32_lt (by omega) (by omega) (by omega) (by omega)]; omega)
    refine ⟨F3, C3, ?_, rd2.trans rd3, (c1.trans c2).trans c3, R3, ?_⟩
    · rw [e1, e_Model_pairTold_13]
      simp only [zoI_s, zoR_s, zoH_s, zoL_s, zbI_s, zbV_s, zbR_s, zbL_s, zif_t, zif_f, zrz_0, zrz_1, decide_true, decide_false, wv_72 S, e2, e3, wr_777 S, w3, dl]
    · refine (D.row row).ff (fun z => ?_)
      exfalso
      have := l2_0 z
      rw [eL.1, eL.2, ← ex this.1] at this
      exact this.2 full
  · have dl : decide (i32 (C 75 c) < i32 lim) = true := dT (by rw [i32_lt (by omega) (by omega) (by omega) (by omega)]; omega)
    have wA := ws_75 (F := F3) (C := C3) S (i := base + 2 * C 75 c) (by omega) (by omega) va
    have wa := wc F3 (zsC C3 75 (base + 2 * C 75 c) va)
    rw [zsC_i (by omega), row] at wa
    have wB := ws_75 (F := F3) (C := zsC C3 75 (base + 2 * C 75 c) va) S (i := base + 1 + 2 * C 75 c) (by omega) (by omega) vb
    have wb := wc F3 (zsC (zsC C3 75 (base + 2 * C 75 c) va) 75 (base + 1 + 2 * C 75 c) vb)
    rw [zsC_i (by omega), zsC_i (by omega), row] at wb
    have wC := ws_75 (F := F3) (C := zsC (zsC C3 75 (base + 2 * C 75 c) va) 75 (base + 1 + 2 * C 75 c) vb) S (i := c) (by omega) (by omega) (C 75 c + 1)
    refine ⟨F3, zsC (zsC (zsC C3 75 (base + 2 * C 75 c) va) 75 (base + 1 + 2 * C 75 c) vb) 75 c (C 75 c + 1), ?_, rd2.trans rd3, ((c1.trans c2).trans c3).s75.s75.s75, ?_, ?_⟩
    · rw [e1, e_Model_pairTold_13]
      simp only [zoI_s, zoR_s, zoH_s, zoL_s, zbI_s, zbV_s, zbR_s, zbL_s, zif_t, zif_f, zrz_0, zrz_1, decide_true, decide_false, wv_72 S, e2, e3, wr_777 S, w3, dl, i32_mul, i32_add, wA, wa, wB, wb, wC]
    · refine ⟨R3.1, ?_, ?_⟩
      · rw [zsC_a (by omega), zsC_a (by omega), zsC_a (by omega)]; exact R3.2.1
      · rw [zsC_a (by omega), zsC_a (by omega), zsC_a (by omega)]; exact R3.2.2
    · have eR : zsC (zsC (zsC C3 75 (base + 2 * C 75 c) va) 75 (base + 1 + 2 * C 75 c) vb) 75 c (C 75 c + 1) 75 = up1 (up1 (up1 (C 75) (base + 2 * C 75 c) va) (base + 1 + 2 * C 75 c) vb) c (C 75 c + 1) := by rw [zsC_row, zsC_row, zsC_row, row]
      unfold dtM
      rw [eR]
      have d := D.1 rfl
      refine ⟨fun _ => ?_, fun z => by omega, fun z => by omega, fun z => ?_⟩
      · rcases hl with ⟨rfl, rfl, rfl, rfl, rfl, rfl, rfl⟩ | ⟨rfl, rfl, rfl, rfl, rfl, rfl, rfl⟩
        · simp (disch := omega) only [up1_s, up1_n]
          omega
        · simp (disch := omega) only [up1_s, up1_n]
          omega
      · rw [if_pos z]
        have z1 := l2_0 z
        have z2 : (nuQ B n lo hi (-5) (hdQ B n l (cnT l T) q)).2.1 = 0 := by
          have y := (nmQ_0 [(0, hi2, false)] 0 (nuQ B n lo hi (-5) (hdQ B n l (cnT l T) q)) (by rw [nmQ_c1 _ rfl, ← e4]; exact z)).1
          exact y
        have xa := v2 z2
        have xb := v3 z
        have s2 := (nuQ_ok (B := B) (n := n) (lo := lo) (hi := hi) (x := -5) (q := hdQ B n l (cnT l T) q) (by omega)).2.2
        rw [s1] at xa
        rw [s2, s1] at xb
        have ea : va = vlS B n q.1 0 := xa.trans (vl_at (j := 0)).symm
        have eb : vb = vlS B n q.1 1 := xb.trans (vl_at (j := 1)).symm
        have eq0 := D.2.2.2 z1.1
        rw [ea, eb, ex z1.1]
        have kp : kpS l (vlS B n q.1) m T = up1 (up1 (up1 T (base + 2 * T c) (vlS B n q.1 0)) (base + 1 + 2 * T c) (vlS B n q.1 1)) c (T c + 1) := by
          rcases hl with ⟨rfl, rfl, rfl, rfl, rfl, rfl, rfl⟩ | ⟨rfl, rfl, rfl, rfl, rfl, rfl, rfl⟩
          · rfl
          · rfl
        rw [kp]
        exact ((eq0.up _ _).up _ _).up _ _
end MD
