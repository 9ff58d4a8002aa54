/-! the reference reads a log's line -/
section MG
variable {h : zHeap} {F : Nat → Nat → Int} {C : Nat → Int → Int} {B : Int → Int} {n : Int} {q : Int × Int × Int} {T : Int → Int}
theorem m_log23 (S : St h) (P : tpM F C B n) (R : mlR F C B n q) (I : qI n q) (c0 : 0 ≤ C 75 0 ∧ C 75 0 ≤ 8) {t d : Int} (hd : d = 0 ∨ d = 1 ∨ d = -14) : ∃ F' C' x, zr 220 23 [yR (some 72), yI (i32 t), yI (i32 d), none, none, none, none] [] (zw h F C) = (zbV (zv 12 214 [zR (some 72)] (zw h F' C')) fun h9 => some (zI 0, h9)) ∧ rm2 F F' ∧ cM C C' ∧ mlR F' C' B n (nmQ B n (if d = 1 then [(0, 3, false), (0, 7, false)] else [(0, 3, false), (0, 7, false), (0, 7, false)]) 0 q) ∧ (0 ≤ C' 75 0 ∧ C' 75 0 ≤ 8) ∧ ((nmQ B n (if d = 1 then [(0, 3, false), (0, 7, false)] else [(0, 3, false), (0, 7, false), (0, 7, false)]) 0 q).2.1 = 0 → C 75 0 < 8 → C' 75 = up1 (up1 (up1 (up1 (C 75) (1 + 3 * C 75 0) (tN B n (psN B n q.1 0))) (2 + 3 * C 75 0) (tN B n (psN B n q.1 1))) (3 + 3 * C 75 0) x) 0 (C 75 0 + 1) ∧ (x = if d = 1 then -1 else tN B n (psN B n q.1 2))) := by
  have hn := P.2.1
  obtain ⟨F1, C1, a, e1, rd1, c1, y1, R1, vr1, v1⟩ := m_numbered S P R I (lo := 0) (hi := 3) (by omega)
  have I1 := I.nu (B := B) (lo := 0) (hi := 3) (x := -5) hn.2
  have P1 := P.r2 rd1 c1
  obtain ⟨F2, C2, b, e2, rd2, c2, y2, R2, vr2, v2⟩ := m_numbered S P1 R1 I1 (lo := 0) (hi := 7) (by omega)
  have I2 := I1.nu (B := B) (lo := 0) (hi := 7) (x := -5) hn.2
  have P2 := P1.r2 rd2 c2
  have wfin : ∀ (F3 : Nat → Nat → Int) (C3 : Nat → Int → Int) (x : Int), C3 75 = C 75 → C 75 0 < 8 → zaS (zw h F3 C3) (some 75) (i32 (1 + 3 * C 75 0)) (i32 a) = some (zw h F3 (zsC C3 75 (1 + 3 * C 75 0) a)) ∧ zaS (zw h F3 (zsC C3 75 (1 + 3 * C 75 0) a)) (some 75) (i32 (1 + 3 * C 75 0 + 1)) (i32 b) = some (zw h F3 (zsC (zsC C3 75 (1 + 3 * C 75 0) a) 75 (1 + 3 * C 75 0 + 1) b)) ∧ zaS (zw h F3 (zsC (zsC C3 75 (1 + 3 * C 75 0) a) 75 (1 + 3 * C 75 0 + 1) b)) (some 75) (i32 (1 + 3 * C 75 0 + 2)) (i32 x) = some (zw h F3 (zsC (zsC (zsC C3 75 (1 + 3 * C 75 0) a) 75 (1 + 3 * C 75 0 + 1) b) 75 (1 + 3 * C 75 0 + 2) x)) ∧ zaI (zw h F3 (zsC (zsC (zsC C3 75 (1 + 3 * C 75 0) a) 75 (1 + 3 * C 75 0 + 1) b) 75 (1 + 3 * C 75 0 + 2) x)) (some 75) (i32 0) 0 = some (i32 (C 75 0)) ∧ zaS (zw h F3 (zsC (zsC (zsC C3 75 (1 + 3 * C 75 0) a) 75 (1 + 3 * C 75 0 + 1) b) 75 (1 + 3 * C 75 0 + 2) x)) (some 75) (i32 0) (i32 (C 75 0 + 1)) = some (zw h F3 (zsC (zsC (zsC (zsC C3 75 (1 + 3 * C 75 0) a) 75 (1 + 3 * C 75 0 + 1) b) 75 (1 + 3 * C 75 0 + 2) x) 75 0 (C 75 0 + 1))) := by
    intro F3 C3 x row lt
    refine ⟨ws_75 S (by omega) (by omega) a, ws_75 S (by omega) (by omega) b, ws_75 S (by omega) (by omega) x, ?_, ws_75 S (by omega) (by omega) _⟩
    rw [wa_75 S (by omega) (by omega), zsC_i (by omega), zsC_i (by omega), zsC_i (by omega), row]
  have wrow : ∀ (C3 : Nat → Int → Int) (x : Int), C3 75 = C 75 → zsC (zsC (zsC (zsC C3 75 (1 + 3 * C 75 0) a) 75 (1 + 3 * C 75 0 + 1) b) 75 (1 + 3 * C 75 0 + 2) x) 75 0 (C 75 0 + 1) 75 = up1 (up1 (up1 (up1 (C 75) (1 + 3 * C 75 0) a) (2 + 3 * C 75 0) b) (3 + 3 * C 75 0) x) 0 (C 75 0 + 1) := by
    intro C3 x row
    rw [zsC_row, zsC_row, zsC_row, zsC_row, row, show 1 + 3 * C 75 0 + 1 = 2 + 3 * C 75 0 by omega, show 1 + 3 * C 75 0 + 2 = 3 + 3 * C 75 0 by omega]
  by_cases cd : d = 1
  · rw [if_pos cd]
    have d1 : decide (i32 d ≠ i32 1) = false := dF (by rw [cd]; exact fun z => z rfl)
    have eq : nmQ B n [(0, 3, false), (0, 7, false)] 0 q = nuQ B n 0 7 (-5) (nuQ B n 0 3 (-5) q) := rfl
    rw [eq]
    have row : C2 75 = C 75 := y2.trans y1
    have w2 := wa_75 (F := F2) (C := C2) S (i := 0) (by omega) (by omega)
    rw [row] at w2
    by_cases full : 8 ≤ C 75 0
    · have dl : decide (i32 8 ≤ i32 (C 75 0)) = true := dT (by rw [i32_le (by omega) (by omega) (by omega) (by omega)]; exact full)
      refine ⟨F2, C2, 0, ?_, rd1.trans rd2, c1.trans c2, R2, by rw [row]; exact c0, fun _ z => by omega⟩
      rw [e_Model_logLine_23]
      simp only [zoI_s, zoR_s, zoH_s, zoL_s, zbI_s, zbV_s, zbR_s, zbL_s, zif_t, zif_f, zrz_0, zrz_1, decide_true, decide_false, wv_72 S, e1, e2, d1, wr_777 S, w2, dl]
    · have dl : decide (i32 8 ≤ i32 (C 75 0)) = false := dF (by rw [i32_le (by omega) (by omega) (by omega) (by omega)]; exact full)
      obtain ⟨g1, g2, g3, g4, g5⟩ := wfin F2 C2 (-1) row (by omega)
      refine ⟨F2, zsC (zsC (zsC (zsC C2 75 (1 + 3 * C 75 0) a) 75 (1 + 3 * C 75 0 + 1) b) 75 (1 + 3 * C 75 0 + 2) (-1)) 75 0 (C 75 0 + 1), -1, ?_, rd1.trans rd2, (c1.trans c2).s75.s75.s75.s75, ⟨R2.1, ?_, ?_⟩, ?_, fun z lt => ⟨?_, by rw [if_pos cd]⟩⟩
      · rw [e_Model_logLine_23]
        simp only [zoI_s, zoR_s, zoH_s, zoL_s, zbI_s, zbV_s, zbR_s, zbL_s, zif_t, zif_f, zrz_0, zrz_1, decide_true, decide_false, wv_72 S, e1, e2, d1, wr_777 S, w2, dl, i32_mul, i32_add, g1, g2, g3, g4, g5]
      · rw [zsC_a (by omega), zsC_a (by omega), zsC_a (by omega), zsC_a (by omega)]; exact R2.2.1
      · rw [zsC_a (by omega), zsC_a (by omega), zsC_a (by omega), zsC_a (by omega)]; exact R2.2.2
      · rw [zsC_s]; omega
      · rw [wrow _ _ row]
        have z1 : (nuQ B n 0 3 (-5) q).2.1 = 0 := (nmQ_0 [(0, 7, false)] 0 (nuQ B n 0 3 (-5) q) (by rw [nmQ_c1 _ rfl]; exact z)).1
        rw [v1 z1, v2 z, (nuQ_ok (B := B) (n := n) (lo := 0) (hi := 3) (x := -5) (q := q) (by omega)).2.2]
        rfl
  · rw [if_neg cd]
    have d1 : decide (i32 d ≠ i32 1) = true := dT (by rw [ne_eq, i32_eq (by omega) (by omega) (by omega) (by omega)]; exact cd)
    obtain ⟨F3, C3, x, e3, rd3, c3, y3, R3, vr3, v3⟩ := m_numbered S P2 R2 I2 (lo := 0) (hi := 7) (by omega)
    have eq : nmQ B n [(0, 3, false), (0, 7, false), (0, 7, false)] 0 q = nuQ B n 0 7 (-5) (nuQ B n 0 7 (-5) (nuQ B n 0 3 (-5) q)) := rfl
    rw [eq]
    have row : C3 75 = C 75 := y3.trans (y2.trans y1)
    have w2 := wa_75 (F := F3) (C := C3) S (i := 0) (by omega) (by omega)
    rw [row] at w2
    by_cases full : 8 ≤ C 75 0
    · have dl : decide (i32 8 ≤ i32 (C 75 0)) = true := dT (by rw [i32_le (by omega) (by omega) (by omega) (by omega)]; exact full)
      refine ⟨F3, C3, 0, ?_, (rd1.trans rd2).trans rd3, (c1.trans c2).trans c3, R3, by rw [row]; exact c0, fun _ z => by omega⟩
      rw [e_Model_logLine_23]
      simp only [zoI_s, zoR_s, zoH_s, zoL_s, zbI_s, zbV_s, zbR_s, zbL_s, zif_t, zif_f, zrz_0, zrz_1, decide_true, decide_false, wv_72 S, e1, e2, d1, e3, wr_777 S, w2, dl]
    · have dl : decide (i32 8 ≤ i32 (C 75 0)) = false := dF (by rw [i32_le (by omega) (by omega) (by omega) (by omega)]; exact full)
      obtain ⟨g1, g2, g3, g4, g5⟩ := wfin F3 C3 x row (by omega)
      refine ⟨F3, zsC (zsC (zsC (zsC C3 75 (1 + 3 * C 75 0) a) 75 (1 + 3 * C 75 0 + 1) b) 75 (1 + 3 * C 75 0 + 2) x) 75 0 (C 75 0 + 1), x, ?_, (rd1.trans rd2).trans rd3, ((c1.trans c2).trans c3).s75.s75.s75.s75, ⟨R3.1, ?_, ?_⟩, ?_, fun z lt => ?_⟩
      · rw [e_Model_logLine_23]
        simp only [zoI_s, zoR_s, zoH_s, zoL_s, zbI_s, zbV_s, zbR_s, zbL_s, zif_t, zif_f, zrz_0, zrz_1, decide_true, decide_false, wv_72 S, e1, e2, d1, e3, wr_777 S, w2, dl, i32_mul, i32_add, g1, g2, g3, g4, g5]
      · rw [zsC_a (by omega), zsC_a (by omega), zsC_a (by omega), zsC_a (by omega)]; exact R3.2.1
      · rw [zsC_a (by omega), zsC_a (by omega), zsC_a (by omega), zsC_a (by omega)]; exact R3.2.2
      · rw [zsC_s]; omega
      · have z2 : (nuQ B n 0 7 (-5) (nuQ B n 0 3 (-5) q)).2.1 = 0 := (nmQ_0 [(0, 7, false)] 0 (nuQ B n 0 7 (-5) (nuQ B n 0 3 (-5) q)) (by rw [nmQ_c1 _ rfl]; exact z)).1
        have z1 : (nuQ B n 0 3 (-5) q).2.1 = 0 := (nmQ_0 [(0, 7, false)] 0 (nuQ B n 0 3 (-5) q) (by rw [nmQ_c1 _ rfl]; exact z2)).1
        have s1 := (nuQ_ok (B := B) (n := n) (lo := 0) (hi := 3) (x := -5) (q := q) (by omega)).2.2
        have s2 := (nuQ_ok (B := B) (n := n) (lo := 0) (hi := 7) (x := -5) (q := nuQ B n 0 3 (-5) q) (by omega)).2.2
        refine ⟨?_, ?_⟩
        · rw [wrow _ _ row, v1 z1, v2 z2, s1]
          rfl
        · rw [if_neg cd, v3 z, s2, s1]
          rfl
theorem lnW2 {w : Int} : lnW 2 w = (if w = 14 then 11 else if w = 15 then 12 else -1) := by unfold lnW; rw [if_neg (by omega), if_neg (by omega)]
theorem m_logLine (S : St h) (P : tpM F C B n) (R : mlR F C B n q) (I : qI n q) (cf : q.2.1 ≠ 1) (hs : tK B n q.1 ≠ 3) (D : dtM C 2 q.2.1 T) : ∃ F' C', zc 220 [zR (some 72)] (zw h F C) = some (zI 0, zw h F' C') ∧ rm2 F F' ∧ cM C C' ∧ mlR F' C' B n (lnQ B n 2 T q) ∧ dtM C' 2 (lnQ B n 2 T q).2.1 (lnT B n 2 T q) := by
  have hn := P.2.1
  have sn := tK_lt hs
  have r72 := (R.1.2 cf).2.1
  have wr := tW_rng B n q.1
  obtain ⟨F1, C1, e1, rd1, c1, y1, R1⟩ := m_wordIn S P R I.1 (a := 14) (b := 15) (by omega)
  have D1 := D.row y1
  have cr := D1.2.2.1 rfl
  have P1 := P.r2 rd1 c1
  have wc := wa_75 (F := F1) (C := C1) S (i := 0) (by omega) (by omega)
  by_cases cw : tK B n q.1 = 0 ∧ (14 ≤ tW B n q.1 ∧ tW B n q.1 ≤ 15)
  · have ew : wdQ B n 14 15 q = (nxS B n q.1, q.2) := by unfold wdQ; rw [if_neg cf, if_pos cw]
    rw [ew] at R1
    rw [if_pos ⟨cf, cw⟩] at e1
    have r776 : F1 776 72 = 0 := (R1.1.2 cf).1
    have lr : lnL B n 2 q.1 = tW B n q.1 - 3 := by
      unfold lnL
      rw [if_pos cw.1, lnW2]
      by_cases z : tW B n q.1 = 14
      · rw [if_pos z]; omega
      · rw [if_neg z, if_pos (by omega)]; omega
    have hl : lnL B n 2 q.1 = 11 ∨ lnL B n 2 q.1 = 12 := by omega
    have hd : tW B n q.1 - 14 = 0 ∨ tW B n q.1 - 14 = 1 ∨ tW B n q.1 - 14 = -14 := by omega
    obtain ⟨g1, g2⟩ := lnQ_e (T := T) (rfl : lnL B n 2 q.1 = lnL B n 2 q.1) (by omega)
    generalize hll : lnL B n 2 q.1 = l at *
    have eL : lmF l = 8 ∧ cnT l T = T 0 := by rcases hl with rfl | rfl <;> exact ⟨rfl, rfl⟩
    have ex : q.2.1 = 0 → C1 75 0 = T 0 := fun z => D1.2.2.2 z 0 (by omega) (by omega)
    obtain ⟨C2, e2, c2, y2, R2⟩ : ∃ C2, zc 220 [zR (some 72)] (zw h F C) = zr 220 23 [yR (some 72), yI (i32 (q.1)), yI (i32 (tW B n q.1 - 14)), none, none, none, none] [] (zw h F1 C2) ∧ cM C1 C2 ∧ C2 75 = C1 75 ∧ mlR F1 C2 B n (hdQ B n l (cnT l T) q) := by
      by_cases full : 8 ≤ C1 75 0
      · obtain ⟨C2, ea, c2, y2, R2⟩ := m_full (T := T) (l := l) S R1 I hn.2 cf (fun z => by rw [eL.1, eL.2, ← ex z]; exact full)
        have dl : decide (i32 (C1 75 0) < i32 8) = false := dF (by rw [i32_lt (by omega) (by omega) (by omega) (by omega)]; omega)
        refine ⟨C2, ?_, c2, y2, R2⟩
        simp only [zoI_s, zoR_s, zoH_s, zoL_s, zbI_s, zbV_s, zbR_s, zbL_s, zif_t, zif_f, zrz_0, zrz_1, decide_true, decide_false, e_Model_logLine, wg_772 S, r72, wv_72 S, e1, wg_776 S, r776, d0ne, wr_777 S, wc, dl, ea, i32_sub]
      · have dl : decide (i32 (C1 75 0) < i32 8) = true := dT (by rw [i32_lt (by omega) (by omega) (by omega) (by omega)]; omega)
        refine ⟨C1, ?_, cM.rfl C1, rfl, ?_⟩
        · simp only [zoI_s, zoR_s, zoH_s, zoL_s, zbI_s, zbV_s, zbR_s, zbL_s, zif_t, zif_f, zrz_0, zrz_1, decide_true, decide_false, e_Model_logLine, wg_772 S, r72, wv_72 S, e1, wg_776 S, r776, d0ne, wr_777 S, wc, dl, i32_sub]
        · rw [hd_no (fun z => by rw [eL.1, eL.2, ← ex z]; exact full)]
          exact R1
    obtain ⟨I1, f1, s1⟩ := I.hd (B := B) (l := l) (c := cnT l T) hn.2 cf sn
    obtain ⟨F3, C3, x, e3, rd3, c3, R3, k3, x3⟩ := m_log23 S (P1.r2 (rm2.rfl F1) c2) R2 I1 (by rw [y2]; exact cr) (t := q.1) hd
    have eT : (if tW B n q.1 - 14 = 1 then [((0 : Int), (3 : Int), false), (0, 7, false)] else [(0, 3, false), (0, 7, false), (0, 7, false)]) = tbl l := by
      rcases hl with z | z
      · rw [if_neg (by omega), z]; rfl
      · rw [if_pos (by omega), z]; rfl
    rw [eT] at R3 x3
    have I3 := (I.l3 (B := B) (T := T) hn.2 cf sn (l := l)).1
    have D3 : dtM C3 2 (l2Q B n l T q).2.1 (if (l2Q B n l T q).2.1 = 0 then kpS l (vlS B n q.1) (tW B n (l2Q B n l T q).1 - 11) T else T) := by
      refine ⟨fun z => by omega, fun z => by omega, fun _ => k3, fun z => ?_⟩
      have z1 := l2_0 z
      rw [eL.1, eL.2, ← ex z1.1] at z1
      obtain ⟨x4, x5⟩ := x3 z (by rw [y2]; omega)
      rw [if_pos z, x4, y2, x5, s1, ex z1.1]
      have v0 : tN B n (psN B n (nxS B n q.1) 0) = vlS B n q.1 0 := (vl_at (j := 0)).symm
      have v1 : tN B n (psN B n (nxS B n q.1) 1) = vlS B n q.1 1 := (vl_at (j := 1)).symm
      have v2 : tN B n (psN B n (nxS B n q.1) 2) = vlS B n q.1 2 := (vl_at (j := 2)).symm
      rw [v0, v1, v2]
      have eq0 := D1.2.2.2 z1.1
      rcases hl with y | y
      · rw [if_neg (by omega), y]
        exact (((eq0.up _ _).up _ _).up _ _).up _ _
      · rw [if_pos (by omega), y]
        exact (((eq0.up _ _).up _ _).up _ _).up _ _
    obtain ⟨F4, C4, e5, rd4, c4, R4, D4⟩ := m_fin S ((P1.r2 (rm2.rfl F1) c2).r2 rd3 c3) R3 I3.1 D3
    rw [g1, g2, l3_n (by omega)]
    refine ⟨F4, C4, ?_, (rd1.trans rd3).trans rd4, ((c1.trans c2).trans c3).trans c4, R4, D4⟩
    rw [e2, e3, wv_72 S, e5, zbV_s]
  · have ew : wdQ B n 14 15 q = (q.1, 1, q.1) := by unfold wdQ; rw [if_neg cf, if_neg cw]
    rw [ew] at R1
    rw [if_neg (fun z => cw z.2)] at e1
    have r776 : F1 776 72 = 1 := R1.1.1 rfl
    have hl : lnL B n 2 q.1 = -1 := by
      unfold lnL
      by_cases k : tK B n q.1 = 0
      · rw [if_pos k, lnW2, if_neg (fun z => cw ⟨k, by omega⟩), if_neg (fun z => cw ⟨k, by omega⟩)]
      · rw [if_neg k]
    have g1 : lnQ B n 2 T q = (q.1, 1, q.1) := by unfold lnQ; rw [if_pos hl]
    have I1 : qI n (q.1, (1 : Int), q.1) := ⟨I.1, ⟨by dsimp only; omega, by dsimp only; omega⟩, ⟨by have := I.1; dsimp only; omega, by have := I.1; dsimp only; omega⟩, Or.inr (Or.inl rfl), fun _ => rfl⟩
    obtain ⟨F3, C3, x, e3, rd3, c3, R3, k3, x3⟩ := m_log23 S P1 R1 I1 cr (t := q.1) (d := -14) (Or.inr (Or.inr rfl))
    rw [nmQ_1 _ _ _ rfl] at R3
    have D3 : dtM C3 2 (q.1, (1 : Int), q.1).2.1 (lnT B n 2 T q) := ⟨fun z => by omega, fun z => by omega, fun _ => k3, fun z => by dsimp only at z; omega⟩
    obtain ⟨F4, C4, e5, rd4, c4, R4, D4⟩ := m_fin S (P1.r2 rd3 c3) R3 I.1 D3
    have e6 : scQ B n (q.1, (1 : Int), q.1) = (q.1, 1, q.1) := if_pos rfl
    rw [e6] at R4 D4
    rw [g1]
    refine ⟨F4, C4, ?_, (rd1.trans rd3).trans rd4, (c1.trans c3).trans c4, R4, D4⟩
    have go : zc 220 [zR (some 72)] (zw h F C) = zr 220 23 [yR (some 72), yI (i32 (q.1)), yI (i32 (-14)), none, none, none, none] [] (zw h F1 C1) := by
      simp only [zoI_s, zoR_s, zoH_s, zoL_s, zbI_s, zbV_s, zbR_s, zbL_s, zif_t, zif_f, zrz_0, zrz_1, decide_true, decide_false, e_Model_logLine, wg_772 S, r72, wv_72 S, e1, wg_776 S, r776, d1ne, i32_sub]
      rfl
    rw [go, e3, wv_72 S, e5, zbV_s]
end MG
