/-! the reference reads a duchy's line, a year's, a log's -/
section ME
variable {h : zHeap} {F : Nat → Nat → Int} {C : Nat → Int → Int} {B : Int → Int} {n : Int} {q : Int × Int × Int} {T : Int → Int}
theorem scQ_0 (hz : (scQ B n q).2.1 = 0) : q.2.1 = 0 := by
  unfold scQ at hz
  split at hz
  · exact hz
  · split at hz
    · exact hz
    · have : (1 : Int) = 0 := hz
      omega
theorem m_fin (S : St h) (P : tpM F C B n) (R : mlR F C B n q) (I : 0 ≤ q.1 ∧ q.1 ≤ n) {sort : Int} (D : dtM C sort q.2.1 T) : ∃ F' C', zc 214 [zR (some 72)] (zw h F C) = some (zI 0, zw h F' C') ∧ rm2 F F' ∧ cM C C' ∧ mlR F' C' B n (scQ B n q) ∧ dtM C' sort (scQ B n q).2.1 T := by
  obtain ⟨F1, C1, e1, rd1, c1, y1, R1⟩ := m_endsLine S P R I
  exact ⟨F1, C1, e1, rd1, c1, R1, (D.row y1).ff (fun z => ⟨scQ_0 z, rfl⟩)⟩
theorem lnQ_e {sort l : Int} (hl : lnL B n sort q.1 = l) (h1 : l ≠ -1) : lnQ B n sort T q = scQ B n (l3Q B n l T q) ∧ lnT B n sort T q = (if (l3Q B n l T q).2.1 = 0 then kpS l (vlS B n q.1) (tW B n (l2Q B n l T q).1 - 11) T else T) := by
  unfold lnQ lnT
  rw [hl, if_neg h1, if_neg h1]
  exact ⟨rfl, rfl⟩
theorem l3_n {l : Int} (h4 : l ≠ 4) : l3Q B n l T q = l2Q B n l T q := by unfold l3Q; rw [if_neg h4]
theorem qI.l3 (hn : n ≤ 600) (I : qI n q) (cf : q.2.1 ≠ 1) (sn : q.1 < n) {l : Int} : qI n (l2Q B n l T q) ∧ qI n (l3Q B n l T q) := by
  have h1 := (I.hd (B := B) (l := l) (c := cnT l T) hn cf sn).1
  have h2 := qI.nm (B := B) hn (tbl l) 0 _ h1
  refine ⟨h2, ?_⟩
  unfold l3Q
  split
  · exact qI.mn hn h2
  · exact h2
theorem lnW0 {w : Int} : lnW 0 w = (if w = 1 then 0 else if w = 2 then 1 else if w = 3 then 2 else if w = 9 then 3 else if w = 4 then 4 else -1) := if_pos rfl
theorem m_duchyLine (S : St h) (P : tpM F C B n) (R : mlR F C B n q) (I : qI n q) (cf : q.2.1 ≠ 1) (hs : tK B n q.1 ≠ 3) (D : dtM C 0 q.2.1 T) : ∃ F' C', zc 218 [zR (some 72)] (zw h F C) = some (zI 0, zw h F' C') ∧ rm2 F F' ∧ cM C C' ∧ mlR F' C' B n (lnQ B n 0 T q) ∧ dtM C' 0 (lnQ B n 0 T q).2.1 (lnT B n 0 T q) := by
  have hn := P.2.1
  have sn := tK_lt hs
  have r72 := (R.1.2 cf).2.1
  have wr := tW_rng B n q.1
  by_cases c9 : tK B n q.1 = 0 ∧ tW B n q.1 = 9
  · -- the cold
    obtain ⟨F1, e1, rd1, R1⟩ := m_comes S P R I.1 cf (w := 9) (by omega) c9
    have hl : lnL B n 0 q.1 = 3 := by unfold lnL; rw [if_pos c9.1, lnW0, c9.2]; rfl
    obtain ⟨g1, g2⟩ := lnQ_e (T := T) hl (by omega)
    have P1 := P.r2 rd1 (cM.rfl C)
    have hd : hdQ B n 3 (cnT 3 T) q = (nxS B n q.1, q.2) := hd_no (fun _ => by show ¬ ((0 : Int) ≤ -1); omega)
    have I1 : qI n (nxS B n q.1, q.2) := by rw [← hd]; exact (I.hd (B := B) (l := 3) (c := cnT 3 T) hn.2 cf sn).1
    obtain ⟨F2, C2, v, e2, rd2, c2, y2, R2, vr, v0⟩ := m_numbered S P1 R1 I1 (lo := 0) (hi := 9) (by omega)
    have e4 : l2Q B n 3 T q = nuQ B n 0 9 (-5) (nxS B n q.1, q.2) := by unfold l2Q; rw [hd]; rfl
    rw [← e4] at R2 v0
    have w3 := ws_75 (F := F2) (C := C2) S (i := 3) (by omega) (by omega) v
    have I3 := (I.l3 (B := B) (T := T) hn.2 cf sn (l := 3)).1
    have P2 := P1.r2 rd2 (c2.s75 (i := 3) (x := v))
    have R3 : mlR F2 (zsC C2 75 3 v) B n (l2Q B n 3 T q) := ⟨R2.1, by rw [zsC_a (by omega)]; exact R2.2.1, by rw [zsC_a (by omega)]; exact R2.2.2⟩
    have D3 : dtM (zsC C2 75 3 v) 0 (l2Q B n 3 T q).2.1 (if (l2Q B n 3 T q).2.1 = 0 then kpS 3 (vlS B n q.1) (tW B n (l2Q B n 3 T q).1 - 11) T else T) := by
      unfold dtM
      rw [zsC_row, y2]
      have d := D.1 rfl
      refine ⟨fun _ => ?_, fun z => by omega, fun z => by omega, fun z => ?_⟩
      · simp (disch := omega) only [up1_s, up1_n]
        exact d
      · rw [if_pos z, v0 z]
        have z1 := l2_0 z
        rw [show tN B n (nxS B n q.1, q.2).1 = vlS B n q.1 0 from (vl_at (j := 0)).symm]
        exact (D.2.2.2 z1.1).up _ _
    obtain ⟨F4, C4, e5, rd4, c4, R4, D4⟩ := m_fin S P2 R3 I3.1 D3
    rw [g1, g2, l3_n (by omega)]
    refine ⟨F4, C4, ?_, (rd1.trans rd2).trans rd4, (c2.s75).trans c4, R4, D4⟩
    simp only [zoI_s, zoR_s, zoH_s, zoL_s, zbI_s, zbV_s, zbR_s, zbL_s, zif_t, zif_f, zrz_0, zrz_1, decide_true, decide_false, e_Model_duchyLine, wg_772 S, r72, wv_72 S, e1, d10, wr_777 S, e2, w3, e5]
  · have e0 := m_comes0 S R cf (w := 9) (by omega) c9
    obtain ⟨F1, C1, e1, rd1, c1, y1, R1⟩ := m_wordIn S P R I.1 (a := 1) (b := 4) (by omega)
    by_cases cw : tK B n q.1 = 0 ∧ (1 ≤ tW B n q.1 ∧ tW B n q.1 ≤ 4)
    · have ew : wdQ B n 1 4 q = (nxS B n q.1, q.2) := by unfold wdQ; rw [if_neg cf, if_pos cw]
      rw [ew] at R1
      rw [if_pos ⟨cf, cw⟩] at e1
      have P1 := P.r2 rd1 c1
      have D1 := D.row y1
      have d := D1.1 rfl
      rcases (show tW B n q.1 = 1 ∨ tW B n q.1 = 2 ∨ tW B n q.1 = 3 ∨ tW B n q.1 = 4 by omega) with w | w | w | w
      · -- a reed
        have hl : lnL B n 0 q.1 = 0 := by unfold lnL; rw [if_pos cw.1, lnW0, w]; rfl
        obtain ⟨g1, g2⟩ := lnQ_e (T := T) hl (by omega)
        obtain ⟨F2, C2, e2, rd2, c2, R2, D2⟩ := m_pair (T := T) (l := 0) (m := tW B n (l2Q B n 0 T q).1 - 11) S P1 R1 I cf sn D1 (Or.inl ⟨rfl, rfl, rfl, rfl, rfl, rfl, rfl⟩)
        have I3 := (I.l3 (B := B) (T := T) hn.2 cf sn (l := 0)).1
        obtain ⟨F4, C4, e5, rd4, c4, R4, D4⟩ := m_fin S (P1.r2 rd2 c2) R2 I3.1 D2
        rw [g1, g2, l3_n (by omega)]
        refine ⟨F4, C4, ?_, (rd1.trans rd2).trans rd4, (c1.trans c2).trans c4, R4, D4⟩
        rw [w] at e1
        simp only [zoI_s, zoR_s, zoH_s, zoL_s, zbI_s, zbV_s, zbR_s, zbL_s, zif_t, zif_f, zrz_0, zrz_1, decide_true, decide_false, e_Model_duchyLine, wg_772 S, r72, wv_72 S, e0, d0eq, e1, t1_1, e2, e5]
      · -- a player
        have hl : lnL B n 0 q.1 = 1 := by unfold lnL; rw [if_pos cw.1, lnW0, w]; rfl
        obtain ⟨g1, g2⟩ := lnQ_e (T := T) hl (by omega)
        have wc := fun (F : Nat → Nat → Int) (C : Nat → Int → Int) => wa_75 (F := F) (C := C) S (i := 1) (by omega) (by omega)
        have ex : q.2.1 = 0 → C1 75 1 = T 1 := fun z => D1.2.2.2 z 1 (by omega) (by omega)
        obtain ⟨C2, e2, c2, y2, R2⟩ : ∃ C2, zc 218 [zR (some 72)] (zw h F C) = zr 218 43 [yR (some 72), yI (i32 (q.1)), yI (i32 2), none] [] (zw h F1 C2) ∧ cM C1 C2 ∧ C2 75 = C1 75 ∧ mlR F1 C2 B n (hdQ B n 1 (cnT 1 T) q) := by
          rw [w] at e1
          by_cases full : 4 ≤ C1 75 1
          · obtain ⟨C2, ea, c2, y2, R2⟩ := m_full (T := T) (l := 1) S R1 I hn.2 cf (fun z => by show 4 ≤ T 1; rw [← ex z]; exact full)
            have dl : decide (i32 (C1 75 1) < i32 4) = false := dF (by rw [i32_lt (by omega) (by omega) (by omega) (by omega)]; omega)
            refine ⟨C2, ?_, c2, y2, R2⟩
            simp only [zoI_s, zoR_s, zoH_s, zoL_s, zbI_s, zbV_s, zbR_s, zbL_s, zif_t, zif_f, zrz_0, zrz_1, decide_true, decide_false, e_Model_duchyLine, wg_772 S, r72, wv_72 S, e0, d0eq, e1, t2_1, t2_2, wr_777 S, wc, dl, ea]
          · have dl : decide (i32 (C1 75 1) < i32 4) = true := dT (by rw [i32_lt (by omega) (by omega) (by omega) (by omega)]; omega)
            refine ⟨C1, ?_, cM.rfl C1, rfl, ?_⟩
            · simp only [zoI_s, zoR_s, zoH_s, zoL_s, zbI_s, zbV_s, zbR_s, zbL_s, zif_t, zif_f, zrz_0, zrz_1, decide_true, decide_false, e_Model_duchyLine, wg_772 S, r72, wv_72 S, e0, d0eq, e1, t2_1, t2_2, wr_777 S, wc, dl]
            · rw [hd_no (fun z => by show ¬ (4 ≤ T 1); rw [← ex z]; exact full)]
              exact R1
        obtain ⟨I1, f1, s1⟩ := I.hd (B := B) (l := 1) (c := cnT 1 T) hn.2 cf sn
        have P2 := P1.r2 (rm2.rfl F1) c2
        obtain ⟨F3, C3, v, e3, rd3, c3, y3, R3, vr, v0⟩ := m_numbered S P2 R2 I1 (lo := 1) (hi := 9) (by omega)
        have e4 : l2Q B n 1 T q = nuQ B n 1 9 (-5) (hdQ B n 1 (cnT 1 T) q) := rfl
        rw [← e4] at R3 v0
        have row : C3 75 = C1 75 := y3.trans y2
        have P3 := P2.r2 rd3 c3
        have I3 := (I.l3 (B := B) (T := T) hn.2 cf sn (l := 1)).1
        have w3 := wc F3 C3
        rw [row] at w3
        rw [g1, g2, l3_n (by omega)]
        by_cases full : 4 ≤ C1 75 1
        · have dl : decide (i32 (C1 75 1) < i32 4) = false := dF (by rw [i32_lt (by omega) (by omega) (by omega) (by omega)]; omega)
          have D3 : dtM C3 0 (l2Q B n 1 T q).2.1 (if (l2Q B n 1 T q).2.1 = 0 then kpS 1 (vlS B n q.1) (tW B n (l2Q B n 1 T q).1 - 11) T else T) := by
            refine (D1.row row).ff (fun z => ?_)
            exfalso
            have := l2_0 z
            exact this.2 (by show 4 ≤ T 1; rw [← ex this.1]; exact full)
          obtain ⟨F4, C4, e5, rd4, c4, R4, D4⟩ := m_fin S P3 R3 I3.1 D3
          refine ⟨F4, C4, ?_, (rd1.trans rd3).trans rd4, ((c1.trans c2).trans c3).trans c4, R4, D4⟩
          rw [e2, e_Model_duchyLine_43]
          simp only [zoI_s, zoR_s, zoH_s, zoL_s, zbI_s, zbV_s, zbR_s, zbL_s, zif_t, zif_f, zrz_0, zrz_1, decide_true, decide_false, wv_72 S, e3, wr_777 S, w3, dl, e5]
        · have dl : decide (i32 (C1 75 1) < i32 4) = true := dT (by rw [i32_lt (by omega) (by omega) (by omega) (by omega)]; omega)
          have wA := ws_75 (F := F3) (C := C3) S (i := 16 + C1 75 1) (by omega) (by omega) v
          have wb := wc F3 (zsC C3 75 (16 + C1 75 1) v)
          rw [zsC_i (by omega), row] at wb
          have wB := ws_75 (F := F3) (C := zsC C3 75 (16 + C1 75 1) v) S (i := 1) (by omega) (by omega) (C1 75 1 + 1)
          have cc := ((c3.s75 (i := 16 + C1 75 1) (x := v))).s75 (i := 1) (x := C1 75 1 + 1)
          have R5 : mlR F3 (zsC (zsC C3 75 (16 + C1 75 1) v) 75 1 (C1 75 1 + 1)) B n (l2Q B n 1 T q) := ⟨R3.1, by rw [zsC_a (by omega), zsC_a (by omega)]; exact R3.2.1, by rw [zsC_a (by omega), zsC_a (by omega)]; exact R3.2.2⟩
          have D3 : dtM (zsC (zsC C3 75 (16 + C1 75 1) v) 75 1 (C1 75 1 + 1)) 0 (l2Q B n 1 T q).2.1 (if (l2Q B n 1 T q).2.1 = 0 then kpS 1 (vlS B n q.1) (tW B n (l2Q B n 1 T q).1 - 11) T else T) := by
            unfold dtM
            rw [zsC_row, zsC_row, row]
            refine ⟨fun _ => ?_, fun z => by omega, fun z => by omega, fun z => ?_⟩
            · simp (disch := omega) only [up1_s, up1_n]
              omega
            · rw [if_pos z, v0 z, s1]
              have z1 := l2_0 z
              rw [show tN B n (nxS B n q.1) = vlS B n q.1 0 from (vl_at (j := 0)).symm, ex z1.1]
              exact ((D1.2.2.2 z1.1).up _ _).up _ _
          obtain ⟨F4, C4, e5, rd4, c4, R4, D4⟩ := m_fin S (P2.r2 rd3 cc) R5 I3.1 D3
          refine ⟨F4, C4, ?_, (rd1.trans rd3).trans rd4, ((c1.trans c2).trans cc).trans c4, R4, D4⟩
          rw [e2, e_Model_duchyLine_43]
          simp only [zoI_s, zoR_s, zoH_s, zoL_s, zbI_s, zbV_s, zbR_s, zbL_s, zif_t, zif_f, zrz_0, zrz_1, decide_true, decide_false, wv_72 S, e3, wr_777 S, w3, dl, i32_add, wA, wb, wB, e5]
      · -- a question
        have hl : lnL B n 0 q.1 = 2 := by unfold lnL; rw [if_pos cw.1, lnW0, w]; rfl
        obtain ⟨g1, g2⟩ := lnQ_e (T := T) hl (by omega)
        obtain ⟨F2, C2, e2, rd2, c2, R2, D2⟩ := m_pair (T := T) (l := 2) (m := tW B n (l2Q B n 2 T q).1 - 11) S P1 R1 I cf sn D1 (Or.inr ⟨rfl, rfl, rfl, rfl, rfl, rfl, rfl⟩)
        have I3 := (I.l3 (B := B) (T := T) hn.2 cf sn (l := 2)).1
        obtain ⟨F4, C4, e5, rd4, c4, R4, D4⟩ := m_fin S (P1.r2 rd2 c2) R2 I3.1 D2
        rw [g1, g2, l3_n (by omega)]
        refine ⟨F4, C4, ?_, (rd1.trans rd2).trans rd4, (c1.trans c2).trans c4, R4, D4⟩
        rw [w] at e1
        simp only [zoI_s, zoR_s, zoH_s, zoL_s, zbI_s, zbV_s, zbR_s, zbL_s, zif_t, zif_f, zrz_0, zrz_1, decide_true, decide_false, e_Model_duchyLine, wg_772 S, r72, wv_72 S, e0, d0eq, e1, t3_1, t3_2, t3_3, e2, e5]
      · -- what a note means
        have hl : lnL B n 0 q.1 = 4 := by unfold lnL; rw [if_pos cw.1, lnW0, w]; rfl
        obtain ⟨g1, g2⟩ := lnQ_e (T := T) hl (by omega)
        have hd : hdQ B n 4 (cnT 4 T) q = (nxS B n q.1, q.2) := hd_no (fun _ => by show ¬ ((0 : Int) ≤ -1); omega)
        have I1 : qI n (nxS B n q.1, q.2) := by rw [← hd]; exact (I.hd (B := B) (l := 4) (c := cnT 4 T) hn.2 cf sn).1
        obtain ⟨F2, C2, v, e2, rd2, c2, y2, R2, vr, v0⟩ := m_numbered S P1 R1 I1 (lo := 0) (hi := 7) (by omega)
        have e4 : l2Q B n 4 T q = nuQ B n 0 7 (-5) (nxS B n q.1, q.2) := by unfold l2Q; rw [hd]; rfl
        rw [← e4] at R2 v0
        have I3 := I.l3 (B := B) (T := T) hn.2 cf sn (l := 4)
        have P2 := P1.r2 rd2 c2
        obtain ⟨F3, C3, e3, rd3, c3, y3, R3⟩ := m_wordIn S P2 R2 I3.1.1 (a := 11) (b := 13) (by omega)
        have em : wdQ B n 11 13 (l2Q B n 4 T q) = l3Q B n 4 T q := rfl
        rw [em] at R3
        have wr2 := tW_rng B n (l2Q B n 4 T q).1
        generalize hu : (if (l2Q B n 4 T q).2.1 ≠ 1 ∧ tK B n (l2Q B n 4 T q).1 = 0 ∧ (11 ≤ tW B n (l2Q B n 4 T q).1 ∧ tW B n (l2Q B n 4 T q).1 ≤ 13) then tW B n (l2Q B n 4 T q).1 else 0) = u at e3
        have wA := ws_75 (F := F3) (C := C3) S (i := 36 + v) (by omega) (by omega) (u - 11)
        have row : C3 75 = C1 75 := y3.trans y2
        have cc := c3.s75 (i := 36 + v) (x := u - 11)
        have R5 : mlR F3 (zsC C3 75 (36 + v) (u - 11)) B n (l3Q B n 4 T q) := ⟨R3.1, by rw [zsC_a (by omega)]; exact R3.2.1, by rw [zsC_a (by omega)]; exact R3.2.2⟩
        have D3 : dtM (zsC C3 75 (36 + v) (u - 11)) 0 (l3Q B n 4 T q).2.1 (if (l3Q B n 4 T q).2.1 = 0 then kpS 4 (vlS B n q.1) (tW B n (l2Q B n 4 T q).1 - 11) T else T) := by
          unfold dtM
          rw [zsC_row, row]
          refine ⟨fun _ => ?_, fun z => by omega, fun z => by omega, fun z => ?_⟩
          · simp (disch := omega) only [up1_s, up1_n]
            omega
          · rw [if_pos z]
            have z0 : (l2Q B n 4 T q).2.1 = 0 ∧ tK B n (l2Q B n 4 T q).1 = 0 ∧ (11 ≤ tW B n (l2Q B n 4 T q).1 ∧ tW B n (l2Q B n 4 T q).1 ≤ 13) := by
              have z' : (mnQ B n (l2Q B n 4 T q)).2.1 = 0 := z
              unfold mnQ at z'
              split at z'
              · omega
              · split at z'
                · rename_i y; exact ⟨z', y⟩
                · have : (1 : Int) = 0 := z'
                  omega
            rw [if_pos ⟨by omega, z0.2⟩] at hu
            rw [v0 z0.1, ← hu, show tN B n (nxS B n q.1, q.2).1 = vlS B n q.1 0 from (vl_at (j := 0)).symm]
            exact (D1.2.2.2 (l2_0 z0.1).1).up _ _
        obtain ⟨F4, C4, e5, rd4, c4, R4, D4⟩ := m_fin S (P2.r2 rd3 cc) R5 I3.2.1 D3
        rw [g1, g2]
        refine ⟨F4, C4, ?_, ((rd1.trans rd2).trans rd3).trans rd4, ((c1.trans c2).trans cc).trans c4, R4, D4⟩
        rw [w] at e1
        simp only [zoI_s, zoR_s, zoH_s, zoL_s, zbI_s, zbV_s, zbR_s, zbL_s, zif_t, zif_f, zrz_0, zrz_1, decide_true, decide_false, e_Model_duchyLine, wg_772 S, r72, wv_72 S, e0, d0eq, e1, t4_1, t4_2, t4_3, t4_4, e2, wr_777 S, e3, i32_add, i32_sub, wA, e5]
    · -- no line begins so
      have ew : wdQ B n 1 4 q = (q.1, 1, q.1) := by unfold wdQ; rw [if_neg cf, if_neg cw]
      rw [ew] at R1
      rw [if_neg (fun z => cw z.2)] at e1
      have hl : lnL B n 0 q.1 = -1 := by
        unfold lnL
        by_cases k : tK B n q.1 = 0
        · rw [if_pos k, lnW0, if_neg (fun z => cw ⟨k, by omega⟩), if_neg (fun z => cw ⟨k, by omega⟩), if_neg (fun z => cw ⟨k, by omega⟩), if_neg (fun z => c9 ⟨k, z⟩), if_neg (fun z => cw ⟨k, by omega⟩)]
        · rw [if_neg k]
      have g1 : lnQ B n 0 T q = (q.1, 1, q.1) := by unfold lnQ; rw [if_pos hl]
      have D3 : dtM C1 0 (q.1, (1 : Int), q.1).2.1 (lnT B n 0 T q) := (D.row y1).ff (fun z => by dsimp only at z; omega)
      obtain ⟨F4, C4, e5, rd4, c4, R4, D4⟩ := m_fin S (P.r2 rd1 c1) R1 I.1 D3
      have e6 : scQ B n (q.1, (1 : Int), q.1) = (q.1, 1, q.1) := if_pos rfl
      rw [e6] at R4 D4
      rw [g1]
      refine ⟨F4, C4, ?_, rd1.trans rd4, c1.trans c4, R4, D4⟩
      simp only [zoI_s, zoR_s, zoH_s, zoL_s, zbI_s, zbV_s, zbR_s, zbL_s, zif_t, zif_f, zrz_0, zrz_1, decide_true, decide_false, e_Model_duchyLine, wg_772 S, r72, wv_72 S, e0, d0eq, e1, t0_1, t0_2, t0_3, t0_4, e5]
end ME
