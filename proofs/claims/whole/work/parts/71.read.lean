/-! the class reads a text: lines and all -/
def frX (F : Nat → Nat → Int) (C : Nat → Int → Int) (F' : Nat → Nat → Int) (C' : Nat → Int → Int) : Prop := ∀ a, a < 35 ∨ 50 ≤ a → (∀ k, F' k a = F k a) ∧ C' a = C a
theorem frX.rfl (F : Nat → Nat → Int) (C : Nat → Int → Int) : frX F C F C := fun _ _ => ⟨fun _ => Eq.refl _, Eq.refl _⟩
theorem frX.trans {F F1 F2 : Nat → Nat → Int} {C C1 C2 : Nat → Int → Int} (h1 : frX F C F1 C1) (h2 : frX F1 C1 F2 C2) : frX F C F2 C2 := fun a ha => ⟨fun k => ((h2 a ha).1 k).trans ((h1 a ha).1 k), (h2 a ha).2.trans (h1 a ha).2⟩
theorem frX.rd {F F' : Nat → Nat → Int} {C C' : Nat → Int → Int} (h1 : rd2 F F') (h2 : ∀ a, a ≠ 49 → C' a = C a) : frX F C F' C' := fun a ha => ⟨fun k => h1 k a (by omega), h2 a (by omega)⟩
theorem kpF.fx {F F' : Nat → Nat → Int} {C C' : Nat → Int → Int} (h1 : kpF F C F' C') : frX F C F' C' := fun a ha => h1 a (by omega)
theorem tpC.fx {F F' : Nat → Nat → Int} {C C' : Nat → Int → Int} {B : Int → Int} {n : Int} (T : tpC F C B n) (h : frX F C F' C') : tpC F' C' B n := ⟨((h 2 (by omega)).1 513).trans T.1, T.2.1, by rw [(h 3 (by omega)).2]; exact T.2.2⟩
theorem frX.tq {F F' : Nat → Nat → Int} {C C' : Nat → Int → Int} (h : frX F C F' C') : tq F C F' C' := fun a ha => h a (by omega)
theorem nuQ_ge {B : Int → Int} {n lo hi x : Int} {q : Int × Int × Int} (I : q.1 ≤ n) : q.1 ≤ (nuQ B n lo hi x q).1 ∧ (nuQ B n lo hi x q).1 ≤ n := by
  have nx := nxS_le (B := B) (n := n) (s := q.1) I
  unfold nuQ
  split
  · exact ⟨Int.le_refl _, I⟩
  · split
    · split <;> (dsimp only; omega)
    · exact ⟨Int.le_refl _, I⟩
theorem nmQ_ge {B : Int → Int} {n : Int} : ∀ (r : List (Int × Int × Bool)) (pv : Int) (q : Int × Int × Int), q.1 ≤ n → q.1 ≤ (nmQ B n r pv q).1 ∧ (nmQ B n r pv q).1 ≤ n := by
  intro r
  induction r with
  | nil => intro pv q I; exact ⟨Int.le_refl _, I⟩
  | cons a r ih =>
    intro pv q I
    rw [nmQ]
    have h1 := nuQ_ge (B := B) (lo := a.1) (hi := a.2.1) (x := if a.2.2 = true then pv else -5) I
    have h2 := ih (tN B n q.1) _ h1.2
    omega
theorem mnQ_ge {B : Int → Int} {n : Int} {q : Int × Int × Int} (I : q.1 ≤ n) : q.1 ≤ (mnQ B n q).1 ∧ (mnQ B n q).1 ≤ n := by
  have nx := nxS_le (B := B) (n := n) (s := q.1) I
  unfold mnQ
  split
  · exact ⟨Int.le_refl _, I⟩
  · split
    · dsimp only; omega
    · exact ⟨Int.le_refl _, I⟩
theorem scQ_ge {B : Int → Int} {n : Int} {q : Int × Int × Int} (I : q.1 ≤ n) : q.1 ≤ (scQ B n q).1 ∧ (scQ B n q).1 ≤ n := by
  have nx := nxS_le (B := B) (n := n) (s := q.1) I
  unfold scQ
  split
  · exact ⟨Int.le_refl _, I⟩
  · split
    · dsimp only; omega
    · exact ⟨Int.le_refl _, I⟩
theorem lnQ_gt {B : Int → Int} {n sort : Int} {T : Int → Int} {q : Int × Int × Int} (hs : q.1 < n) (hl : lnL B n sort q.1 ≠ -1) : q.1 < (lnQ B n sort T q).1 ∧ (lnQ B n sort T q).1 ≤ n := by
  have nx := nxS_le (B := B) (n := n) (s := q.1) (by omega)
  have h1 : (hdQ B n (lnL B n sort q.1) (cnT (lnL B n sort q.1) T) q).1 = nxS B n q.1 := by unfold hdQ; split <;> rfl
  have h2 := nmQ_ge (B := B) (n := n) (tbl (lnL B n sort q.1)) 0 (hdQ B n (lnL B n sort q.1) (cnT (lnL B n sort q.1) T) q) (by omega)
  have h3 : (l2Q B n (lnL B n sort q.1) T q).1 ≤ (l3Q B n (lnL B n sort q.1) T q).1 ∧ (l3Q B n (lnL B n sort q.1) T q).1 ≤ n := by
    unfold l3Q
    split
    · exact mnQ_ge h2.2
    · exact ⟨Int.le_refl _, h2.2⟩
  have h4 := scQ_ge (B := B) h3.2
  unfold lnQ
  rw [if_neg hl]
  have h5 : nxS B n q.1 ≤ (l2Q B n (lnL B n sort q.1) T q).1 := by rw [← h1]; exact h2.1
  omega
theorem qI.ln {B : Int → Int} {n sort : Int} {T : Int → Int} {q : Int × Int × Int} (hn : n ≤ 600) (I : qI n q) (hf : q.2.1 ≠ 1) (hs : q.1 < n) : qI n (lnQ B n sort T q) := by
  unfold lnQ
  split
  · exact ⟨I.1, ⟨by dsimp only; omega, by dsimp only; omega⟩, ⟨by have := I.1; dsimp only; omega, by have := I.1; dsimp only; omega⟩, Or.inr (Or.inl rfl), fun _ => rfl⟩
  · have h1 := (I.hd (B := B) (l := lnL B n sort q.1) (c := cnT (lnL B n sort q.1) T) hn hf hs).1
    have h2 := qI.nm (B := B) hn (tbl (lnL B n sort q.1)) 0 _ h1
    refine qI.sc hn ?_
    unfold l3Q
    split
    · exact qI.mn hn h2
    · exact h2
theorem kpS_m {l : Int} (hl : l ≠ 4) (m : Int) {m' : Int} {v T : Int → Int} : kpS l v m' T = kpS l v m T := by
  unfold kpS
  by_cases c0 : l = 0
  · rw [if_pos c0, if_pos c0]
  · rw [if_neg c0, if_neg c0]
    by_cases c1 : l = 1
    · rw [if_pos c1, if_pos c1]
    · rw [if_neg c1, if_neg c1]
      by_cases c2 : l = 2
      · rw [if_pos c2, if_pos c2]
      · rw [if_neg c2, if_neg c2]
        by_cases c3 : l = 3
        · rw [if_pos c3, if_pos c3]
        · rw [if_neg c3, if_neg c3, if_neg hl, if_neg hl]
section RX
variable {h : zHeap} {F : Nat → Nat → Int} {C : Nat → Int → Int} {B : Int → Int} {n : Int} {q : Int × Int × Int} {T : Int → Int}
theorem c_adv2 (S : St h) (P : tpC F C B n) (R : lcR F B n q) (I : 0 ≤ q.1 ∧ q.1 ≤ n) : ∃ F', zc 87 [zR (some 35)] (zw h F C) = some (zI 0, zw h F' C) ∧ rdE F F' ∧ lcR F' B n (nxS B n q.1, q.2) := by
  have el := tE_le (B := B) (n := n) (s := q.1) I.2
  obtain ⟨F', e, rd, tk⟩ := c_advance S P (p := tE B n q.1) R.1.2.1 (by have := I.1; omega) el.2.1
  exact ⟨F', e, rd, tk, (rd 323 35 (by omega)).trans R.2.1, (rd 324 35 (by omega)).trans R.2.2⟩
/-- the end of a line -/
theorem c_tail (S : St h) (P : tpC F C B n) (R : lcR F B n q) (I : qI n q) (hf : q.2.1 ≠ 1) {sort l m : Int} {T' : Int → Int} (D : dtC F C sort q.2.1 T) (hk : q.2.1 = 0 → ∃ F' C', zc 80 [zR (some 35), zI (i32 l), zI (i32 m)] (zw h F C) = some (zI 0, zw h F' C') ∧ kpF F C F' C' ∧ dtC F' C' sort 0 T') (h' : q.2.1 ≠ 0 → T' = T) :
    ((scQ B n q).2.1 = 1 → ∃ F' C', (zoI (zgI (zw h F C) (some 35) 329) fun x2 => zif (decide (x2 = i32 2)) (zoI (zgI (zw h F C) (some 35) 323) fun x3 => zif (decide (x3 ≠ 0)) (zbV (zv 5 87 [zR (some 35)] (zw h F C)) fun h4 => zrz (i32 1) h4) (zbV (zv 5 80 [zR (some 35), zI (i32 l), zI (i32 m)] (zw h F C)) fun h5 => zbV (zv 5 87 [zR (some 35)] h5) fun h6 => zrz (i32 1) h6)) (zrz (i32 0) (zw h F C))) = some (zI (i32 0), zw h F' C') ∧ frX F C F' C' ∧ F' 328 35 = (scQ B n q).2.2 ∧ dtC F' C' sort 1 T) ∧
    ((scQ B n q).2.1 ≠ 1 → ∃ F' C', (zoI (zgI (zw h F C) (some 35) 329) fun x2 => zif (decide (x2 = i32 2)) (zoI (zgI (zw h F C) (some 35) 323) fun x3 => zif (decide (x3 ≠ 0)) (zbV (zv 5 87 [zR (some 35)] (zw h F C)) fun h4 => zrz (i32 1) h4) (zbV (zv 5 80 [zR (some 35), zI (i32 l), zI (i32 m)] (zw h F C)) fun h5 => zbV (zv 5 87 [zR (some 35)] h5) fun h6 => zrz (i32 1) h6)) (zrz (i32 0) (zw h F C))) = some (zI (i32 1), zw h F' C') ∧ frX F C F' C' ∧ lcR F' B n (scQ B n q) ∧ dtC F' C' sort (scQ B n q).2.1 T') := by
  have kr := tK_rng B n q.1
  have r3 := R.1.2.2.1
  have r5 := R.2.1
  have i2 := I.2.1
  unfold scQ
  rw [if_neg hf]
  by_cases c : tK B n q.1 = 2
  · rw [if_pos c]
    refine ⟨fun z => absurd z hf, fun _ => ?_⟩
    rw [c] at r3
    have d2 : decide (i32 2 = i32 2) = true := by decide
    by_cases c0 : q.2.1 = 0
    · obtain ⟨F1, C1, e1, k1, D1⟩ := hk c0
      have x1 := k1.fx
      have P1 := P.fx x1
      have R1 : lcR F1 B n q := by
        have e := (k1 35 (by omega)).1
        obtain ⟨⟨a1, a2, a3, a4⟩, a5, a6⟩ := R
        exact ⟨⟨(e 328).trans a1, (e 327).trans a2, (e 329).trans a3, fun z => (e 330).trans (a4 z)⟩, (e 323).trans a5, (e 324).trans a6⟩
      obtain ⟨F2, e2, rd, R2⟩ := c_adv2 S P1 R1 I.1
      refine ⟨F2, C1, ?_, x1.trans (frX.rd rd.r2 (fun _ _ => rfl)), R2, ?_⟩
      · rw [c0] at r5
        simp only [zoI_s, zoR_s, zoH_s, zoL_s, zbI_s, zbV_s, zbR_s, zbL_s, zif_t, zif_f, zrz_0, zrz_1, decide_true, decide_false, wg_329 S, r3, d2, wg_323 S, r5, d0ne, wv_35 S, e1, e2]
      · show dtC F2 C1 sort q.2.1 T'
        rw [c0]
        exact D1.fr rd.r2 (fun _ _ => rfl)
    · obtain ⟨F2, e2, rd, R2⟩ := c_adv2 S P R I.1
      have d0 : decide (i32 q.2.1 ≠ 0) = true := dT (by rw [i32_0, ne_eq, i32_eq (by omega) (by omega) (by omega) (by omega)]; exact c0)
      refine ⟨F2, C, ?_, frX.rd rd.r2 (fun _ _ => rfl), R2, ?_⟩
      · simp only [zoI_s, zoR_s, zoH_s, zoL_s, zbI_s, zbV_s, zbR_s, zbL_s, zif_t, zif_f, zrz_0, zrz_1, decide_true, decide_false, wg_329 S, r3, d2, wg_323 S, r5, d0, wv_35 S, e2]
      · rw [h' c0]
        exact D.fr rd.r2 (fun _ _ => rfl)
  · rw [if_neg c]
    have d2 : decide (i32 (tK B n q.1) = i32 2) = false := dF (by rw [i32_eq (by omega) (by omega) (by omega) (by omega)]; exact c)
    refine ⟨fun _ => ⟨F, C, ?_, frX.rfl F C, R.1.1, D.ff (by omega)⟩, fun z => absurd rfl z⟩
    simp only [zoI_s, zoR_s, zoH_s, zoL_s, zbI_s, zbV_s, zbR_s, zbL_s, zif_t, zif_f, zrz_0, zrz_1, decide_true, decide_false, wg_329 S, r3, d2]
theorem c_readLine (S : St h) (kn : knS h) (P : tpC F C B n) (R : lcR F B n q) (I : qI n q) (hf : q.2.1 ≠ 1) (hs : tK B n q.1 ≠ 3) {sort : Int} (q0 : 0 ≤ sort) (q1 : sort ≤ 2) (D : dtC F C sort q.2.1 T) :
    ((lnQ B n sort T q).2.1 = 1 → ∃ F' C', zc 76 [zR (some 35), zI (i32 sort)] (zw h F C) = some (zI (i32 0), zw h F' C') ∧ frX F C F' C' ∧ F' 328 35 = (lnQ B n sort T q).2.2 ∧ dtC F' C' sort 1 T) ∧
    ((lnQ B n sort T q).2.1 ≠ 1 → ∃ F' C', zc 76 [zR (some 35), zI (i32 sort)] (zw h F C) = some (zI (i32 1), zw h F' C') ∧ frX F C F' C' ∧ lcR F' B n (lnQ B n sort T q) ∧ dtC F' C' sort (lnQ B n sort T q).2.1 (lnT B n sort T q)) := by
  have kr := tK_rng B n q.1
  have hn := P.2.1
  have r3 := R.1.2.2.1
  have sn := tK_lt hs
  have i2 := I.2.1
  unfold lnQ lnT
  by_cases ck : tK B n q.1 = 0
  · have el := c_lineOf S P R.1 I.1.1 I.1.2 ck q0 q1
    have eL : lnL B n sort q.1 = lnW sort (tW B n q.1) := by unfold lnL; rw [if_pos ck]
    have lr := lnW_rng sort (tW B n q.1)
    rw [ck] at r3
    rw [← eL] at el lr
    generalize lnL B n sort q.1 = l at *
    by_cases cl : l = -1
    · rw [if_pos cl]
      refine ⟨fun _ => ⟨F, C, ?_, frX.rfl F C, R.1.1, D.ff (by omega)⟩, fun z => absurd rfl z⟩
      rw [cl] at el
      have dm : decide (i32 (-1) ≠ i32 (-1)) = false := by decide
      simp only [zoI_s, zoR_s, zoH_s, zoL_s, zbI_s, zbV_s, zbR_s, zbL_s, zif_t, zif_f, zrz_0, zrz_1, decide_true, decide_false, e_Reader_readLine, wg_329 S, r3, d0ne, wv_35 S, el, dm]
    · rw [if_neg cl, if_neg cl]
      have l0 : 0 ≤ l := by omega
      have l1 : l < 13 := by omega
      have dl : decide (i32 l ≠ i32 (-1)) = true := dT (by rw [ne_eq, i32_eq (by omega) (by omega) (by omega) (by omega)]; exact cl)
      have hl3 : (sort = 0 ∧ 0 ≤ l ∧ l ≤ 4) ∨ (sort = 1 ∧ 5 ≤ l ∧ l ≤ 10) ∨ (sort = 2 ∧ 11 ≤ l ∧ l ≤ 12) := by omega
      have eF := c_isFull (F := F) (C := C) S l0 l1 D.1 D.2.1 D.2.2.1
      have cnE : q.2.1 = 0 → cnF F l = cnT l T := by
        intro z
        obtain ⟨g1, g2, g3⟩ := D.2.2.2 z
        unfold cnF cnT
        rcases hl3 with ⟨s0, y0, y1⟩ | ⟨s0, y0, y1⟩ | ⟨s0, y0, y1⟩
        · have w := (g1 s0).1.1
          rcases (show l = 0 ∨ l = 1 ∨ l = 2 ∨ l = 3 ∨ l = 4 by omega) with rfl | rfl | rfl | rfl | rfl
          · exact w.1
          · exact w.2.1
          · exact w.2.2.1
          · rfl
          · rfl
        · have w := (g2 s0).1.1
          rw [if_neg (by omega), if_neg (by omega), if_neg (by omega), if_neg (by omega), if_neg (by omega), if_neg (by omega), if_neg (by omega), if_neg (by omega)]
          exact w
        · have w := (g3 s0).1.1
          rw [if_neg (by omega), if_neg (by omega), if_neg (by omega), if_neg (by omega), if_pos (by omega), if_neg (by omega), if_neg (by omega), if_neg (by omega)]
          exact w
      -- the head: blame, advance
      obtain ⟨F1, e1, rd1, R1⟩ : ∃ F1, zc 76 [zR (some 35), zI (i32 sort)] (zw h F C) = zr 76 25 [yR (some 35), yI (i32 sort), yI (i32 l), yI (i32 0)] [] (zw h F1 C) ∧ rd2 F F1 ∧ lcR F1 B n (hdQ B n l (cnT l T) q) := by
        by_cases cf : lmF l ≤ cnF F l
        · rw [if_pos cf] at eF
          obtain ⟨F2, eb, hF2⟩ := c_blame (F := F) (C := C) S (w := 3) R.2.1 R.2.2 R.1.1 I.2.1.1 I.2.1.2
          have rd : rd2 F F2 := by
            rw [hF2]
            split
            · exact ((rd2.rfl F).sF (by omega) (by omega)).sF (by omega) (by omega)
            · exact rd2.rfl F
          by_cases c0 : q.2.1 = 0
          · rw [if_pos c0] at hF2
            have R2 : lcR F2 B n (q.1, 3, q.1) := by
              rw [hF2]
              exact ⟨R.1, rfl, rfl⟩
            obtain ⟨F3, e3, rd3, R3⟩ := c_adv2 S (P.r2 rd rfl) R2 I.1
            refine ⟨F3, ?_, rd.trans rd3.r2, ?_⟩
            · simp only [zoI_s, zoR_s, zoH_s, zoL_s, zbI_s, zbV_s, zbR_s, zbL_s, zif_t, zif_f, zrz_0, zrz_1, decide_true, decide_false, e_Reader_readLine, wg_329 S, r3, d0ne, wv_35 S, el, dl, eF, d10, eb, e3]
            · unfold hdQ
              rw [if_pos ⟨c0, by rw [← cnE c0]; exact cf⟩]
              exact R3
          · rw [if_neg c0] at hF2
            subst hF2
            obtain ⟨F3, e3, rd3, R3⟩ := c_adv2 S P R I.1
            refine ⟨F3, ?_, rd3.r2, ?_⟩
            · simp only [zoI_s, zoR_s, zoH_s, zoL_s, zbI_s, zbV_s, zbR_s, zbL_s, zif_t, zif_f, zrz_0, zrz_1, decide_true, decide_false, e_Reader_readLine, wg_329 S, r3, d0ne, wv_35 S, el, dl, eF, d10, eb, e3]
            · unfold hdQ
              rw [if_neg (fun z => c0 z.1)]
              exact R3
        · rw [if_neg cf] at eF
          obtain ⟨F3, e3, rd3, R3⟩ := c_adv2 S P R I.1
          refine ⟨F3, ?_, rd3.r2, ?_⟩
          · simp only [zoI_s, zoR_s, zoH_s, zoL_s, zbI_s, zbV_s, zbR_s, zbL_s, zif_t, zif_f, zrz_0, zrz_1, decide_true, decide_false, e_Reader_readLine, wg_329 S, r3, d0ne, wv_35 S, el, dl, eF, d0eq, e3]
          · unfold hdQ
            rw [if_neg (fun z => cf (by rw [cnE z.1]; exact z.2))]
            exact R3
      obtain ⟨hI, hf1, h1⟩ := I.hd (B := B) (l := l) (c := cnT l T) hn.2 hf sn
      obtain ⟨tm, t5, tlen⟩ := tbl_ok l0 l1
      have N := c_nums (B := B) (n := n) S kn (sort := sort) l0 l1 t5 hn.2 (tbl l) 0 0 (hdQ B n l (cnT l T) q) F1 C tm (by omega) (fun z => absurd rfl z) (P.r2 rd1 rfl) R1 hI hf1
      rw [← show l2Q B n l T q = nmQ B n (tbl l) 0 (hdQ B n l (cnT l T) q) from rfl] at N
      have I2 : qI n (l2Q B n l T q) := qI.nm hn.2 (tbl l) 0 _ hI
      by_cases f2 : (l2Q B n l T q).2.1 = 1
      · obtain ⟨F2, C2, e2, rdx, c2, s2⟩ := N.1 f2
        have e3 : l3Q B n l T q = l2Q B n l T q := by
          unfold l3Q
          split
          · unfold mnQ; rw [if_pos f2]
          · rfl
        have e4 : scQ B n (l3Q B n l T q) = l2Q B n l T q := by rw [e3]; unfold scQ; rw [if_pos f2]
        rw [e4]
        refine ⟨fun _ => ⟨F2, C2, e1.trans e2, frX.rd (rd1.trans rdx) c2, s2, (D.fr (rd1.trans rdx) c2).ff (by omega)⟩, fun z => absurd f2 z⟩
      · obtain ⟨F2, C2, e2, rdx, c2, _, k2, R2, p2⟩ := N.2 f2
        have D2 := D.fr (rd1.trans rdx) c2
        have P2 : tpC F2 C2 B n := P.fx (frX.rd (rd1.trans rdx) c2)
        rw [show (0 : Int) + ((tbl l).length : Int) = (tbl l).length by omega] at e2
        have k0 := k_0 (F := F2) (C := C2) kn l0 l1
        have dN : decide (i32 (zTb0.getD l.toNat 0) ≤ i32 ((tbl l).length : Int)) = true := dT (by rw [i32_le (by omega) (by omega) (by omega) (by omega)]; omega)
        have hC : ∀ j : Nat, j < (tbl l).length → C2 49 (j : Int) = tN B n (psN B n (hdQ B n l (cnT l T) q).1 j) := by
          intro j hj
          have := k2 j hj
          rwa [show (0 : Int) + (j : Int) = j by omega] at this
        have ff : (l2Q B n l T q).2.1 = 0 → q.2.1 = 0 ∧ ¬ (lmF l ≤ cnT l T) := by
          intro z
          have z1 := (nmQ_0 (tbl l) 0 (hdQ B n l (cnT l T) q) z).1
          unfold hdQ at z1
          by_cases y : q.2.1 = 0 ∧ lmF l ≤ cnT l T
          · rw [if_pos y] at z1
            have : (3 : Int) = 0 := z1
            omega
          · rw [if_neg y] at z1
            exact ⟨z1, fun w => y ⟨z1, w⟩⟩
        have fz : (l2Q B n l T q).2.1 ≠ 1 → q.2.1 ≠ 0 → (l2Q B n l T q).2.1 ≠ 0 := fun _ z w => z (ff w).1
        have D2' : dtC F2 C2 sort (l2Q B n l T q).2.1 T := by
          by_cases z : (l2Q B n l T q).2.1 = 0
          · rw [z]
            rw [(ff z).1] at D2
            exact D2
          · exact D2.ff z
        by_cases c4 : l = 4
        · have e3 : l3Q B n l T q = mnQ B n (l2Q B n l T q) := by unfold l3Q; rw [if_pos c4]
          rw [e3]
          have d4 : decide (i32 l ≠ i32 4) = false := dF (by rw [c4]; exact fun z => z rfl)
          have dm : decide (i32 (-1) ≠ i32 (-1)) = false := by decide
          have r32 := R2.1.2.2.1
          have kr2 := tK_rng B n (l2Q B n l T q).1
          by_cases k0' : tK B n (l2Q B n l T q).1 = 0
          · have em := c_meaningHere S P2 R2.1 I2.1.1 I2.1.2 k0'
            rw [k0'] at r32
            by_cases wr : 11 ≤ tW B n (l2Q B n l T q).1 ∧ tW B n (l2Q B n l T q).1 ≤ 13
            · rw [if_pos wr] at em
              have em2 : mnQ B n (l2Q B n l T q) = (nxS B n (l2Q B n l T q).1, (l2Q B n l T q).2) := by unfold mnQ; rw [if_neg f2, if_pos ⟨k0', wr⟩]
              obtain ⟨F3, e3', rd3, R3⟩ := c_adv2 S P2 R2 I2.1
              have I3 : qI n (mnQ B n (l2Q B n l T q)) := qI.mn hn.2 I2
              rw [em2] at I3 ⊢
              have dm2 : decide (i32 (tW B n (l2Q B n l T q).1 - 11) ≠ i32 (-1)) = true := dT (by rw [ne_eq, i32_eq (by omega) (by omega) (by omega) (by omega)]; omega)
              have D3 := D2'.fr rd3.r2 (fun _ _ => rfl)
              have P3 := P2.r2 rd3.r2 rfl
              have tl := c_tail (F := F3) (C := C2) (T := T) (sort := sort) (l := l) (m := tW B n (l2Q B n l T q).1 - 11) (T' := if (l2Q B n l T q).2.1 = 0 then kpS l (vlS B n q.1) (tW B n (l2Q B n l T q).1 - 11) T else T) S P3 R3 I3 f2 D3 (fun z => by
                have z' : (l2Q B n l T q).2.1 = 0 := z
                rw [if_pos z']
                have D3' : dtC F3 C2 sort 0 T := by rw [← z']; exact D3
                exact c_keep (q := q) S kn q0 q1 hl3 D3' (ff z').2 (fun _ => by omega) (q1' := hdQ B n l (cnT l T) q) z' h1 hC) (fun z => by rw [if_neg (show ¬ ((l2Q B n l T q).2.1 = 0) from z)])
              have go : zc 76 [zR (some 35), zI (i32 sort)] (zw h F C) = (zoI (zgI (zw h F3 C2) (some 35) 329) fun x2 => zif (decide (x2 = i32 2)) (zoI (zgI (zw h F3 C2) (some 35) 323) fun x3 => zif (decide (x3 ≠ 0)) (zbV (zv 5 87 [zR (some 35)] (zw h F3 C2)) fun h4 => zrz (i32 1) h4) (zbV (zv 5 80 [zR (some 35), zI (i32 l), zI (i32 (tW B n (l2Q B n l T q).1 - 11))] (zw h F3 C2)) fun h5 => zbV (zv 5 87 [zR (some 35)] h5) fun h6 => zrz (i32 1) h6)) (zrz (i32 0) (zw h F3 C2))) := by
                rw [e1, e2, e_Reader_readLine_25, k0, zoI_s, dN, zif_t, d4, zif_f, wg_329 S, zoI_s, r32, d0ne, zif_f, wv_35 S, em, zbI_s, dm2, zif_t, wv_35 S, e3', zbV_s]
              rw [go]
              have fx : frX F C F3 C2 := frX.rd ((rd1.trans rdx).trans rd3.r2) c2
              refine ⟨fun z => ?_, fun z => ?_⟩
              · obtain ⟨F', C', a1, a2, a3, a4⟩ := tl.1 z
                exact ⟨F', C', a1, fx.trans a2, a3, a4⟩
              · obtain ⟨F', C', a1, a2, a3, a4⟩ := tl.2 z
                exact ⟨F', C', a1, fx.trans a2, a3, a4⟩
            · rw [if_neg wr] at em
              have em2 : mnQ B n (l2Q B n l T q) = ((l2Q B n l T q).1, 1, (l2Q B n l T q).1) := by unfold mnQ; rw [if_neg f2, if_neg (fun z => wr z.2)]
              rw [em2]
              have e5 : scQ B n ((l2Q B n l T q).1, 1, (l2Q B n l T q).1) = ((l2Q B n l T q).1, 1, (l2Q B n l T q).1) := if_pos rfl
              rw [e5]
              refine ⟨fun _ => ⟨F2, C2, ?_, frX.rd (rd1.trans rdx) c2, R2.1.1, D2.ff (by omega)⟩, fun z => absurd rfl z⟩
              rw [e1, e2, e_Reader_readLine_25]
              simp only [zoI_s, zoR_s, zoH_s, zoL_s, zbI_s, zbV_s, zbR_s, zbL_s, zif_t, zif_f, zrz_0, zrz_1, decide_true, decide_false, k0, dN, d4, wg_329 S, r32, d0ne, wv_35 S, em, dm]
          · have em2 : mnQ B n (l2Q B n l T q) = ((l2Q B n l T q).1, 1, (l2Q B n l T q).1) := by unfold mnQ; rw [if_neg f2, if_neg (fun z => k0' z.1)]
            rw [em2]
            have e5 : scQ B n ((l2Q B n l T q).1, 1, (l2Q B n l T q).1) = ((l2Q B n l T q).1, 1, (l2Q B n l T q).1) := if_pos rfl
            rw [e5]
            have dk : decide (i32 (tK B n (l2Q B n l T q).1) ≠ 0) = true := dT (by rw [i32_0, ne_eq, i32_eq (by omega) (by omega) (by omega) (by omega)]; exact k0')
            refine ⟨fun _ => ⟨F2, C2, ?_, frX.rd (rd1.trans rdx) c2, R2.1.1, D2.ff (by omega)⟩, fun z => absurd rfl z⟩
            rw [e1, e2, e_Reader_readLine_25]
            simp only [zoI_s, zoR_s, zoH_s, zoL_s, zbI_s, zbV_s, zbR_s, zbL_s, zif_t, zif_f, zrz_0, zrz_1, decide_true, decide_false, k0, dN, d4, wg_329 S, r32, dk, dm]
        · have e3 : l3Q B n l T q = l2Q B n l T q := by unfold l3Q; rw [if_neg c4]
          rw [e3]
          have d4 : decide (i32 l ≠ i32 4) = true := dT (by rw [ne_eq, i32_eq (by omega) (by omega) (by omega) (by omega)]; exact c4)
          have tl := c_tail (F := F2) (C := C2) (T := T) (sort := sort) (l := l) (m := -1) (T' := if (l2Q B n l T q).2.1 = 0 then kpS l (vlS B n q.1) (tW B n (l2Q B n l T q).1 - 11) T else T) S P2 R2 I2 f2 D2' (fun z => by
            rw [if_pos z, kpS_m c4 (-1)]
            have D3' : dtC F2 C2 sort 0 T := by rw [← z]; exact D2'
            exact c_keep (q := q) S kn q0 q1 hl3 D3' (ff z).2 (fun y => absurd y c4) (q1' := hdQ B n l (cnT l T) q) z h1 hC) (fun z => by rw [if_neg z])
          have go : zc 76 [zR (some 35), zI (i32 sort)] (zw h F C) = (zoI (zgI (zw h F2 C2) (some 35) 329) fun x2 => zif (decide (x2 = i32 2)) (zoI (zgI (zw h F2 C2) (some 35) 323) fun x3 => zif (decide (x3 ≠ 0)) (zbV (zv 5 87 [zR (some 35)] (zw h F2 C2)) fun h4 => zrz (i32 1) h4) (zbV (zv 5 80 [zR (some 35), zI (i32 l), zI (i32 (-1))] (zw h F2 C2)) fun h5 => zbV (zv 5 87 [zR (some 35)] h5) fun h6 => zrz (i32 1) h6)) (zrz (i32 0) (zw h F2 C2))) := by
            rw [e1, e2, e_Reader_readLine_25, k0, zoI_s, dN, zif_t, d4, zif_t]
          rw [go]
          have fx : frX F C F2 C2 := frX.rd (rd1.trans rdx) c2
          refine ⟨fun z => ?_, fun z => ?_⟩
          · obtain ⟨F', C', a1, a2, a3, a4⟩ := tl.1 z
            exact ⟨F', C', a1, fx.trans a2, a3, a4⟩
          · obtain ⟨F', C', a1, a2, a3, a4⟩ := tl.2 z
            exact ⟨F', C', a1, fx.trans a2, a3, a4⟩
  · have eL : lnL B n sort q.1 = -1 := by unfold lnL; rw [if_neg ck]
    rw [eL, if_pos rfl]
    have dk : decide (i32 (tK B n q.1) ≠ 0) = true := dT (by rw [i32_0, ne_eq, i32_eq (by omega) (by omega) (by omega) (by omega)]; exact ck)
    have dm : decide (i32 (-1) ≠ i32 (-1)) = false := by decide
    refine ⟨fun _ => ⟨F, C, ?_, frX.rfl F C, R.1.1, D.ff (by omega)⟩, fun z => absurd rfl z⟩
    simp only [zoI_s, zoR_s, zoH_s, zoL_s, zbI_s, zbV_s, zbR_s, zbL_s, zif_t, zif_f, zrz_0, zrz_1, decide_true, decide_false, e_Reader_readLine, wg_329 S, r3, dk, dm]
end RX
