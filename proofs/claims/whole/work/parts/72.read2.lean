/-! the class reads a text; copies -/
noncomputable def rdS (B : Int → Int) (n sort : Int) : Nat → (Int × Int × Int) × (Int → Int) → (Int × Int × Int) × (Int → Int)
  | 0, x => x
  | j + 1, x => if x.1.2.1 ≠ 1 ∧ tK B n x.1.1 ≠ 3 then rdS B n sort j (lnQ B n sort x.2 x.1, lnT B n sort x.2 x.1) else x
def iniT (sort : Int) : Int → Int := fun k => if sort = 0 ∧ 36 ≤ k ∧ k ≤ 43 then (k - 36) % 2 else 0
noncomputable def prS (B : Int → Int) (n sort : Int) : (Int × Int × Int) × (Int → Int) := rdS B n sort 600 ((tS B n 0, 0, -1), iniT sort)
theorem rdS_f {B : Int → Int} {n sort : Int} {j : Nat} {x : (Int × Int × Int) × (Int → Int)} (h : ¬ (x.1.2.1 ≠ 1 ∧ tK B n x.1.1 ≠ 3)) : rdS B n sort j x = x := by
  cases j with
  | zero => rfl
  | succ j => rw [rdS, if_neg h]
section RE
variable {h : zHeap} {B : Int → Int} {n : Int}
theorem c_readL (S : St h) (kn : knS h) {sort : Int} (q0 : 0 ≤ sort) (q1 : sort ≤ 2) : ∀ (j : Nat) (i : Int) (q : Int × Int × Int) (T : Int → Int) (F : Nat → Nat → Int) (C : Nat → Int → Int), tpC F C B n → lcR F B n q → qI n q → q.2.1 ≠ 1 → dtC F C sort q.2.1 T → 0 ≤ i → i ≤ q.1 → n - q.1 ≤ j → ∃ F' C', zr 75 24 [yR (some 35), yI (i32 sort), yI (i32 i)] [] (zw h F C) = some (zI 0, zw h F' C') ∧ frX F C F' C' ∧ F' 323 35 = (rdS B n sort j (q, T)).1.2.1 ∧ F' 324 35 = (rdS B n sort j (q, T)).1.2.2 ∧ dtC F' C' sort (rdS B n sort j (q, T)).1.2.1 (rdS B n sort j (q, T)).2 ∧ qI n (rdS B n sort j (q, T)).1 := by
  intro j
  induction j with
  | zero =>
    intro i q T F C P R I hf D i0 i1 hj
    have hn := P.2.1
    have k3 : tK B n q.1 = 3 := by unfold tK; rw [if_pos (by omega)]
    have r3 := R.1.2.2.1
    rw [k3] at r3
    have d3 : decide (i32 3 = i32 3) = true := by decide
    refine ⟨F, C, ?_, frX.rfl F C, R.2.1, R.2.2, D, I⟩
    rw [e_Reader_read_24]
    by_cases c : 600 ≤ i
    · have d6 : decide (i32 600 ≤ i32 i) = true := dT (by have := I.1; rw [i32_le (by omega) (by omega) (by omega) (by omega)]; exact c)
      simp only [zoI_s, zoR_s, zoH_s, zoL_s, zbI_s, zbV_s, zbR_s, zbL_s, zif_t, zif_f, zrz_0, zrz_1, decide_true, decide_false, d6]
    · have d6 : decide (i32 600 ≤ i32 i) = false := dF (by rw [i32_le (by omega) (by omega) (by omega) (by omega)]; exact c)
      simp only [zoI_s, zoR_s, zoH_s, zoL_s, zbI_s, zbV_s, zbR_s, zbL_s, zif_t, zif_f, zrz_0, zrz_1, decide_true, decide_false, d6, wg_329 S, r3, d3]
  | succ j ih =>
    intro i q T F C P R I hf D i0 i1 hj
    have hn := P.2.1
    have kr := tK_rng B n q.1
    have r3 := R.1.2.2.1
    by_cases k3 : tK B n q.1 = 3
    · rw [rdS_f (fun z => z.2 k3)]
      rw [k3] at r3
      have d3 : decide (i32 3 = i32 3) = true := by decide
      refine ⟨F, C, ?_, frX.rfl F C, R.2.1, R.2.2, D, I⟩
      rw [e_Reader_read_24]
      by_cases c : 600 ≤ i
      · have d6 : decide (i32 600 ≤ i32 i) = true := dT (by have := I.1; rw [i32_le (by omega) (by omega) (by omega) (by omega)]; exact c)
        simp only [zoI_s, zoR_s, zoH_s, zoL_s, zbI_s, zbV_s, zbR_s, zbL_s, zif_t, zif_f, zrz_0, zrz_1, decide_true, decide_false, d6]
      · have d6 : decide (i32 600 ≤ i32 i) = false := dF (by rw [i32_le (by omega) (by omega) (by omega) (by omega)]; exact c)
        simp only [zoI_s, zoR_s, zoH_s, zoL_s, zbI_s, zbV_s, zbR_s, zbL_s, zif_t, zif_f, zrz_0, zrz_1, decide_true, decide_false, d6, wg_329 S, r3, d3]
    · have sn := tK_lt k3
      have d6 : decide (i32 600 ≤ i32 i) = false := dF (by rw [i32_le (by omega) (by omega) (by omega) (by omega)]; omega)
      have d3 : decide (i32 (tK B n q.1) = i32 3) = false := dF (by rw [i32_eq (by omega) (by omega) (by omega) (by omega)]; exact k3)
      have rl := c_readLine S kn P R I hf k3 q0 q1 D
      have I1 := I.ln (B := B) (sort := sort) (T := T) hn.2 hf sn
      rw [rdS, if_pos ⟨hf, k3⟩]
      by_cases f1 : (lnQ B n sort T q).2.1 = 1
      · obtain ⟨F1, C1, e1, x1, s1, D1⟩ := rl.1 f1
        rw [rdS_f (fun z => z.1 f1)]
        refine ⟨zsF (zsF F1 323 35 1) 324 35 (lnQ B n sort T q).2.2, C1, ?_, x1.trans (frX.rd (((rd2.rfl F1).sF (by omega) (by omega)).sF (by omega) (by omega)) (fun _ _ => rfl)), ?_, rfl, ?_, I1⟩
        · have w2 := wg_328 (F := zsF F1 323 35 1) (C := C1) S
          rw [zsF_k (by omega), s1] at w2
          rw [e_Reader_read_24]
          simp only [zoI_s, zoR_s, zoH_s, zoL_s, zbI_s, zbV_s, zbR_s, zbL_s, zif_t, zif_f, zrz_0, zrz_1, decide_true, decide_false, d6, wg_329 S, r3, d3, wv_35 S, e1, d0ne, wp_323 S, w2, wp_324 S]
        · rw [f1]; rfl
        · dsimp only
          rw [f1]
          exact (D1.fr (((rd2.rfl F1).sF (k := 323) (x := 1) (by omega) (by omega)).sF (k := 324) (x := (lnQ B n sort T q).2.2) (by omega) (by omega)) (fun _ _ => rfl)).ff (by omega)
      · obtain ⟨F1, C1, e1, x1, R1, D1⟩ := rl.2 f1
        have hl : lnL B n sort q.1 ≠ -1 := by
          intro z
          apply f1
          unfold lnQ
          rw [if_pos z]
        have gt := lnQ_gt (B := B) (T := T) sn hl
        obtain ⟨F2, C2, e2, x2, a1, a2, a3, a4⟩ := ih (i + 1) (lnQ B n sort T q) (lnT B n sort T q) F1 C1 (P.fx x1) R1 I1 f1 D1 (by omega) (by omega) (by omega)
        refine ⟨F2, C2, ?_, x1.trans x2, a1, a2, a3, a4⟩
        rw [e_Reader_read_24]
        simp only [zoI_s, zoR_s, zoH_s, zoL_s, zbI_s, zbV_s, zbR_s, zbL_s, zif_t, zif_f, zrz_0, zrz_1, decide_true, decide_false, d6, wg_329 S, r3, d3, wv_35 S, e1, d1ne, i32_add, e2]
theorem c_reset {F : Nat → Nat → Int} {C : Nat → Int → Int} (S : St h) : zc 34 [zR (some 36)] (zw h F C) = some (zI 0, zw h (zsF (zsF (zsF (zsF F 128 36 0) 129 36 0) 130 36 0) 131 36 0) (zsW C (36 + 6) (fun j => if 0 ≤ j ∧ j < 8 then j % 2 else C (36 + 6) j))) := by
  have H := H36 S
  obtain ⟨f, e, I⟩ := zinv (fun i f => zr 34 14 [yR (some 36), yI (i32 i)] [] (zw h (zsF (zsF (zsF (zsF F 128 36 0) 129 36 0) 130 36 0) 131 36 0) (zsW C (36 + 6) f))) (fun i f => f = fun j => if 0 ≤ j ∧ j < i then j % 2 else C (36 + 6) j) 0 8 (by omega) (fun i f i0 i1 I => by
    have d8 : decide (i32 8 ≤ i32 i) = false := dF (by rw [i32_le (by omega) (by omega) (by omega) (by omega)]; omega)
    have rm := i32_rem (a := i) (b := 2) (by omega) (by omega) (by omega) (by omega)
    have i2 : ∀ x : Int32, (if i32 2 = 0 then none else some x) = some x := fun x => if_neg (by decide)
    have ar := dr_137 (F := zsF (zsF (zsF (zsF F 128 36 0) 129 36 0) 130 36 0) 131 36 0) (C := zsW C (36 + 6) f) H
    have as := fun x => ds_137 (F := zsF (zsF (zsF (zsF F 128 36 0) 129 36 0) 130 36 0) 131 36 0) (C := zsW C (36 + 6) f) H (i := i) (by omega) (by omega) x
    refine ⟨up1 f i (i % 2), ?_, ?_⟩
    · rw [e_Duchy_reset_14]
      by_cases c : i % 2 = 0
      · rw [c]
        rw [c] at rm
        simp only [zoI_s, zoR_s, zoH_s, zoL_s, zbI_s, zbV_s, zbR_s, zbL_s, zif_t, zif_f, zrz_0, zrz_1, decide_true, decide_false, d8, ar, i2, rm, d0ne, as, zsC_W, zsW_W, zsW_s, i32_add]
      · have c1 : i % 2 = 1 := by omega
        rw [c1]
        rw [c1] at rm
        simp only [zoI_s, zoR_s, zoH_s, zoL_s, zbI_s, zbV_s, zbR_s, zbL_s, zif_t, zif_f, zrz_0, zrz_1, decide_true, decide_false, d8, ar, i2, rm, d1ne, as, zsC_W, zsW_W, zsW_s, i32_add]
    · subst I
      funext j
      unfold up1
      by_cases c : j = i
      · rw [if_pos c, if_pos (by omega), c]
      · rw [if_neg c]
        dsimp only
        by_cases c2 : 0 ≤ j ∧ j < i
        · rw [if_pos c2, if_pos (by omega)]
        · rw [if_neg c2, if_neg (by omega)]) (C (36 + 6)) (by funext j; rw [if_neg (by omega)])
  rw [zsW_id] at e
  have d8 : decide (i32 8 ≤ i32 8) = true := by decide
  rw [e_Duchy_reset]
  simp only [zoI_s, zoR_s, zoH_s, zoL_s, zbI_s, zbV_s, zbR_s, zbL_s, zif_t, zif_f, zrz_0, zrz_1, decide_true, decide_false, dp_128 H, dp_129 H, dp_130 H, dp_131 H]
  rw [e, e_Duchy_reset_14, I]
  simp only [zoI_s, zoR_s, zoH_s, zoL_s, zbI_s, zbV_s, zbR_s, zbL_s, zif_t, zif_f, zrz_0, zrz_1, decide_true, decide_false, d8]
theorem c_read {F : Nat → Nat → Int} {C : Nat → Int → Int} (S : St h) (kn : knS h) (P : tpC F C B n) {sort : Int} (q0 : 0 ≤ sort) (q1 : sort ≤ 2) : ∃ F' C', zc 75 [zR (some 35), zI (i32 sort)] (zw h F C) = some (zI 0, zw h F' C') ∧ frX F C F' C' ∧ F' 323 35 = (prS B n sort).1.2.1 ∧ F' 324 35 = (prS B n sort).1.2.2 ∧ dtC F' C' sort (prS B n sort).1.2.1 (prS B n sort).2 ∧ qI n (prS B n sort).1 := by
  have hn := P.2.1
  have er := c_reset (F := F) (C := C) S
  have x1 : frX F C (zsF (zsF (zsF (zsF (zsF (zsF (zsF (zsF (zsF F 128 36 0) 129 36 0) 130 36 0) 131 36 0) 640 43 0) 192 45 0) 323 35 0) 324 35 (-1)) 327 35 0) (zsW C (36 + 6) (fun j => if 0 ≤ j ∧ j < 8 then j % 2 else C (36 + 6) j)) := by
    intro a ha
    refine ⟨fun k => ?_, zsW_a (by omega)⟩
    rw [zsF_a (by omega), zsF_a (by omega), zsF_a (by omega), zsF_a (by omega), zsF_a (by omega), zsF_a (by omega), zsF_a (by omega), zsF_a (by omega), zsF_a (by omega)]
  have P1 := P.fx x1
  obtain ⟨F2, e2, rd, tk⟩ := c_advance S P1 (p := 0) rfl (by omega) hn.1
  have sl := tS_le (B := B) (n := n) (p := 0) hn.1
  have R2 : lcR F2 B n (tS B n 0, 0, -1) := ⟨tk, (rd 323 35 (by omega)).trans rfl, (rd 324 35 (by omega)).trans rfl⟩
  have D1 : dtC (zsF (zsF (zsF (zsF (zsF (zsF (zsF (zsF (zsF F 128 36 0) 129 36 0) 130 36 0) 131 36 0) 640 43 0) 192 45 0) 323 35 0) 324 35 (-1)) 327 35 0) (zsW C (36 + 6) (fun j => if 0 ≤ j ∧ j < 8 then j % 2 else C (36 + 6) j)) sort 0 (iniT sort) := by
    refine ⟨⟨⟨Int.le_refl 0, show (0 : Int) ≤ 6 by decide⟩, ⟨Int.le_refl 0, show (0 : Int) ≤ 4 by decide⟩, ⟨Int.le_refl 0, show (0 : Int) ≤ 8 by decide⟩⟩, ⟨Int.le_refl 0, show (0 : Int) ≤ 40 by decide⟩, ⟨Int.le_refl 0, show (0 : Int) ≤ 8 by decide⟩, fun _ => ⟨fun z => ?_, fun z => ?_, fun z => ?_⟩⟩
    · subst z
      have b : ∀ m, 0 ≤ m → m < 8 → iniT 0 (36 + m) = m % 2 := by
        intro m m0 m1
        unfold iniT
        rw [if_pos ⟨rfl, by omega, by omega⟩, show 36 + m - 36 = m by omega]
      have e0 : iniT 0 0 = 0 := rfl
      have e1 : iniT 0 1 = 0 := rfl
      have e2 : iniT 0 2 = 0 := rfl
      have e3 : iniT 0 3 = 0 := rfl
      refine ⟨⟨⟨rfl, rfl, rfl, rfl⟩, fun r r0 r1 => by omega, fun r r0 r1 => by omega, fun r r0 r1 => by omega, fun r r0 r1 => by omega, fun r r0 r1 => by omega, fun m m0 m1 => ?_⟩, ⟨by omega, by omega, by omega, by omega, fun r r0 r1 => by omega, fun r r0 r1 => by omega, fun r r0 r1 => by omega, fun r r0 r1 => by omega, fun r r0 r1 => by omega, fun m m0 m1 => ?_⟩⟩
      · rw [b m m0 m1, zsW_s, if_pos ⟨m0, m1⟩]
      · rw [b m m0 m1]; omega
    · subst z
      have e0 : iniT 1 0 = 0 := rfl
      exact ⟨⟨rfl, fun j j0 j1 => by omega⟩, ⟨by omega, fun i i0 i1 => by omega⟩⟩
    · subst z
      have e0 : iniT 2 0 = 0 := rfl
      exact ⟨⟨rfl, fun j j0 j1 => by omega⟩, ⟨by omega, fun i i0 i1 => by omega⟩⟩
  obtain ⟨F3, C3, e3, x3, a1, a2, a3, a4⟩ := c_readL (B := B) (n := n) S kn q0 q1 600 0 (tS B n 0, 0, -1) (iniT sort) F2 _ (P1.rd rd) R2 ⟨⟨by dsimp only; omega, by dsimp only; omega⟩, ⟨by dsimp only; omega, by dsimp only; omega⟩, ⟨by dsimp only; omega, by dsimp only; omega⟩, Or.inl rfl, fun z => by dsimp only at z; omega⟩ (by dsimp only; omega) (D1.fr rd.r2 (fun _ _ => rfl)) (by omega) (by dsimp only; omega) (by dsimp only; omega)
  refine ⟨F3, C3, ?_, (x1.trans (frX.rd rd.r2 (fun _ _ => rfl))).trans x3, a1, a2, a3, a4⟩
  rw [e_Reader_read]
  simp only [zoI_s, zoR_s, zoH_s, zoL_s, zbI_s, zbV_s, zbR_s, zbL_s, zif_t, zif_f, zrz_0, zrz_1, decide_true, decide_false, wr_320 S, wr_321 S, wr_322 S, dv (H36 S), er, yp_640 (H43 S), lp_192 (H45 S), wp_323 S, wp_324 S, wp_327 S, wv_35 S, e2, e3]
end RE
/-! copies -/
section CP
variable {h : zHeap} {F : Nat → Nat → Int} {C : Nat → Int → Int} {a b : Nat}
theorem c_dcopy (Ha : duS h a) (Hb : duS h b) (hab : a + 7 ≤ b ∨ b + 7 ≤ a) : ∃ F' C', zc 35 [zR (some a), zR (some b)] (zw h F C) = some (zI 0, zw h F' C') ∧ (∀ x, x < a ∨ a + 7 ≤ x → (∀ k, F' k x = F k x) ∧ C' x = C x) ∧ (∀ D, duV F C b D → (D 0 ≤ 6 ∧ D 1 ≤ 4 ∧ D 2 ≤ 8) → duV F' C' a D) := by
  have a0 := Ha.2.2.2.2
  have b0 := Hb.2.2.2.2
  have y1 := fun F C => @zw_aY h F C (b + 1) (a + 1) 0 6 6 6 Hb.2.2.2.1.1 Ha.2.2.2.1.1 (Or.inl rfl) (by omega) (by omega) (by omega) (by omega) (by omega) (by omega) (by omega)
  have y2 := fun F C => @zw_aY h F C (b + 2) (a + 2) 0 6 6 6 Hb.2.2.2.1.2.1 Ha.2.2.2.1.2.1 (Or.inl rfl) (by omega) (by omega) (by omega) (by omega) (by omega) (by omega) (by omega)
  have y3 := fun F C => @zw_aY h F C (b + 3) (a + 3) 0 4 4 4 Hb.2.2.2.1.2.2.1 Ha.2.2.2.1.2.2.1 (Or.inl rfl) (by omega) (by omega) (by omega) (by omega) (by omega) (by omega) (by omega)
  have y4 := fun F C => @zw_aY h F C (b + 4) (a + 4) 0 8 8 8 Hb.2.2.2.1.2.2.2.1 Ha.2.2.2.1.2.2.2.1 (Or.inl rfl) (by omega) (by omega) (by omega) (by omega) (by omega) (by omega) (by omega)
  have y5 := fun F C => @zw_aY h F C (b + 5) (a + 5) 0 8 8 8 Hb.2.2.2.1.2.2.2.2.1 Ha.2.2.2.1.2.2.2.2.1 (Or.inl rfl) (by omega) (by omega) (by omega) (by omega) (by omega) (by omega) (by omega)
  have y6 := fun F C => @zw_aY h F C (b + 6) (a + 6) 0 8 8 8 Hb.2.2.2.1.2.2.2.2.2 Ha.2.2.2.1.2.2.2.2.2 (Or.inl rfl) (by omega) (by omega) (by omega) (by omega) (by omega) (by omega) (by omega)
  rw [e_Duchy_copy]
  simp only [zoI_s, zoR_s, zoH_s, zoL_s, zbI_s, zbV_s, zbR_s, zbL_s, zif_t, zif_f, zrz_0, zrz_1, decide_true, decide_false, dg_128 Hb, dg_129 Hb, dg_130 Hb, dg_131 Hb, dp_128 Ha, dp_129 Ha, dp_130 Ha, dp_131 Ha, dr_132 Ha, dr_132 Hb, dr_133 Ha, dr_133 Hb, dr_134 Ha, dr_134 Hb, dr_135 Ha, dr_135 Hb, dr_136 Ha, dr_136 Hb, dr_137 Ha, dr_137 Hb, y1, y2, y3, y4, y5, y6]
  refine ⟨_, _, rfl, fun x hx => ⟨fun k => ?_, ?_⟩, fun D V hD => ?_⟩
  · rw [zsF_a (by omega), zsF_a (by omega), zsF_a (by omega), zsF_a (by omega)]
  · rw [zsW_a (by omega), zsW_a (by omega), zsW_a (by omega), zsW_a (by omega), zsW_a (by omega), zsW_a (by omega)]
  · obtain ⟨⟨v1, v2, v3, v4⟩, v5, v6, v7, v8, v9, v10⟩ := V
    refine ⟨⟨?_, ?_, ?_, ?_⟩, fun r r0 r1 => ?_, fun r r0 r1 => ?_, fun r r0 r1 => ?_, fun r r0 r1 => ?_, fun r r0 r1 => ?_, fun r r0 r1 => ?_⟩
    · simp (disch := omega) only [zoI_s, zoR_s, zoH_s, zoL_s, zbI_s, zbV_s, zbR_s, zbL_s, zif_t, zif_f, zrz_0, zrz_1, i32_add, i32_mul, i32_sub, i32_neg, zsF_s, zsF_k, zsF_a, zsC_s, zsC_a, zsC_i, zsW_s, zsW_a, Int.add_zero, Int.zero_add, decide_true, decide_false]; exact v1
    · simp (disch := omega) only [zoI_s, zoR_s, zoH_s, zoL_s, zbI_s, zbV_s, zbR_s, zbL_s, zif_t, zif_f, zrz_0, zrz_1, i32_add, i32_mul, i32_sub, i32_neg, zsF_s, zsF_k, zsF_a, zsC_s, zsC_a, zsC_i, zsW_s, zsW_a, Int.add_zero, Int.zero_add, decide_true, decide_false]; exact v2
    · simp (disch := omega) only [zoI_s, zoR_s, zoH_s, zoL_s, zbI_s, zbV_s, zbR_s, zbL_s, zif_t, zif_f, zrz_0, zrz_1, i32_add, i32_mul, i32_sub, i32_neg, zsF_s, zsF_k, zsF_a, zsC_s, zsC_a, zsC_i, zsW_s, zsW_a, Int.add_zero, Int.zero_add, decide_true, decide_false]; exact v3
    · simp (disch := omega) only [zoI_s, zoR_s, zoH_s, zoL_s, zbI_s, zbV_s, zbR_s, zbL_s, zif_t, zif_f, zrz_0, zrz_1, i32_add, i32_mul, i32_sub, i32_neg, zsF_s, zsF_k, zsF_a, zsC_s, zsC_a, zsC_i, zsW_s, zsW_a, Int.add_zero, Int.zero_add, decide_true, decide_false]; exact v4
    · simp (disch := omega) only [zoI_s, zoR_s, zoH_s, zoL_s, zbI_s, zbV_s, zbR_s, zbL_s, zif_t, zif_f, zrz_0, zrz_1, i32_add, i32_mul, i32_sub, i32_neg, zsF_s, zsF_k, zsF_a, zsC_s, zsC_a, zsC_i, zsW_s, zsW_a, Int.add_zero, Int.zero_add, decide_true, decide_false, if_pos]; exact v5 r r0 r1
    · simp (disch := omega) only [zoI_s, zoR_s, zoH_s, zoL_s, zbI_s, zbV_s, zbR_s, zbL_s, zif_t, zif_f, zrz_0, zrz_1, i32_add, i32_mul, i32_sub, i32_neg, zsF_s, zsF_k, zsF_a, zsC_s, zsC_a, zsC_i, zsW_s, zsW_a, Int.add_zero, Int.zero_add, decide_true, decide_false, if_pos]; exact v6 r r0 r1
    · simp (disch := omega) only [zoI_s, zoR_s, zoH_s, zoL_s, zbI_s, zbV_s, zbR_s, zbL_s, zif_t, zif_f, zrz_0, zrz_1, i32_add, i32_mul, i32_sub, i32_neg, zsF_s, zsF_k, zsF_a, zsC_s, zsC_a, zsC_i, zsW_s, zsW_a, Int.add_zero, Int.zero_add, decide_true, decide_false, if_pos]; exact v7 r r0 r1
    · simp (disch := omega) only [zoI_s, zoR_s, zoH_s, zoL_s, zbI_s, zbV_s, zbR_s, zbL_s, zif_t, zif_f, zrz_0, zrz_1, i32_add, i32_mul, i32_sub, i32_neg, zsF_s, zsF_k, zsF_a, zsC_s, zsC_a, zsC_i, zsW_s, zsW_a, Int.add_zero, Int.zero_add, decide_true, decide_false, if_pos]; exact v8 r r0 r1
    · simp (disch := omega) only [zoI_s, zoR_s, zoH_s, zoL_s, zbI_s, zbV_s, zbR_s, zbL_s, zif_t, zif_f, zrz_0, zrz_1, i32_add, i32_mul, i32_sub, i32_neg, zsF_s, zsF_k, zsF_a, zsC_s, zsC_a, zsC_i, zsW_s, zsW_a, Int.add_zero, Int.zero_add, decide_true, decide_false, if_pos]; exact v9 r r0 r1
    · simp (disch := omega) only [zoI_s, zoR_s, zoH_s, zoL_s, zbI_s, zbV_s, zbR_s, zbL_s, zif_t, zif_f, zrz_0, zrz_1, i32_add, i32_mul, i32_sub, i32_neg, zsF_s, zsF_k, zsF_a, zsC_s, zsC_a, zsC_i, zsW_s, zsW_a, Int.add_zero, Int.zero_add, decide_true, decide_false, if_pos]; exact v10 r r0 r1
theorem c_ycopy (Ha : yeS h a) (Hb : yeS h b) (hab : a + 2 ≤ b ∨ b + 2 ≤ a) (s0 : 0 ≤ F 640 b) (s1 : F 640 b ≤ 40) : ∃ F' C', zc 145 [zR (some a), zR (some b)] (zw h F C) = some (zI 0, zw h F' C') ∧ (∀ x, x < a ∨ a + 2 ≤ x → (∀ k, F' k x = F k x) ∧ C' x = C x) ∧ F' 640 a = F 640 b ∧ (∀ D, yeV F C b D → yeV F' C' a D) := by
  have a0 := Ha.2.2.2.2
  have b0 := Hb.2.2.2.2
  have y1 := fun F' C => @zw_aY h F' C (b + 1) (a + 1) 0 240 240 (F 640 b * 6) Hb.2.2.2.1 Ha.2.2.2.1 (Or.inl rfl) (by omega) (by omega) (by omega) (by omega) (by omega) (by omega) (by omega)
  rw [e_Year_copy]
  simp only [zoI_s, zoR_s, zoH_s, zoL_s, zbI_s, zbV_s, zbR_s, zbL_s, zif_t, zif_f, zrz_0, zrz_1, decide_true, decide_false, yg_640 Hb, yr_641 Ha, yr_641 Hb, i32_mul, y1, yp_640 Ha]
  refine ⟨_, _, rfl, fun x hx => ⟨fun k => zsF_a (by omega), zsW_a (by omega)⟩, zsF_s .., fun D V => ⟨?_, fun j j0 j1 => ?_⟩⟩
  · rw [zsF_s]; exact V.1
  · rw [zsW_s, if_pos ⟨j0, by rw [V.1]; omega⟩]; exact V.2 j j0 j1
theorem c_lcopy (Ha : loS h a) (Hb : loS h b) (hab : a + 4 ≤ b ∨ b + 4 ≤ a) (s0 : 0 ≤ F 192 b) (s1 : F 192 b ≤ 8) : ∃ F' C', zc 53 [zR (some a), zR (some b)] (zw h F C) = some (zI 0, zw h F' C') ∧ (∀ x, x < a ∨ a + 4 ≤ x → (∀ k, F' k x = F k x) ∧ C' x = C x) ∧ F' 192 a = F 192 b ∧ (∀ D, loV F C b D → loV F' C' a D) := by
  have a0 := Ha.2.2.2.2
  have b0 := Hb.2.2.2.2
  have y1 := fun F' C => @zw_aY h F' C (b + 1) (a + 1) 0 8 8 (F 192 b) Hb.2.2.2.1.1 Ha.2.2.2.1.1 (Or.inl rfl) (by omega) (by omega) (by omega) (by omega) (by omega) (by omega) (by omega)
  have y2 := fun F' C => @zw_aY h F' C (b + 2) (a + 2) 0 8 8 (F 192 b) Hb.2.2.2.1.2.1 Ha.2.2.2.1.2.1 (Or.inl rfl) (by omega) (by omega) (by omega) (by omega) (by omega) (by omega) (by omega)
  have y3 := fun F' C => @zw_aY h F' C (b + 3) (a + 3) 0 8 8 (F 192 b) Hb.2.2.2.1.2.2 Ha.2.2.2.1.2.2 (Or.inl rfl) (by omega) (by omega) (by omega) (by omega) (by omega) (by omega) (by omega)
  rw [e_Log_copy]
  simp only [zoI_s, zoR_s, zoH_s, zoL_s, zbI_s, zbV_s, zbR_s, zbL_s, zif_t, zif_f, zrz_0, zrz_1, decide_true, decide_false, lg_192 Hb, lr_193 Ha, lr_193 Hb, lr_194 Ha, lr_194 Hb, lr_195 Ha, lr_195 Hb, y1, y2, y3, lp_192 Ha]
  refine ⟨_, _, rfl, fun x hx => ⟨fun k => zsF_a (by omega), ?_⟩, zsF_s .., fun D V => ⟨?_, fun j j0 j1 => ⟨?_, ?_, ?_⟩⟩⟩
  · rw [zsW_a (by omega), zsW_a (by omega), zsW_a (by omega)]
  · rw [zsF_s]; exact V.1
  · have e := V.1
    simp (disch := omega) only [zoI_s, zoR_s, zoH_s, zoL_s, zbI_s, zbV_s, zbR_s, zbL_s, zif_t, zif_f, zrz_0, zrz_1, i32_add, i32_mul, i32_sub, i32_neg, zsF_s, zsF_k, zsF_a, zsC_s, zsC_a, zsC_i, zsW_s, zsW_a, Int.add_zero, Int.zero_add, decide_true, decide_false, if_pos]; exact (V.2 j j0 j1).1
  · have e := V.1
    simp (disch := omega) only [zoI_s, zoR_s, zoH_s, zoL_s, zbI_s, zbV_s, zbR_s, zbL_s, zif_t, zif_f, zrz_0, zrz_1, i32_add, i32_mul, i32_sub, i32_neg, zsF_s, zsF_k, zsF_a, zsC_s, zsC_a, zsC_i, zsW_s, zsW_a, Int.add_zero, Int.zero_add, decide_true, decide_false, if_pos]; exact (V.2 j j0 j1).2.1
  · have e := V.1
    simp (disch := omega) only [zoI_s, zoR_s, zoH_s, zoL_s, zbI_s, zbV_s, zbR_s, zbL_s, zif_t, zif_f, zrz_0, zrz_1, i32_add, i32_mul, i32_sub, i32_neg, zsF_s, zsF_k, zsF_a, zsC_s, zsC_a, zsC_i, zsW_s, zsW_a, Int.add_zero, Int.zero_add, decide_true, decide_false, if_pos]; exact (V.2 j j0 j1).2.2
end CP
