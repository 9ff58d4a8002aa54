/-! dare: the programs -/
theorem sub1 (x : Int) : x + -1 = x - 1 := rfl
theorem mxF_rng {v : Int → Int} {s q b : Int} (hv : -1 ≤ v q ∧ v q ≤ 1) (hb : -1 ≤ b ∧ b ≤ 1) : -1 ≤ mxF v s q b ∧ mxF v s q b ≤ 1 := by
  unfold mxF
  split
  · exact hb
  · split
    · exact hv
    · exact hb
theorem mx_top {v : Int → Int} {s b : Int} (hv : ∀ q, v q ≤ 1) (hb : 1 ≤ b) : ∀ (j : Nat) (k : Int), foldF (mxF v s) k j b = b := by
  intro j
  induction j with
  | zero => intro k; rfl
  | succ j ih =>
    intro k
    have e : mxF v s k b = b := by
      unfold mxF
      have := hv k
      split
      · rfl
      · rw [if_neg (by omega)]
    rw [foldF, e, ih]
theorem darV_cg {L : Int → Int → Bool} {W W' : Int → Int} {s q : Int} (h : W (orI s q) = W' (orI s q)) : darV L W s q = darV L W' s q := by unfold darV; rw [h]
theorem dareS_f (L : Int → Int → Bool) (n : Int) : dareS L n 1 = fstF (fun q => decide (darV L (darS L n) 0 q = darS L n 0)) 0 n.toNat := if_neg (by omega)
section A17
variable {h : zHeap} {F : Nat → Nat → Int} {C : Nat → Int → Int} {a : Nat} {D : Int → Int}
theorem c_play (S : St h) (H : duS h a) (V : duV F C a D) (O : dOK D) (ha : a ≤ 28) {r p : Int} (r0 : 0 ≤ r) (r1 : r < D 0) (p0 : 0 ≤ p) (p1 : p < D 1) : ∃ f g, zc 65 [zR (some 60), zR (some a), zI (i32 r), zI (i32 p)] (zw h F C) = some (zI 0, zw h F (zsW (zsW C 64 f) 63 g)) ∧ (∀ k, 0 ≤ k → k < D 2 → setB (f k) (fun q => decide (q < D 2) && lstB D r p k q)) ∧ (∀ s, 0 ≤ s → s < 2 ^ (D 2).toNat → g s = darS (lstB D r p) (D 2) s) := by
  have b2 := O.2.2.1
  have q3 := pw_8 (n := D 2) (by omega)
  have q4 := pw_le (n := D 2) (by omega)
  obtain ⟨f, e, hf⟩ := c_findLost (F := F) (C := C) S H V O ha r0 r1 p0 p1
  have VV := fun g => (V.sW (b := 64) f ha (by omega)).sW (b := 63) g ha (by omega)
  have L2 := fun s g (s0 : 0 ≤ s) (s1 : s < 2 ^ (D 2).toNat - 1) (hg : ∀ t, s < t → t < 2 ^ (D 2).toNat → g t = darS (lstB D r p) (D 2) t) (x : Int) => (show ∀ (j : Nat) (q b : Int), 0 ≤ q → q + j = D 2 → (-1 ≤ b ∧ b ≤ 1) → zr 65 27 [yR (some 60), yR (some a), yI (i32 r), yI (i32 p), yI (i32 x), yI (i32 s), yI (i32 b), yI (i32 q)] [] (zw h F (zsW (zsW C 64 f) 63 g)) = zr 65 21 [yR (some 60), yR (some a), yI (i32 r), yI (i32 p), yI (i32 x), yI (i32 (s - 1)), none, none] [] (zw h F (zsW (zsW C 64 f) 63 (up1 g s (foldF (mxF (darV (lstB D r p) (darS (lstB D r p) (D 2)) s) s) q j b)))) from by
    have bn := bits_n (s := s) (n := D 2) s0 (by omega) (by omega) (by omega)
    have bn2 : bitsS s ≠ D 2 := fun z => by have := bn.2.mpr z; omega
    intro j
    induction j with
    | zero =>
      intro q b q0 hq hb
      rw [e_Plans_play_27]
      simp (disch := omega) only [if_true, if_false, not_true_eq_false, not_false_eq_true, zoI_s, zoR_s, zoH_s, zoL_s, zbI_s, zbV_s, zbR_s, zbL_s, zif_dec, i32_0, ne_eq, i32_lt, i32_le, i32_eq, i32_add, i32_mul, i32_sub, i32_neg, zrz_0, zrz_1, zif_t, zif_f, zsF_s, zsF_k, zsF_a, zsC_s, zsC_a, zsC_i, zsW_s, zsW_a, Int.add_zero, Int.zero_add, true_and, false_and, and_false, Bool.false_eq_true, decide_true, decide_false, Bool.true_and, Bool.false_and, Bool.true_or, Bool.false_or, sub1, if_pos, if_neg, dv H, dg_128 H, dp_128 H, dg_129 H, dp_129 H, dg_130 H, dp_130 H, dg_131 H, dp_131 H, dr_132 H, da_132 H, dr_133 H, da_133 H, dr_134 H, da_134 H, dr_135 H, da_135 H, dr_136 H, da_136 H, dr_137 H, da_137 H, V.1.2.2.1, wv_60 S, wr_256 S, wr_257 S, wr_258 S, wr_259 S, wa_63 S, ws_63 S, zsC_W, zsW_W, d_Plans_play_21_w6, d_Plans_play_21_w7]
      rfl
    | succ j ih =>
      intro q b q0 hq hb
      rw [e_Plans_play_27]
      by_cases c : 1 ≤ b
      · simp (disch := omega) only [if_true, if_false, not_true_eq_false, not_false_eq_true, zoI_s, zoR_s, zoH_s, zoL_s, zbI_s, zbV_s, zbR_s, zbL_s, zif_dec, i32_0, ne_eq, i32_lt, i32_le, i32_eq, i32_add, i32_mul, i32_sub, i32_neg, zrz_0, zrz_1, zif_t, zif_f, zsF_s, zsF_k, zsF_a, zsC_s, zsC_a, zsC_i, zsW_s, zsW_a, Int.add_zero, Int.zero_add, true_and, false_and, and_false, Bool.false_eq_true, decide_true, decide_false, Bool.true_and, Bool.false_and, Bool.true_or, Bool.false_or, sub1, if_pos, if_neg, dv H, dg_128 H, dp_128 H, dg_129 H, dp_129 H, dg_130 H, dp_130 H, dg_131 H, dp_131 H, dr_132 H, da_132 H, dr_133 H, da_133 H, dr_134 H, da_134 H, dr_135 H, da_135 H, dr_136 H, da_136 H, dr_137 H, da_137 H, V.1.2.2.1, wv_60 S, wr_256 S, wr_257 S, wr_258 S, wr_259 S, wa_63 S, ws_63 S, zsC_W, zsW_W, d_Plans_play_21_w6, d_Plans_play_21_w7]
        rw [mx_top (fun q => (darV_rng _ (by omega) s q).2) c]
      · rw [foldF]
        rcases bitI_01 s q with cs | cs
        · have o := orI_lt (s := s) (r := q) (n := D 2) s0 q0 (by omega) (by omega) (by omega)
          have og := orI_gt cs
          have gg := hg (orI s q) og o.2.2
          have gr := darS_rng (lstB D r p) (n := D 2) (by omega) (orI s q)
          have gv := darV_rng (lstB D r p) (n := D 2) (by omega) s q
          have ew := c_dareWorth (F := F) (C := zsW (zsW C 64 f) 63 g) (L := lstB D r p) (n := D 2) (s := s) (q := q) S (by omega) (by rw [zsW_a (by omega), zsW_s]; exact hf) s0 (by omega) (by omega) q0 (by omega) (by rw [zsW_s, gg]; exact gr)
          rw [zsW_s, darV_cg gg] at ew
          have ihh := ih (q + 1) (mxF (darV (lstB D r p) (darS (lstB D r p) (D 2)) s) s q b) (by omega) (by omega) (mxF_rng gv hb)
          rw [← ihh]
          unfold mxF
          by_cases c2 : b < darV (lstB D r p) (darS (lstB D r p) (D 2)) s q
          · simp (disch := omega) only [if_true, if_false, not_true_eq_false, not_false_eq_true, zoI_s, zoR_s, zoH_s, zoL_s, zbI_s, zbV_s, zbR_s, zbL_s, zif_dec, i32_0, ne_eq, i32_lt, i32_le, i32_eq, i32_add, i32_mul, i32_sub, i32_neg, zrz_0, zrz_1, zif_t, zif_f, zsF_s, zsF_k, zsF_a, zsC_s, zsC_a, zsC_i, zsW_s, zsW_a, Int.add_zero, Int.zero_add, true_and, false_and, and_false, Bool.false_eq_true, decide_true, decide_false, Bool.true_and, Bool.false_and, Bool.true_or, Bool.false_or, sub1, if_pos, if_neg, dv H, dg_128 H, dp_128 H, dg_129 H, dp_129 H, dg_130 H, dp_130 H, dg_131 H, dp_131 H, dr_132 H, da_132 H, dr_133 H, da_133 H, dr_134 H, da_134 H, dr_135 H, da_135 H, dr_136 H, da_136 H, dr_137 H, da_137 H, V.1.2.2.1, wv_60 S, wr_256 S, wr_257 S, wr_258 S, wr_259 S, b_shr, cs, ew, i32_max]
          · simp (disch := omega) only [if_true, if_false, not_true_eq_false, not_false_eq_true, zoI_s, zoR_s, zoH_s, zoL_s, zbI_s, zbV_s, zbR_s, zbL_s, zif_dec, i32_0, ne_eq, i32_lt, i32_le, i32_eq, i32_add, i32_mul, i32_sub, i32_neg, zrz_0, zrz_1, zif_t, zif_f, zsF_s, zsF_k, zsF_a, zsC_s, zsC_a, zsC_i, zsW_s, zsW_a, Int.add_zero, Int.zero_add, true_and, false_and, and_false, Bool.false_eq_true, decide_true, decide_false, Bool.true_and, Bool.false_and, Bool.true_or, Bool.false_or, sub1, if_pos, if_neg, dv H, dg_128 H, dp_128 H, dg_129 H, dp_129 H, dg_130 H, dp_130 H, dg_131 H, dp_131 H, dr_132 H, da_132 H, dr_133 H, da_133 H, dr_134 H, da_134 H, dr_135 H, da_135 H, dr_136 H, da_136 H, dr_137 H, da_137 H, V.1.2.2.1, wv_60 S, wr_256 S, wr_257 S, wr_258 S, wr_259 S, b_shr, cs, ew, i32_max]
        · have ihh := ih (q + 1) (mxF (darV (lstB D r p) (darS (lstB D r p) (D 2)) s) s q b) (by omega) (by omega) (by unfold mxF; rw [if_pos cs]; exact hb)
          rw [← ihh]
          unfold mxF
          simp (disch := omega) only [if_true, if_false, not_true_eq_false, not_false_eq_true, zoI_s, zoR_s, zoH_s, zoL_s, zbI_s, zbV_s, zbR_s, zbL_s, zif_dec, i32_0, ne_eq, i32_lt, i32_le, i32_eq, i32_add, i32_mul, i32_sub, i32_neg, zrz_0, zrz_1, zif_t, zif_f, zsF_s, zsF_k, zsF_a, zsC_s, zsC_a, zsC_i, zsW_s, zsW_a, Int.add_zero, Int.zero_add, true_and, false_and, and_false, Bool.false_eq_true, decide_true, decide_false, Bool.true_and, Bool.false_and, Bool.true_or, Bool.false_or, sub1, if_pos, if_neg, dv H, dg_128 H, dp_128 H, dg_129 H, dp_129 H, dg_130 H, dp_130 H, dg_131 H, dp_131 H, dr_132 H, da_132 H, dr_133 H, da_133 H, dr_134 H, da_134 H, dr_135 H, da_135 H, dr_136 H, da_136 H, dr_137 H, da_137 H, V.1.2.2.1, wv_60 S, wr_256 S, wr_257 S, wr_258 S, wr_259 S, b_shr, cs])
  obtain ⟨g, L1, i1⟩ := zdwn (fun s g => zr 65 21 [yR (some 60), yR (some a), yI (i32 r), yI (i32 p), yI (i32 (2 ^ (D 2).toNat - 1)), yI (i32 s), none, none] [] (zw h F (zsW (zsW C 64 f) 63 g))) (fun s g => ∀ t, s < t → t < 2 ^ (D 2).toNat → g t = darS (lstB D r p) (D 2) t) (-1) (2 ^ (D 2).toNat - 1 - 1) (by omega) (fun s g s0 s1 hi => by
    refine ⟨up1 g s (foldF (mxF (darV (lstB D r p) (darS (lstB D r p) (D 2)) s) s) 0 (D 2).toNat (-1)), ?_, ?_⟩
    · rw [e_Plans_play_21]
      simp (disch := omega) only [if_true, if_false, not_true_eq_false, not_false_eq_true, zoI_s, zoR_s, zoH_s, zoL_s, zbI_s, zbV_s, zbR_s, zbL_s, zif_dec, i32_0, ne_eq, i32_lt, i32_le, i32_eq, i32_add, i32_mul, i32_sub, i32_neg, zrz_0, zrz_1, zif_t, zif_f, zsF_s, zsF_k, zsF_a, zsC_s, zsC_a, zsC_i, zsW_s, zsW_a, Int.add_zero, Int.zero_add, true_and, false_and, and_false, Bool.false_eq_true, decide_true, decide_false, Bool.true_and, Bool.false_and, Bool.true_or, Bool.false_or, sub1, if_pos, if_neg]
      exact L2 s g (by omega) (by omega) hi _ (D 2).toNat 0 (-1) (by omega) (by omega) (by omega)
    · intro t t0 t1
      by_cases c : t = s
      · rw [c, up1_s]
        exact (darS_eq _ (by omega) (by omega) (by omega) (by omega)).symm
      · rw [up1_n c]
        exact hi t (by omega) t1) (up1 (C 63) (2 ^ (D 2).toNat - 1) 0) (fun t t0 t1 => by
    rw [show t = 2 ^ (D 2).toNat - 1 by omega, up1_s]
    exact (darS_full _ (by omega) (by omega)).symm)
  refine ⟨f, g, ?_, hf, fun s s0 s1 => i1 s (by omega) s1⟩
  rw [e_Plans_play]
  simp (disch := omega) only [if_true, if_false, not_true_eq_false, not_false_eq_true, zoI_s, zoR_s, zoH_s, zoL_s, zbI_s, zbV_s, zbR_s, zbL_s, zif_dec, i32_0, ne_eq, i32_lt, i32_le, i32_eq, i32_add, i32_mul, i32_sub, i32_neg, zrz_0, zrz_1, zif_t, zif_f, zsF_s, zsF_k, zsF_a, zsC_s, zsC_a, zsC_i, zsW_s, zsW_a, Int.add_zero, Int.zero_add, true_and, false_and, and_false, Bool.false_eq_true, decide_true, decide_false, Bool.true_and, Bool.false_and, Bool.true_or, Bool.false_or, sub1, if_pos, if_neg, wv_60 S, wr_256 S, wr_257 S, wr_258 S, wr_259 S, dv H, dg_128 H, dp_128 H, dg_129 H, dp_129 H, dg_130 H, dp_130 H, dg_131 H, dp_131 H, dr_132 H, da_132 H, dr_133 H, da_133 H, dr_134 H, da_134 H, dr_135 H, da_135 H, dr_136 H, da_136 H, dr_137 H, da_137 H, V.1.2.2.1, e, wa_63 S, ws_63 S, b_pow, zsC_W, L1]
  rw [e_Plans_play_21]
  simp (disch := omega) only [if_true, if_false, not_true_eq_false, not_false_eq_true, zoI_s, zoR_s, zoH_s, zoL_s, zbI_s, zbV_s, zbR_s, zbL_s, zif_dec, i32_0, ne_eq, i32_lt, i32_le, i32_eq, i32_add, i32_mul, i32_sub, i32_neg, zrz_0, zrz_1, zif_t, zif_f, zsF_s, zsF_k, zsF_a, zsC_s, zsC_a, zsC_i, zsW_s, zsW_a, Int.add_zero, Int.zero_add, true_and, false_and, and_false, Bool.false_eq_true, decide_true, decide_false, Bool.true_and, Bool.false_and, Bool.true_or, Bool.false_or, sub1, if_pos, if_neg]
theorem c_firstDare (S : St h) (H : duS h a) (V : duV F C a D) (O : dOK D) {L : Int → Int → Bool} (hf : ∀ k, 0 ≤ k → k < D 2 → setB (C 64 k) (fun q => decide (q < D 2) && L k q)) (hg : ∀ s, 0 ≤ s → s < 2 ^ (D 2).toNat → C 63 s = darS L (D 2) s) : zc 68 [zR (some 60), zR (some a)] (zw h F C) = some (zI (i32 (dareS L (D 2) 1)), zw h F C) := by
  have b2 := O.2.2.1
  have q3 := pw_8 (n := D 2) (by omega)
  have q4 := pw_le (n := D 2) (by omega)
  have h00 := darS_rng L (n := D 2) (by omega) 0
  have ew := fun q (q0 : 0 ≤ q) (q1 : q < D 2) => (show zc 66 [zR (some 60), zI (i32 0), zI (i32 q)] (zw h F C) = some (zI (i32 (darV L (darS L (D 2)) 0 q)), zw h F C) from by
    have o := orI_lt (s := 0) (r := q) (n := D 2) (by omega) q0 q1 (by omega) (by omega)
    have e := c_dareWorth (F := F) (C := C) (L := L) (n := D 2) (s := 0) (q := q) S (by omega) hf (by omega) (by omega) (by rw [show bitsS 0 = 0 from rfl]; omega) q0 q1 (by rw [hg _ o.1 o.2.2]; exact darS_rng L (by omega) _)
    rw [darV_cg (hg _ o.1 o.2.2)] at e
    exact e)
  have e0 := hg 0 (by omega) (by omega)
  have L1 := zfst (fun q => zr 68 2 [yR (some 60), yR (some a), yI (i32 q)] [] (zw h F C)) (fun q => some (zI (i32 q), zw h F C)) (fun q => decide (darV L (darS L (D 2)) 0 q = darS L (D 2) 0)) 0 (D 2) (by omega) (by omega) (fun q q0 q1 hp => by
    have c := of_decide_eq_true hp
    have g := darV_rng L (n := D 2) (by omega) 0 q
    rw [e_Plans_firstDare_2]
    simp (disch := omega) only [if_true, if_false, not_true_eq_false, not_false_eq_true, zoI_s, zoR_s, zoH_s, zoL_s, zbI_s, zbV_s, zbR_s, zbL_s, zif_dec, i32_0, ne_eq, i32_lt, i32_le, i32_eq, i32_add, i32_mul, i32_sub, i32_neg, zrz_0, zrz_1, zif_t, zif_f, zsF_s, zsF_k, zsF_a, zsC_s, zsC_a, zsC_i, zsW_s, zsW_a, Int.add_zero, Int.zero_add, true_and, false_and, and_false, Bool.false_eq_true, decide_true, decide_false, Bool.true_and, Bool.false_and, Bool.true_or, Bool.false_or, sub1, if_pos, if_neg, dv H, dg_128 H, dp_128 H, dg_129 H, dp_129 H, dg_130 H, dp_130 H, dg_131 H, dp_131 H, dr_132 H, da_132 H, dr_133 H, da_133 H, dr_134 H, da_134 H, dr_135 H, da_135 H, dr_136 H, da_136 H, dr_137 H, da_137 H, V.1.2.2.1, wv_60 S, wr_256 S, wr_257 S, wr_258 S, wr_259 S, wa_63 S, ws_63 S, ew, e0]) (fun q q0 q1 hp => by
    have c := of_decide_eq_false hp
    have g := darV_rng L (n := D 2) (by omega) 0 q
    rw [e_Plans_firstDare_2]
    simp (disch := omega) only [if_true, if_false, not_true_eq_false, not_false_eq_true, zoI_s, zoR_s, zoH_s, zoL_s, zbI_s, zbV_s, zbR_s, zbL_s, zif_dec, i32_0, ne_eq, i32_lt, i32_le, i32_eq, i32_add, i32_mul, i32_sub, i32_neg, zrz_0, zrz_1, zif_t, zif_f, zsF_s, zsF_k, zsF_a, zsC_s, zsC_a, zsC_i, zsW_s, zsW_a, Int.add_zero, Int.zero_add, true_and, false_and, and_false, Bool.false_eq_true, decide_true, decide_false, Bool.true_and, Bool.false_and, Bool.true_or, Bool.false_or, sub1, if_pos, if_neg, dv H, dg_128 H, dp_128 H, dg_129 H, dp_129 H, dg_130 H, dp_130 H, dg_131 H, dp_131 H, dr_132 H, da_132 H, dr_133 H, da_133 H, dr_134 H, da_134 H, dr_135 H, da_135 H, dr_136 H, da_136 H, dr_137 H, da_137 H, V.1.2.2.1, wv_60 S, wr_256 S, wr_257 S, wr_258 S, wr_259 S, wa_63 S, ws_63 S, ew, e0])
  rw [e_Plans_firstDare, L1]
  rw [Int.sub_zero, dareS_f]
  generalize fstF (fun q => decide (darV L (darS L (D 2)) 0 q = darS L (D 2) 0)) 0 (D 2).toNat = z
  by_cases c : z = -1
  · rw [if_pos c, e_Plans_firstDare_2]
    simp (disch := omega) only [if_true, if_false, not_true_eq_false, not_false_eq_true, zoI_s, zoR_s, zoH_s, zoL_s, zbI_s, zbV_s, zbR_s, zbL_s, zif_dec, i32_0, ne_eq, i32_lt, i32_le, i32_eq, i32_add, i32_mul, i32_sub, i32_neg, zrz_0, zrz_1, zif_t, zif_f, zsF_s, zsF_k, zsF_a, zsC_s, zsC_a, zsC_i, zsW_s, zsW_a, Int.add_zero, Int.zero_add, true_and, false_and, and_false, Bool.false_eq_true, decide_true, decide_false, Bool.true_and, Bool.false_and, Bool.true_or, Bool.false_or, sub1, if_pos, if_neg, dv H, dg_128 H, dp_128 H, dg_129 H, dp_129 H, dg_130 H, dp_130 H, dg_131 H, dp_131 H, dr_132 H, da_132 H, dr_133 H, da_133 H, dr_134 H, da_134 H, dr_135 H, da_135 H, dr_136 H, da_136 H, dr_137 H, da_137 H, V.1.2.2.1, c]
  · rw [if_neg c]
theorem dareS_1 (L : Int → Int → Bool) (n : Int) {b : Int} (h : b ≠ 0) : dareS L n b = dareS L n 1 := by unfold dareS; rw [if_neg h, if_neg (by omega)]
/-! the reference -/
def mdF (v : Int → Int) (s : Int) (q : Int) (t : Int × Int) : Int × Int := if bitI s q = 1 then t else if t.1 < v q then (v q, q) else t
theorem md_spec (v : Int → Int) (s x0 n : Int) (n0 : 0 ≤ n) (hv : ∀ q, -1 ≤ v q) : (fun (t : Int × Int) => (t = (-2, x0) ∧ ∀ q, 0 ≤ q → q < n → bitI s q = 1) ∨ (-1 ≤ t.1 ∧ (0 ≤ t.2 ∧ t.2 < n) ∧ bitI s t.2 = 0 ∧ v t.2 = t.1 ∧ ∀ q, 0 ≤ q → q < n → bitI s q = 0 → v q ≤ t.1 ∧ (q < t.2 → v q < t.1))) (foldF (mdF v s) 0 n.toNat (-2, x0)) := by
  have := foldI (mdF v s) (fun k t => (t = (-2, x0) ∧ ∀ q, 0 ≤ q → q < k → bitI s q = 1) ∨ (-1 ≤ t.1 ∧ (0 ≤ t.2 ∧ t.2 < k) ∧ bitI s t.2 = 0 ∧ v t.2 = t.1 ∧ ∀ q, 0 ≤ q → q < k → bitI s q = 0 → v q ≤ t.1 ∧ (q < t.2 → v q < t.1))) 0 n n0 (fun k t k0 k1 hi => by
    have hk := bitI_01 s k
    have hvk := hv k
    unfold mdF
    rcases hi with ⟨h1, h2⟩ | ⟨h1, h2, h3, h4, h5⟩
    · rcases hk with c | c
      · rw [if_neg (by omega), if_pos (show t.1 < v k by rw [h1]; show -2 < v k; omega)]
        refine Or.inr ⟨hvk, ⟨k0, by show k < k + 1; omega⟩, c, rfl, fun q q0 q1 hq => ?_⟩
        by_cases e : q = k
        · rw [e]; exact ⟨Int.le_refl _, fun z => absurd z (Int.lt_irrefl _)⟩
        · have := h2 q q0 (by omega); omega
      · rw [if_pos c]
        refine Or.inl ⟨h1, fun q q0 q1 => ?_⟩
        by_cases e : q = k
        · rw [e]; exact c
        · exact h2 q q0 (by omega)
    · rcases hk with c | c
      · rw [if_neg (by omega)]
        by_cases c2 : t.1 < v k
        · rw [if_pos c2]
          refine Or.inr ⟨hvk, ⟨k0, by show k < k + 1; omega⟩, c, rfl, fun q q0 q1 hq => ?_⟩
          show v q ≤ v k ∧ (q < k → v q < v k)
          by_cases e : q = k
          · rw [e]; omega
          · have := h5 q q0 (by omega) hq; omega
        · rw [if_neg c2]
          refine Or.inr ⟨h1, by omega, h3, h4, fun q q0 q1 hq => ?_⟩
          by_cases e : q = k
          · rw [e]; omega
          · exact h5 q q0 (by omega) hq
      · rw [if_pos c]
        refine Or.inr ⟨h1, by omega, h3, h4, fun q q0 q1 hq => ?_⟩
        by_cases e : q = k
        · rw [e] at hq; omega
        · exact h5 q q0 (by omega) hq) (-2, x0) (Or.inl ⟨rfl, fun q _ _ => by omega⟩)
  rw [Int.sub_zero] at this
  exact this
/-- what the reference finds is what the spec says -/
theorem md_dar (L : Int → Int → Bool) {n s x0 : Int} (n0 : 0 ≤ n) (n1 : n ≤ 8) (s0 : 0 ≤ s) (s1 : s < 2 ^ n.toNat) : (if (foldF (mdF (darV L (darS L n) s) s) 0 n.toNat (-2, x0)).1 = -2 then 0 else (foldF (mdF (darV L (darS L n) s) s) 0 n.toNat (-2, x0)).1) = darS L n s ∧ (s = 0 → 0 < n → (foldF (mdF (darV L (darS L n) s) s) 0 n.toNat (-2, x0)).2 = dareS L n 1) := by
  have hv := fun q => darV_rng L n0 s q
  have p1 := pw_le (n := n) (by omega)
  have md := md_spec (darV L (darS L n) s) s x0 n n0 (fun q => (hv q).1)
  generalize foldF (mdF (darV L (darS L n) s) s) 0 n.toNat (-2, x0) = t at md
  by_cases c : s = 2 ^ n.toNat - 1
  · have hf : ∀ q, 0 ≤ q → q < n → bitI s q = 1 := fun q q0 q1 => by rw [c]; exact full_q n0 n1 q0 q1
    rcases md with ⟨h1, _⟩ | ⟨h1, h2, h3, _⟩
    · refine ⟨?_, fun z z2 => ?_⟩
      · rw [h1, if_pos rfl, c, darS_full L n0 n1]
      · have := hf 0 (by omega) z2
        rw [z, bitI_0] at this
        omega
    · have := hf t.2 h2.1 h2.2; omega
  · obtain ⟨q, q0, q1, q2⟩ := free_q s0 n0 n1 s1 c
    rcases md with ⟨_, h2⟩ | ⟨h1, h2, h3, h4, h5⟩
    · have := h2 q q0 q1; omega
    · have e : t.1 = darS L n s := by
        rw [darS_eq L n0 n1 s0 (by omega)]
        obtain ⟨g1, g2, g3⟩ := mx_spec (darV L (darS L n) s) s (-1) n n0 (fun q => (hv q).1)
        have k1 := g2 t.2 h2.1 h2.2 (by omega)
        rw [h4] at k1
        rcases g3 with g3 | ⟨y, y0, y1, y2, y3⟩
        · omega
        · have := (h5 y y0 y1 ((bitI_01 s y).resolve_right y2)).1
          omega
      refine ⟨by rw [if_neg (by omega)]; exact e, fun z _ => ?_⟩
      rw [dareS_f]
      rcases fstF_spec (fun q => decide (darV L (darS L n) 0 q = darS L n 0)) n.toNat 0 (by omega) with ⟨_, k2⟩ | ⟨k1, k2, k3, k4⟩
      · have := of_decide_eq_false (k2 t.2 h2.1 (by omega))
        rw [z] at h4 e
        exact absurd (h4.trans e) this
      · have k3 := of_decide_eq_true k3
        generalize fstF (fun q => decide (darV L (darS L n) 0 q = darS L n 0)) 0 n.toNat = y at k1 k2 k3 k4
        rw [z] at h4 e h5
        have w1 := h5 y k1 (by omega) (bitI_0 y)
        by_cases cc : t.2 < y
        · have := of_decide_eq_false (k4 t.2 h2.1 cc)
          exact absurd (h4.trans e) this
        · have : ¬ y < t.2 := fun z => by have := w1.2 z; omega
          omega
theorem mlF_788 (F : Nat → Nat → Int) (w u v x y : Int) : zsF (mlF (zsF F 788 72 x) w u v) 788 72 y = mlF (zsF F 788 72 y) w u v := by
  unfold mlF
  rw [zsF_sw _ _ _ (by omega), zsF_sw (zsF (zsF F 788 72 x) 782 72 w) _ _ (by omega), zsF_sw (zsF F 788 72 x) _ _ (by omega), zsF_ss]
theorem m_laysDares (S : St h) (M : moV F C D) (O : dOK D) {r p : Int} (r0 : 0 ≤ r) (r1 : r < D 0) (p0 : 0 ≤ p) (p1 : p < D 1) : ∃ g x w u v, zc 250 [zR (some 72), zI (i32 r), zI (i32 p)] (zw h (zsF F 788 72 (-1)) C) = some (zI 0, zw h (mlF (zsF F 788 72 x) w u v) (zsW C 78 g)) ∧ (g 0 = darS (lstB D r p) (D 2) 0 + 1) ∧ x = dareS (lstB D r p) (D 2) 1 := by
  have b1 := O.2.2.2.2.1 r r0 r1
  have b5 := O.2.2.2.2.2.1 r r0 r1
  have b6 := O.2.2.2.1
  have b2 := O.2.2.1
  have q3 := pw_8 (n := D 2) (by omega)
  have q4 := pw_le (n := D 2) (by omega)
  have L2 := fun s g (s0 : 0 ≤ s) (s1 : s < 2 ^ (D 2).toNat) (hg : ∀ t, s < t → t < 2 ^ (D 2).toNat → g t = darS (lstB D r p) (D 2) t + 1) (y x0 : Int) (w7 : Option zVal) => zfoJ (fun q (t : Int × Int) (w7 : Option zVal) => zr 250 30 [yR (some 72), yI (i32 r), yI (i32 p), yI (i32 s), yI (i32 y), yI (i32 (t.1 + 1)), yI (i32 q), w7] [] (zw h (mlF (zsF F 788 72 t.2) (driS (D (4 + 2 * r)) (bitsS s)) (D (5 + 2 * r)) (D 3)) (zsW C 78 g))) (mdF (darV (lstB D r p) (darS (lstB D r p) (D 2)) s) s) (fun k t _ => -2 ≤ t.1 ∧ t.1 ≤ 1) 0 (D 2) (by omega) (fun q t w7 q0 q1 hi => by
    obtain ⟨b, x⟩ := t
    dsimp only at hi ⊢
    have bn := bits_n (s := s) (n := D 2) s0 (by omega) (by omega) (by omega)
    have bb := bitsS_rng s
    have dr := driS_rng b1.1 b1.2 bb.1
    have gn := noteS_rng (D := D) (w := driS (D (4 + 2 * r)) (bitsS s)) (k := D (5 + 2 * r)) (c := D 3) (p := p) (q := q)
    have M2 : moV (zsF F 788 72 x) (zsW C 78 g) D := M.sW (F := zsF F 788 72 x) (C := C) g (by omega)
    have gv := darV_rng (lstB D r p) (n := D 2) (by omega) s q
    rw [e_Model_laysDares_30]
    unfold mdF
    dsimp only
    rcases bitI_01 s q with cs | cs
    · have o := orI_lt (s := s) (r := q) (n := D 2) s0 q0 (by omega) (by omega) (by omega)
      have gg := hg (orI s q) (orI_gt cs) o.2.2
      have gr := darS_rng (lstB D r p) (n := D 2) (by omega) (orI s q)
      rw [if_neg (by omega)]
      by_cases cl : noteS D (driS (D (4 + 2 * r)) (bitsS s)) (D (5 + 2 * r)) (D 3) p q ≤ 0
      · have ev : darV (lstB D r p) (darS (lstB D r p) (D 2)) s q = -1 := if_pos (decide_eq_true cl)
        rw [ev]
        by_cases cb : b < -1
        · rw [if_pos cb]
          simp (disch := omega) only [if_true, if_false, not_true_eq_false, not_false_eq_true, zoI_s, zoR_s, zoH_s, zoL_s, zbI_s, zbV_s, zbR_s, zbL_s, zif_dec, i32_0, ne_eq, i32_lt, i32_le, i32_eq, i32_add, i32_mul, i32_sub, i32_neg, zrz_0, zrz_1, zif_t, zif_f, zsF_s, zsF_k, zsF_a, zsC_s, zsC_a, zsC_i, zsW_s, zsW_a, Int.add_zero, Int.zero_add, true_and, false_and, and_false, Bool.false_eq_true, decide_true, decide_false, Bool.true_and, Bool.false_and, Bool.true_or, Bool.false_or, sub1, if_pos, if_neg, wv_72 S, wr_768 S, wr_769 S, wr_777 S, wr_785 S, wr_786 S, wr_787 S, wr_789 S, wr_790 S, wr_791 S, wr_802 S, wr_803 S, wr_804 S, wr_805 S, wr_806 S, wr_807 S, wr_809 S, wg_770 S, wp_770 S, wg_771 S, wp_771 S, wg_772 S, wp_772 S, wg_773 S, wp_773 S, wg_774 S, wp_774 S, wg_775 S, wp_775 S, wg_776 S, wp_776 S, wg_778 S, wp_778 S, wg_779 S, wp_779 S, wg_780 S, wp_780 S, wg_781 S, wp_781 S, wg_782 S, wp_782 S, wg_783 S, wp_783 S, wg_784 S, wp_784 S, wg_788 S, wp_788 S, wg_792 S, wp_792 S, wg_793 S, wp_793 S, wg_794 S, wp_794 S, wg_795 S, wp_795 S, wg_796 S, wp_796 S, wg_797 S, wp_797 S, wg_798 S, wp_798 S, wg_799 S, wp_799 S, wg_800 S, wp_800 S, wg_801 S, wp_801 S, wg_808 S, wp_808 S, wg_810 S, wp_810 S, mlF_o, M.2.1.1, M.2.1.2.1, M.2.1.2.2, m_lays S (M.ml _ _ _) O, mlF_ml, m_ans S M O, m_nte S M O, m_meant S (M.ml _ _ _), mlF_0, mlF_1, mlF_2, mlF_w, mlF_k, mlF_c, b_shr, cs, m_notw S M2 O, mlF_788]
          exact ⟨_, rfl, by omega⟩
        · rw [if_neg cb]
          simp (disch := omega) only [if_true, if_false, not_true_eq_false, not_false_eq_true, zoI_s, zoR_s, zoH_s, zoL_s, zbI_s, zbV_s, zbR_s, zbL_s, zif_dec, i32_0, ne_eq, i32_lt, i32_le, i32_eq, i32_add, i32_mul, i32_sub, i32_neg, zrz_0, zrz_1, zif_t, zif_f, zsF_s, zsF_k, zsF_a, zsC_s, zsC_a, zsC_i, zsW_s, zsW_a, Int.add_zero, Int.zero_add, true_and, false_and, and_false, Bool.false_eq_true, decide_true, decide_false, Bool.true_and, Bool.false_and, Bool.true_or, Bool.false_or, sub1, if_pos, if_neg, wv_72 S, wr_768 S, wr_769 S, wr_777 S, wr_785 S, wr_786 S, wr_787 S, wr_789 S, wr_790 S, wr_791 S, wr_802 S, wr_803 S, wr_804 S, wr_805 S, wr_806 S, wr_807 S, wr_809 S, wg_770 S, wp_770 S, wg_771 S, wp_771 S, wg_772 S, wp_772 S, wg_773 S, wp_773 S, wg_774 S, wp_774 S, wg_775 S, wp_775 S, wg_776 S, wp_776 S, wg_778 S, wp_778 S, wg_779 S, wp_779 S, wg_780 S, wp_780 S, wg_781 S, wp_781 S, wg_782 S, wp_782 S, wg_783 S, wp_783 S, wg_784 S, wp_784 S, wg_788 S, wp_788 S, wg_792 S, wp_792 S, wg_793 S, wp_793 S, wg_794 S, wp_794 S, wg_795 S, wp_795 S, wg_796 S, wp_796 S, wg_797 S, wp_797 S, wg_798 S, wp_798 S, wg_799 S, wp_799 S, wg_800 S, wp_800 S, wg_801 S, wp_801 S, wg_808 S, wp_808 S, wg_810 S, wp_810 S, mlF_o, M.2.1.1, M.2.1.2.1, M.2.1.2.2, m_lays S (M.ml _ _ _) O, mlF_ml, m_ans S M O, m_nte S M O, m_meant S (M.ml _ _ _), mlF_0, mlF_1, mlF_2, mlF_w, mlF_k, mlF_c, b_shr, cs, m_notw S M2 O]
          exact ⟨_, rfl, hi⟩
      · have ev : darV (lstB D r p) (darS (lstB D r p) (D 2)) s q = -(darS (lstB D r p) (D 2) (orI s q)) := if_neg (fun z => cl (of_decide_eq_true z))
        rw [ev] at gv ⊢
        have e2 : (2 : Int) - (darS (lstB D r p) (D 2) (orI s q) + 1) = -(darS (lstB D r p) (D 2) (orI s q)) + 1 := by omega
        by_cases cb : b < -(darS (lstB D r p) (D 2) (orI s q))
        · rw [if_pos cb]
          simp (disch := omega) only [if_true, if_false, not_true_eq_false, not_false_eq_true, zoI_s, zoR_s, zoH_s, zoL_s, zbI_s, zbV_s, zbR_s, zbL_s, zif_dec, i32_0, ne_eq, i32_lt, i32_le, i32_eq, i32_add, i32_mul, i32_sub, i32_neg, zrz_0, zrz_1, zif_t, zif_f, zsF_s, zsF_k, zsF_a, zsC_s, zsC_a, zsC_i, zsW_s, zsW_a, Int.add_zero, Int.zero_add, true_and, false_and, and_false, Bool.false_eq_true, decide_true, decide_false, Bool.true_and, Bool.false_and, Bool.true_or, Bool.false_or, sub1, if_pos, if_neg, wv_72 S, wr_768 S, wr_769 S, wr_777 S, wr_785 S, wr_786 S, wr_787 S, wr_789 S, wr_790 S, wr_791 S, wr_802 S, wr_803 S, wr_804 S, wr_805 S, wr_806 S, wr_807 S, wr_809 S, wg_770 S, wp_770 S, wg_771 S, wp_771 S, wg_772 S, wp_772 S, wg_773 S, wp_773 S, wg_774 S, wp_774 S, wg_775 S, wp_775 S, wg_776 S, wp_776 S, wg_778 S, wp_778 S, wg_779 S, wp_779 S, wg_780 S, wp_780 S, wg_781 S, wp_781 S, wg_782 S, wp_782 S, wg_783 S, wp_783 S, wg_784 S, wp_784 S, wg_788 S, wp_788 S, wg_792 S, wp_792 S, wg_793 S, wp_793 S, wg_794 S, wp_794 S, wg_795 S, wp_795 S, wg_796 S, wp_796 S, wg_797 S, wp_797 S, wg_798 S, wp_798 S, wg_799 S, wp_799 S, wg_800 S, wp_800 S, wg_801 S, wp_801 S, wg_808 S, wp_808 S, wg_810 S, wp_810 S, mlF_o, M.2.1.1, M.2.1.2.1, M.2.1.2.2, m_lays S (M.ml _ _ _) O, mlF_ml, m_ans S M O, m_nte S M O, m_meant S (M.ml _ _ _), mlF_0, mlF_1, mlF_2, mlF_w, mlF_k, mlF_c, b_shr, cs, m_notw S M2 O, mlF_788, b_or, wa_78 S, ws_78 S, gg, e2]
          exact ⟨_, rfl, by omega⟩
        · rw [if_neg cb]
          simp (disch := omega) only [if_true, if_false, not_true_eq_false, not_false_eq_true, zoI_s, zoR_s, zoH_s, zoL_s, zbI_s, zbV_s, zbR_s, zbL_s, zif_dec, i32_0, ne_eq, i32_lt, i32_le, i32_eq, i32_add, i32_mul, i32_sub, i32_neg, zrz_0, zrz_1, zif_t, zif_f, zsF_s, zsF_k, zsF_a, zsC_s, zsC_a, zsC_i, zsW_s, zsW_a, Int.add_zero, Int.zero_add, true_and, false_and, and_false, Bool.false_eq_true, decide_true, decide_false, Bool.true_and, Bool.false_and, Bool.true_or, Bool.false_or, sub1, if_pos, if_neg, wv_72 S, wr_768 S, wr_769 S, wr_777 S, wr_785 S, wr_786 S, wr_787 S, wr_789 S, wr_790 S, wr_791 S, wr_802 S, wr_803 S, wr_804 S, wr_805 S, wr_806 S, wr_807 S, wr_809 S, wg_770 S, wp_770 S, wg_771 S, wp_771 S, wg_772 S, wp_772 S, wg_773 S, wp_773 S, wg_774 S, wp_774 S, wg_775 S, wp_775 S, wg_776 S, wp_776 S, wg_778 S, wp_778 S, wg_779 S, wp_779 S, wg_780 S, wp_780 S, wg_781 S, wp_781 S, wg_782 S, wp_782 S, wg_783 S, wp_783 S, wg_784 S, wp_784 S, wg_788 S, wp_788 S, wg_792 S, wp_792 S, wg_793 S, wp_793 S, wg_794 S, wp_794 S, wg_795 S, wp_795 S, wg_796 S, wp_796 S, wg_797 S, wp_797 S, wg_798 S, wp_798 S, wg_799 S, wp_799 S, wg_800 S, wp_800 S, wg_801 S, wp_801 S, wg_808 S, wp_808 S, wg_810 S, wp_810 S, mlF_o, M.2.1.1, M.2.1.2.1, M.2.1.2.2, m_lays S (M.ml _ _ _) O, mlF_ml, m_ans S M O, m_nte S M O, m_meant S (M.ml _ _ _), mlF_0, mlF_1, mlF_2, mlF_w, mlF_k, mlF_c, b_shr, cs, m_notw S M2 O, mlF_788, b_or, wa_78 S, ws_78 S, gg, e2]
          exact ⟨_, rfl, hi⟩
    · rw [if_pos cs]
      simp (disch := omega) only [if_true, if_false, not_true_eq_false, not_false_eq_true, zoI_s, zoR_s, zoH_s, zoL_s, zbI_s, zbV_s, zbR_s, zbL_s, zif_dec, i32_0, ne_eq, i32_lt, i32_le, i32_eq, i32_add, i32_mul, i32_sub, i32_neg, zrz_0, zrz_1, zif_t, zif_f, zsF_s, zsF_k, zsF_a, zsC_s, zsC_a, zsC_i, zsW_s, zsW_a, Int.add_zero, Int.zero_add, true_and, false_and, and_false, Bool.false_eq_true, decide_true, decide_false, Bool.true_and, Bool.false_and, Bool.true_or, Bool.false_or, sub1, if_pos, if_neg, wv_72 S, wr_768 S, wr_769 S, wr_777 S, wr_785 S, wr_786 S, wr_787 S, wr_789 S, wr_790 S, wr_791 S, wr_802 S, wr_803 S, wr_804 S, wr_805 S, wr_806 S, wr_807 S, wr_809 S, wg_770 S, wp_770 S, wg_771 S, wp_771 S, wg_772 S, wp_772 S, wg_773 S, wp_773 S, wg_774 S, wp_774 S, wg_775 S, wp_775 S, wg_776 S, wp_776 S, wg_778 S, wp_778 S, wg_779 S, wp_779 S, wg_780 S, wp_780 S, wg_781 S, wp_781 S, wg_782 S, wp_782 S, wg_783 S, wp_783 S, wg_784 S, wp_784 S, wg_788 S, wp_788 S, wg_792 S, wp_792 S, wg_793 S, wp_793 S, wg_794 S, wp_794 S, wg_795 S, wp_795 S, wg_796 S, wp_796 S, wg_797 S, wp_797 S, wg_798 S, wp_798 S, wg_799 S, wp_799 S, wg_800 S, wp_800 S, wg_801 S, wp_801 S, wg_808 S, wp_808 S, wg_810 S, wp_810 S, mlF_o, M.2.1.1, M.2.1.2.1, M.2.1.2.2, m_lays S (M.ml _ _ _) O, mlF_ml, m_ans S M O, m_nte S M O, m_meant S (M.ml _ _ _), mlF_0, mlF_1, mlF_2, mlF_w, mlF_k, mlF_c, b_shr, cs]
      exact ⟨_, rfl, hi⟩) (-2, x0) w7 (by dsimp only; omega)
  obtain ⟨⟨g, x, w, w7⟩, L1, i1, i2⟩ := zdwn (fun s (t : (Int → Int) × Int × Int × Option zVal) => zr 250 10 [yR (some 72), yI (i32 r), yI (i32 p), yI (i32 s), none, none, none, t.2.2.2] [] (zw h (mlF (zsF F 788 72 t.2.1) t.2.2.1 (D (5 + 2 * r)) (D 3)) (zsW C 78 t.1))) (fun s t => (∀ u, s < u → u < 2 ^ (D 2).toNat → t.1 u = darS (lstB D r p) (D 2) u + 1) ∧ (s < 0 ∨ D 2 = 0 → t.2.1 = dareS (lstB D r p) (D 2) 1)) (-1) (2 ^ (D 2).toNat - 1) (by omega) (fun s t s0 s1 hi => by
    obtain ⟨g, x, w, w7⟩ := t
    dsimp only at hi ⊢
    have s0' : 0 ≤ s := by omega
    have bn := bits_n (s := s) (n := D 2) s0' (by omega) (by omega) (by omega)
    have bb := bitsS_rng s
    obtain ⟨w8, e, i⟩ := L2 s g s0' (by omega) hi.1 (D (4 + 2 * r) - bitsS s) x w7
    have md := md_dar (lstB D r p) (n := D 2) (s := s) (x0 := x) (by omega) (by omega) s0' (by omega)
    rw [Int.sub_zero] at e i
    have M2 : moV (mlF (zsF F 788 72 x) w (D (5 + 2 * r)) (D 3)) (zsW C 78 g) D := M.sW (F := mlF (zsF F 788 72 x) w (D (5 + 2 * r)) (D 3)) (C := C) g (by omega)
    have hd0 : D 2 = 0 → (foldF (mdF (darV (lstB D r p) (darS (lstB D r p) (D 2)) s) s) 0 (D 2).toNat (-2, x)).2 = x := fun z => by rw [z]; rfl
    generalize foldF (mdF (darV (lstB D r p) (darS (lstB D r p) (D 2)) s) s) 0 (D 2).toNat (-2, x) = t at e i md hd0
    obtain ⟨b, y⟩ := t
    dsimp only at e i md hd0
    refine ⟨(up1 g s (darS (lstB D r p) (D 2) s + 1), y, driS (D (4 + 2 * r)) (bitsS s), w8), ?_, ?_, ?_⟩
    · dsimp only
      rw [← md.1, e_Model_laysDares_10]
      have ed : driS (D (4 + 2 * r)) (bitsS s) = if D (4 + 2 * r) - bitsS s ≤ 0 then 0 else D (4 + 2 * r) - bitsS s := by
        unfold driS
        by_cases c : D (4 + 2 * r) < bitsS s
        · rw [if_pos c, if_pos (by omega)]
        · rw [if_neg c]
          by_cases c2 : D (4 + 2 * r) - bitsS s ≤ 0
          · rw [if_pos c2]; omega
          · rw [if_neg c2]
      by_cases cw : D (4 + 2 * r) - bitsS s ≤ 0
      · rw [if_pos cw] at ed
        rw [ed] at e ⊢
        simp (disch := omega) only [if_true, if_false, not_true_eq_false, not_false_eq_true, zoI_s, zoR_s, zoH_s, zoL_s, zbI_s, zbV_s, zbR_s, zbL_s, zif_dec, i32_0, ne_eq, i32_lt, i32_le, i32_eq, i32_add, i32_mul, i32_sub, i32_neg, zrz_0, zrz_1, zif_t, zif_f, zsF_s, zsF_k, zsF_a, zsC_s, zsC_a, zsC_i, zsW_s, zsW_a, Int.add_zero, Int.zero_add, true_and, false_and, and_false, Bool.false_eq_true, decide_true, decide_false, Bool.true_and, Bool.false_and, Bool.true_or, Bool.false_or, sub1, if_pos, if_neg, wv_72 S, wr_768 S, wr_769 S, wr_777 S, wr_785 S, wr_786 S, wr_787 S, wr_789 S, wr_790 S, wr_791 S, wr_802 S, wr_803 S, wr_804 S, wr_805 S, wr_806 S, wr_807 S, wr_809 S, wg_770 S, wp_770 S, wg_771 S, wp_771 S, wg_772 S, wp_772 S, wg_773 S, wp_773 S, wg_774 S, wp_774 S, wg_775 S, wp_775 S, wg_776 S, wp_776 S, wg_778 S, wp_778 S, wg_779 S, wp_779 S, wg_780 S, wp_780 S, wg_781 S, wp_781 S, wg_782 S, wp_782 S, wg_783 S, wp_783 S, wg_784 S, wp_784 S, wg_788 S, wp_788 S, wg_792 S, wp_792 S, wg_793 S, wp_793 S, wg_794 S, wp_794 S, wg_795 S, wp_795 S, wg_796 S, wp_796 S, wg_797 S, wp_797 S, wg_798 S, wp_798 S, wg_799 S, wp_799 S, wg_800 S, wp_800 S, wg_801 S, wp_801 S, wg_808 S, wp_808 S, wg_810 S, wp_810 S, mlF_o, M.2.1.1, M.2.1.2.1, M.2.1.2.2, m_lays S (M.ml _ _ _) O, mlF_ml, m_ans S M O, m_nte S M O, m_meant S (M.ml _ _ _), mlF_0, mlF_1, mlF_2, mlF_w, mlF_k, mlF_c, m_wetOf S M2 O, m_bitsOf]
        rw [show (-2 : Int) + 1 = -1 from rfl] at e
        rw [e, e_Model_laysDares_30]
        by_cases cb : b = -2
        · simp (disch := omega) only [if_true, if_false, not_true_eq_false, not_false_eq_true, zoI_s, zoR_s, zoH_s, zoL_s, zbI_s, zbV_s, zbR_s, zbL_s, zif_dec, i32_0, ne_eq, i32_lt, i32_le, i32_eq, i32_add, i32_mul, i32_sub, i32_neg, zrz_0, zrz_1, zif_t, zif_f, zsF_s, zsF_k, zsF_a, zsC_s, zsC_a, zsC_i, zsW_s, zsW_a, Int.add_zero, Int.zero_add, true_and, false_and, and_false, Bool.false_eq_true, decide_true, decide_false, Bool.true_and, Bool.false_and, Bool.true_or, Bool.false_or, sub1, if_pos, if_neg, wv_72 S, wr_768 S, wr_769 S, wr_777 S, wr_785 S, wr_786 S, wr_787 S, wr_789 S, wr_790 S, wr_791 S, wr_802 S, wr_803 S, wr_804 S, wr_805 S, wr_806 S, wr_807 S, wr_809 S, wg_770 S, wp_770 S, wg_771 S, wp_771 S, wg_772 S, wp_772 S, wg_773 S, wp_773 S, wg_774 S, wp_774 S, wg_775 S, wp_775 S, wg_776 S, wp_776 S, wg_778 S, wp_778 S, wg_779 S, wp_779 S, wg_780 S, wp_780 S, wg_781 S, wp_781 S, wg_782 S, wp_782 S, wg_783 S, wp_783 S, wg_784 S, wp_784 S, wg_788 S, wp_788 S, wg_792 S, wp_792 S, wg_793 S, wp_793 S, wg_794 S, wp_794 S, wg_795 S, wp_795 S, wg_796 S, wp_796 S, wg_797 S, wp_797 S, wg_798 S, wp_798 S, wg_799 S, wp_799 S, wg_800 S, wp_800 S, wg_801 S, wp_801 S, wg_808 S, wp_808 S, wg_810 S, wp_810 S, mlF_o, M.2.1.1, M.2.1.2.1, M.2.1.2.2, m_lays S (M.ml _ _ _) O, mlF_ml, m_ans S M O, m_nte S M O, m_meant S (M.ml _ _ _), mlF_0, mlF_1, mlF_2, mlF_w, mlF_k, mlF_c, cb, wa_78 S, ws_78 S, zsC_W, zsW_W, d_Model_laysDares_10_w4, d_Model_laysDares_10_w5, d_Model_laysDares_10_w6]
        · simp (disch := omega) only [if_true, if_false, not_true_eq_false, not_false_eq_true, zoI_s, zoR_s, zoH_s, zoL_s, zbI_s, zbV_s, zbR_s, zbL_s, zif_dec, i32_0, ne_eq, i32_lt, i32_le, i32_eq, i32_add, i32_mul, i32_sub, i32_neg, zrz_0, zrz_1, zif_t, zif_f, zsF_s, zsF_k, zsF_a, zsC_s, zsC_a, zsC_i, zsW_s, zsW_a, Int.add_zero, Int.zero_add, true_and, false_and, and_false, Bool.false_eq_true, decide_true, decide_false, Bool.true_and, Bool.false_and, Bool.true_or, Bool.false_or, sub1, if_pos, if_neg, wv_72 S, wr_768 S, wr_769 S, wr_777 S, wr_785 S, wr_786 S, wr_787 S, wr_789 S, wr_790 S, wr_791 S, wr_802 S, wr_803 S, wr_804 S, wr_805 S, wr_806 S, wr_807 S, wr_809 S, wg_770 S, wp_770 S, wg_771 S, wp_771 S, wg_772 S, wp_772 S, wg_773 S, wp_773 S, wg_774 S, wp_774 S, wg_775 S, wp_775 S, wg_776 S, wp_776 S, wg_778 S, wp_778 S, wg_779 S, wp_779 S, wg_780 S, wp_780 S, wg_781 S, wp_781 S, wg_782 S, wp_782 S, wg_783 S, wp_783 S, wg_784 S, wp_784 S, wg_788 S, wp_788 S, wg_792 S, wp_792 S, wg_793 S, wp_793 S, wg_794 S, wp_794 S, wg_795 S, wp_795 S, wg_796 S, wp_796 S, wg_797 S, wp_797 S, wg_798 S, wp_798 S, wg_799 S, wp_799 S, wg_800 S, wp_800 S, wg_801 S, wp_801 S, wg_808 S, wp_808 S, wg_810 S, wp_810 S, mlF_o, M.2.1.1, M.2.1.2.1, M.2.1.2.2, m_lays S (M.ml _ _ _) O, mlF_ml, m_ans S M O, m_nte S M O, m_meant S (M.ml _ _ _), mlF_0, mlF_1, mlF_2, mlF_w, mlF_k, mlF_c, wa_78 S, ws_78 S, zsC_W, zsW_W, d_Model_laysDares_10_w4, d_Model_laysDares_10_w5, d_Model_laysDares_10_w6]
      · rw [if_neg cw] at ed
        rw [ed] at e ⊢
        simp (disch := omega) only [if_true, if_false, not_true_eq_false, not_false_eq_true, zoI_s, zoR_s, zoH_s, zoL_s, zbI_s, zbV_s, zbR_s, zbL_s, zif_dec, i32_0, ne_eq, i32_lt, i32_le, i32_eq, i32_add, i32_mul, i32_sub, i32_neg, zrz_0, zrz_1, zif_t, zif_f, zsF_s, zsF_k, zsF_a, zsC_s, zsC_a, zsC_i, zsW_s, zsW_a, Int.add_zero, Int.zero_add, true_and, false_and, and_false, Bool.false_eq_true, decide_true, decide_false, Bool.true_and, Bool.false_and, Bool.true_or, Bool.false_or, sub1, if_pos, if_neg, wv_72 S, wr_768 S, wr_769 S, wr_777 S, wr_785 S, wr_786 S, wr_787 S, wr_789 S, wr_790 S, wr_791 S, wr_802 S, wr_803 S, wr_804 S, wr_805 S, wr_806 S, wr_807 S, wr_809 S, wg_770 S, wp_770 S, wg_771 S, wp_771 S, wg_772 S, wp_772 S, wg_773 S, wp_773 S, wg_774 S, wp_774 S, wg_775 S, wp_775 S, wg_776 S, wp_776 S, wg_778 S, wp_778 S, wg_779 S, wp_779 S, wg_780 S, wp_780 S, wg_781 S, wp_781 S, wg_782 S, wp_782 S, wg_783 S, wp_783 S, wg_784 S, wp_784 S, wg_788 S, wp_788 S, wg_792 S, wp_792 S, wg_793 S, wp_793 S, wg_794 S, wp_794 S, wg_795 S, wp_795 S, wg_796 S, wp_796 S, wg_797 S, wp_797 S, wg_798 S, wp_798 S, wg_799 S, wp_799 S, wg_800 S, wp_800 S, wg_801 S, wp_801 S, wg_808 S, wp_808 S, wg_810 S, wp_810 S, mlF_o, M.2.1.1, M.2.1.2.1, M.2.1.2.2, m_lays S (M.ml _ _ _) O, mlF_ml, m_ans S M O, m_nte S M O, m_meant S (M.ml _ _ _), mlF_0, mlF_1, mlF_2, mlF_w, mlF_k, mlF_c, m_wetOf S M2 O, m_bitsOf]
        rw [show (-2 : Int) + 1 = -1 from rfl] at e
        rw [e, e_Model_laysDares_30]
        by_cases cb : b = -2
        · simp (disch := omega) only [if_true, if_false, not_true_eq_false, not_false_eq_true, zoI_s, zoR_s, zoH_s, zoL_s, zbI_s, zbV_s, zbR_s, zbL_s, zif_dec, i32_0, ne_eq, i32_lt, i32_le, i32_eq, i32_add, i32_mul, i32_sub, i32_neg, zrz_0, zrz_1, zif_t, zif_f, zsF_s, zsF_k, zsF_a, zsC_s, zsC_a, zsC_i, zsW_s, zsW_a, Int.add_zero, Int.zero_add, true_and, false_and, and_false, Bool.false_eq_true, decide_true, decide_false, Bool.true_and, Bool.false_and, Bool.true_or, Bool.false_or, sub1, if_pos, if_neg, wv_72 S, wr_768 S, wr_769 S, wr_777 S, wr_785 S, wr_786 S, wr_787 S, wr_789 S, wr_790 S, wr_791 S, wr_802 S, wr_803 S, wr_804 S, wr_805 S, wr_806 S, wr_807 S, wr_809 S, wg_770 S, wp_770 S, wg_771 S, wp_771 S, wg_772 S, wp_772 S, wg_773 S, wp_773 S, wg_774 S, wp_774 S, wg_775 S, wp_775 S, wg_776 S, wp_776 S, wg_778 S, wp_778 S, wg_779 S, wp_779 S, wg_780 S, wp_780 S, wg_781 S, wp_781 S, wg_782 S, wp_782 S, wg_783 S, wp_783 S, wg_784 S, wp_784 S, wg_788 S, wp_788 S, wg_792 S, wp_792 S, wg_793 S, wp_793 S, wg_794 S, wp_794 S, wg_795 S, wp_795 S, wg_796 S, wp_796 S, wg_797 S, wp_797 S, wg_798 S, wp_798 S, wg_799 S, wp_799 S, wg_800 S, wp_800 S, wg_801 S, wp_801 S, wg_808 S, wp_808 S, wg_810 S, wp_810 S, mlF_o, M.2.1.1, M.2.1.2.1, M.2.1.2.2, m_lays S (M.ml _ _ _) O, mlF_ml, m_ans S M O, m_nte S M O, m_meant S (M.ml _ _ _), mlF_0, mlF_1, mlF_2, mlF_w, mlF_k, mlF_c, cb, wa_78 S, ws_78 S, zsC_W, zsW_W, d_Model_laysDares_10_w4, d_Model_laysDares_10_w5, d_Model_laysDares_10_w6]
        · simp (disch := omega) only [if_true, if_false, not_true_eq_false, not_false_eq_true, zoI_s, zoR_s, zoH_s, zoL_s, zbI_s, zbV_s, zbR_s, zbL_s, zif_dec, i32_0, ne_eq, i32_lt, i32_le, i32_eq, i32_add, i32_mul, i32_sub, i32_neg, zrz_0, zrz_1, zif_t, zif_f, zsF_s, zsF_k, zsF_a, zsC_s, zsC_a, zsC_i, zsW_s, zsW_a, Int.add_zero, Int.zero_add, true_and, false_and, and_false, Bool.false_eq_true, decide_true, decide_false, Bool.true_and, Bool.false_and, Bool.true_or, Bool.false_or, sub1, if_pos, if_neg, wv_72 S, wr_768 S, wr_769 S, wr_777 S, wr_785 S, wr_786 S, wr_787 S, wr_789 S, wr_790 S, wr_791 S, wr_802 S, wr_803 S, wr_804 S, wr_805 S, wr_806 S, wr_807 S, wr_809 S, wg_770 S, wp_770 S, wg_771 S, wp_771 S, wg_772 S, wp_772 S, wg_773 S, wp_773 S, wg_774 S, wp_774 S, wg_775 S, wp_775 S, wg_776 S, wp_776 S, wg_778 S, wp_778 S, wg_779 S, wp_779 S, wg_780 S, wp_780 S, wg_781 S, wp_781 S, wg_782 S, wp_782 S, wg_783 S, wp_783 S, wg_784 S, wp_784 S, wg_788 S, wp_788 S, wg_792 S, wp_792 S, wg_793 S, wp_793 S, wg_794 S, wp_794 S, wg_795 S, wp_795 S, wg_796 S, wp_796 S, wg_797 S, wp_797 S, wg_798 S, wp_798 S, wg_799 S, wp_799 S, wg_800 S, wp_800 S, wg_801 S, wp_801 S, wg_808 S, wp_808 S, wg_810 S, wp_810 S, mlF_o, M.2.1.1, M.2.1.2.1, M.2.1.2.2, m_lays S (M.ml _ _ _) O, mlF_ml, m_ans S M O, m_nte S M O, m_meant S (M.ml _ _ _), mlF_0, mlF_1, mlF_2, mlF_w, mlF_k, mlF_c, wa_78 S, ws_78 S, zsC_W, zsW_W, d_Model_laysDares_10_w4, d_Model_laysDares_10_w5, d_Model_laysDares_10_w6]
    · intro u u0 u1
      by_cases c : u = s
      · rw [c]; exact up1_s _ _ _
      · dsimp only; rw [up1_n c]; exact hi.1 u (by omega) u1
    · intro hs
      dsimp only
      by_cases cn : D 2 = 0
      · rw [hd0 cn]; exact hi.2 (Or.inr cn)
      · exact md.2 (by omega) (by omega)) (C 78, -1, D (4 + 2 * r), none) ⟨fun u u0 u1 => by omega, fun z => (show (-1 : Int) = dareS (lstB D r p) (D 2) 1 by rw [dareS_f, show (D 2).toNat = 0 by omega]; rfl)⟩
  dsimp only at L1 i1 i2
  refine ⟨g, x, w, D (5 + 2 * r), D 3, ?_, i1 0 (by omega) (by omega), i2 (by omega)⟩
  have M3 : moV (zsF F 788 72 (-1)) C D := M
  rw [zsW_id] at L1
  rw [e_Model_laysDares]
  simp (disch := omega) only [if_true, if_false, not_true_eq_false, not_false_eq_true, zoI_s, zoR_s, zoH_s, zoL_s, zbI_s, zbV_s, zbR_s, zbL_s, zif_dec, i32_0, ne_eq, i32_lt, i32_le, i32_eq, i32_add, i32_mul, i32_sub, i32_neg, zrz_0, zrz_1, zif_t, zif_f, zsF_s, zsF_k, zsF_a, zsC_s, zsC_a, zsC_i, zsW_s, zsW_a, Int.add_zero, Int.zero_add, true_and, false_and, and_false, Bool.false_eq_true, decide_true, decide_false, Bool.true_and, Bool.false_and, Bool.true_or, Bool.false_or, sub1, if_pos, if_neg, wv_72 S, wr_768 S, wr_769 S, wr_777 S, wr_785 S, wr_786 S, wr_787 S, wr_789 S, wr_790 S, wr_791 S, wr_802 S, wr_803 S, wr_804 S, wr_805 S, wr_806 S, wr_807 S, wr_809 S, wg_770 S, wp_770 S, wg_771 S, wp_771 S, wg_772 S, wp_772 S, wg_773 S, wp_773 S, wg_774 S, wp_774 S, wg_775 S, wp_775 S, wg_776 S, wp_776 S, wg_778 S, wp_778 S, wg_779 S, wp_779 S, wg_780 S, wp_780 S, wg_781 S, wp_781 S, wg_782 S, wp_782 S, wg_783 S, wp_783 S, wg_784 S, wp_784 S, wg_788 S, wp_788 S, wg_792 S, wp_792 S, wg_793 S, wp_793 S, wg_794 S, wp_794 S, wg_795 S, wp_795 S, wg_796 S, wp_796 S, wg_797 S, wp_797 S, wg_798 S, wp_798 S, wg_799 S, wp_799 S, wg_800 S, wp_800 S, wg_801 S, wp_801 S, wg_808 S, wp_808 S, wg_810 S, wp_810 S, mlF_o, M.2.1.1, M.2.1.2.1, M.2.1.2.2, m_lays S (M.ml _ _ _) O, mlF_ml, m_ans S M O, m_nte S M O, m_meant S (M.ml _ _ _), mlF_0, mlF_1, mlF_2, mlF_w, mlF_k, mlF_c, m_lays S M3 O, b_pow, L1]
  rw [e_Model_laysDares_10]
  simp (disch := omega) only [if_true, if_false, not_true_eq_false, not_false_eq_true, zoI_s, zoR_s, zoH_s, zoL_s, zbI_s, zbV_s, zbR_s, zbL_s, zif_dec, i32_0, ne_eq, i32_lt, i32_le, i32_eq, i32_add, i32_mul, i32_sub, i32_neg, zrz_0, zrz_1, zif_t, zif_f, zsF_s, zsF_k, zsF_a, zsC_s, zsC_a, zsC_i, zsW_s, zsW_a, Int.add_zero, Int.zero_add, true_and, false_and, and_false, Bool.false_eq_true, decide_true, decide_false, Bool.true_and, Bool.false_and, Bool.true_or, Bool.false_or, sub1, if_pos, if_neg]
end A17
def dareQ (A : Int → Int) (d r p b : Int) : Int := if (0 ≤ d ∧ d < A 0) ∧ (0 ≤ r ∧ r < (dOf A d) 0) ∧ (0 ≤ p ∧ p < (dOf A d) 1) then dareS (lstB (dOf A d) r p) ((dOf A d) 2) b else -2
theorem c_dare {d r p b : Int} (hd : inI d) (hr : inI r) (hp : inI p) (hb : inI b) : ans1 161 0 [zI (i32 d), zI (i32 r), zI (i32 p), zI (i32 b)] (fun A => zI (i32 (dareQ A d r p b))) := by
  intro h F C Q
  have S := Q.1
  unfold inI at hd hr hp hb
  unfold dareQ
  by_cases c1 : 0 ≤ d ∧ d < C 73 0
  · have H := Q.dS c1.1 c1.2
    have V := Q.dV c1.1 c1.2
    have O := Q.dO c1.1 c1.2
    have ha : 8 + 13 * d.toNat ≤ 28 := by have := Q.2.2.1.1; omega
    by_cases g1 : 0 ≤ r ∧ r < (dOf (C 73) d) 0
    · by_cases g2 : 0 ≤ p ∧ p < (dOf (C 73) d) 1
      · skip
        obtain ⟨f, g, e, hf, hg⟩ := c_play (F := F) (C := C) S H V O ha g1.1 g1.2 g2.1 g2.2
        have b2 := O.2.2.1
        have q4 := pw_le (n := (dOf (C 73) d) 2) (by omega)
        have V2 := (V.sW (b := 64) f ha (by omega)).sW (b := 63) g ha (by omega)
        refine ⟨F, _, ?_, (tq.rfl.sW (a := 64) (f := f) (by omega) (by omega)).sW (a := 63) (f := g) (by omega) (by omega)⟩
        by_cases cb : b = 0
        · have g0 := hg 0 (by omega) (by omega)
          have gr := darS_rng (lstB (dOf (C 73) d) r p) (n := (dOf (C 73) d) 2) (by omega) 0
          unfold dareS
          rcases (show darS (lstB (dOf (C 73) d) r p) ((dOf (C 73) d) 2) 0 = -1 ∨ darS (lstB (dOf (C 73) d) r p) ((dOf (C 73) d) 2) 0 = 0 ∨ darS (lstB (dOf (C 73) d) r p) ((dOf (C 73) d) 2) 0 = 1 by omega) with gz | gz | gz
          · simp (disch := omega) only [if_true, if_false, not_true_eq_false, not_false_eq_true, zoI_s, zoR_s, zoH_s, zoL_s, zbI_s, zbV_s, zbR_s, zbL_s, zif_dec, i32_0, ne_eq, i32_lt, i32_le, i32_eq, i32_add, i32_mul, i32_sub, i32_neg, zrz_0, zrz_1, zif_t, zif_f, zsF_s, zsF_k, zsF_a, zsC_s, zsC_a, zsC_i, zsW_s, zsW_a, Int.add_zero, Int.zero_add, true_and, false_and, and_false, Bool.false_eq_true, decide_true, decide_false, Bool.true_and, Bool.false_and, Bool.true_or, Bool.false_or, sub1, if_pos, if_neg, wv_0 S, wr_704 S, wr_705 S, wr_706 S, wr_707 S, wr_708 S, wr_709 S, wr_710 S, wr_711 S, wv_68 S, wr_384 S, wr_385 S, wr_386 S, tv_1 S, dv H, dg_128 H, dp_128 H, dg_129 H, dp_129 H, dg_130 H, dp_130 H, dg_131 H, dp_131 H, dr_132 H, da_132 H, dr_133 H, da_133 H, dr_134 H, da_134 H, dr_135 H, da_135 H, dr_136 H, da_136 H, dr_137 H, da_137 H, c_dAt Q, Option.isNone_some, Option.isSome_some, c_hasReed H V O, c_hasPlayer H V O, c_hasQuestion H V O, c_hasAll H V O, c_isAnswer, c_within, ib_0, e_Main_dare, e, wv_60 S, wr_256 S, wr_257 S, wr_258 S, wr_259 S, e_Plans_outcome, wa_63 S, ws_63 S, g0, gz]
          · simp (disch := omega) only [if_true, if_false, not_true_eq_false, not_false_eq_true, zoI_s, zoR_s, zoH_s, zoL_s, zbI_s, zbV_s, zbR_s, zbL_s, zif_dec, i32_0, ne_eq, i32_lt, i32_le, i32_eq, i32_add, i32_mul, i32_sub, i32_neg, zrz_0, zrz_1, zif_t, zif_f, zsF_s, zsF_k, zsF_a, zsC_s, zsC_a, zsC_i, zsW_s, zsW_a, Int.add_zero, Int.zero_add, true_and, false_and, and_false, Bool.false_eq_true, decide_true, decide_false, Bool.true_and, Bool.false_and, Bool.true_or, Bool.false_or, sub1, if_pos, if_neg, wv_0 S, wr_704 S, wr_705 S, wr_706 S, wr_707 S, wr_708 S, wr_709 S, wr_710 S, wr_711 S, wv_68 S, wr_384 S, wr_385 S, wr_386 S, tv_1 S, dv H, dg_128 H, dp_128 H, dg_129 H, dp_129 H, dg_130 H, dp_130 H, dg_131 H, dp_131 H, dr_132 H, da_132 H, dr_133 H, da_133 H, dr_134 H, da_134 H, dr_135 H, da_135 H, dr_136 H, da_136 H, dr_137 H, da_137 H, c_dAt Q, Option.isNone_some, Option.isSome_some, c_hasReed H V O, c_hasPlayer H V O, c_hasQuestion H V O, c_hasAll H V O, c_isAnswer, c_within, ib_0, e_Main_dare, e, wv_60 S, wr_256 S, wr_257 S, wr_258 S, wr_259 S, e_Plans_outcome, wa_63 S, ws_63 S, g0, gz]
          · simp (disch := omega) only [if_true, if_false, not_true_eq_false, not_false_eq_true, zoI_s, zoR_s, zoH_s, zoL_s, zbI_s, zbV_s, zbR_s, zbL_s, zif_dec, i32_0, ne_eq, i32_lt, i32_le, i32_eq, i32_add, i32_mul, i32_sub, i32_neg, zrz_0, zrz_1, zif_t, zif_f, zsF_s, zsF_k, zsF_a, zsC_s, zsC_a, zsC_i, zsW_s, zsW_a, Int.add_zero, Int.zero_add, true_and, false_and, and_false, Bool.false_eq_true, decide_true, decide_false, Bool.true_and, Bool.false_and, Bool.true_or, Bool.false_or, sub1, if_pos, if_neg, wv_0 S, wr_704 S, wr_705 S, wr_706 S, wr_707 S, wr_708 S, wr_709 S, wr_710 S, wr_711 S, wv_68 S, wr_384 S, wr_385 S, wr_386 S, tv_1 S, dv H, dg_128 H, dp_128 H, dg_129 H, dp_129 H, dg_130 H, dp_130 H, dg_131 H, dp_131 H, dr_132 H, da_132 H, dr_133 H, da_133 H, dr_134 H, da_134 H, dr_135 H, da_135 H, dr_136 H, da_136 H, dr_137 H, da_137 H, c_dAt Q, Option.isNone_some, Option.isSome_some, c_hasReed H V O, c_hasPlayer H V O, c_hasQuestion H V O, c_hasAll H V O, c_isAnswer, c_within, ib_0, e_Main_dare, e, wv_60 S, wr_256 S, wr_257 S, wr_258 S, wr_259 S, e_Plans_outcome, wa_63 S, ws_63 S, g0, gz]
        · have ef := c_firstDare (F := F) (C := zsW (zsW C 64 f) 63 g) (L := lstB (dOf (C 73) d) r p) S H V2 O (by rw [zsW_a (by omega), zsW_s]; exact hf) (by rw [zsW_s]; exact hg)
          simp (disch := omega) only [if_true, if_false, not_true_eq_false, not_false_eq_true, zoI_s, zoR_s, zoH_s, zoL_s, zbI_s, zbV_s, zbR_s, zbL_s, zif_dec, i32_0, ne_eq, i32_lt, i32_le, i32_eq, i32_add, i32_mul, i32_sub, i32_neg, zrz_0, zrz_1, zif_t, zif_f, zsF_s, zsF_k, zsF_a, zsC_s, zsC_a, zsC_i, zsW_s, zsW_a, Int.add_zero, Int.zero_add, true_and, false_and, and_false, Bool.false_eq_true, decide_true, decide_false, Bool.true_and, Bool.false_and, Bool.true_or, Bool.false_or, sub1, if_pos, if_neg, wv_0 S, wr_704 S, wr_705 S, wr_706 S, wr_707 S, wr_708 S, wr_709 S, wr_710 S, wr_711 S, wv_68 S, wr_384 S, wr_385 S, wr_386 S, tv_1 S, dv H, dg_128 H, dp_128 H, dg_129 H, dp_129 H, dg_130 H, dp_130 H, dg_131 H, dp_131 H, dr_132 H, da_132 H, dr_133 H, da_133 H, dr_134 H, da_134 H, dr_135 H, da_135 H, dr_136 H, da_136 H, dr_137 H, da_137 H, c_dAt Q, Option.isNone_some, Option.isSome_some, c_hasReed H V O, c_hasPlayer H V O, c_hasQuestion H V O, c_hasAll H V O, c_isAnswer, c_within, ib_0, e_Main_dare, e, wv_60 S, wr_256 S, wr_257 S, wr_258 S, wr_259 S, ef, dareS_1 (lstB (dOf (C 73) d) r p) (dOf (C 73) d 2) cb]
      · refine ⟨_, C, ?_, tq.rfl⟩
        simp (disch := omega) only [if_true, if_false, not_true_eq_false, not_false_eq_true, zoI_s, zoR_s, zoH_s, zoL_s, zbI_s, zbV_s, zbR_s, zbL_s, zif_dec, i32_0, ne_eq, i32_lt, i32_le, i32_eq, i32_add, i32_mul, i32_sub, i32_neg, zrz_0, zrz_1, zif_t, zif_f, zsF_s, zsF_k, zsF_a, zsC_s, zsC_a, zsC_i, zsW_s, zsW_a, Int.add_zero, Int.zero_add, true_and, false_and, and_false, Bool.false_eq_true, decide_true, decide_false, Bool.true_and, Bool.false_and, Bool.true_or, Bool.false_or, sub1, if_pos, if_neg, wv_0 S, wr_704 S, wr_705 S, wr_706 S, wr_707 S, wr_708 S, wr_709 S, wr_710 S, wr_711 S, wv_68 S, wr_384 S, wr_385 S, wr_386 S, tv_1 S, dv H, dg_128 H, dp_128 H, dg_129 H, dp_129 H, dg_130 H, dp_130 H, dg_131 H, dp_131 H, dr_132 H, da_132 H, dr_133 H, da_133 H, dr_134 H, da_134 H, dr_135 H, da_135 H, dr_136 H, da_136 H, dr_137 H, da_137 H, c_dAt Q, Option.isNone_some, Option.isSome_some, c_hasReed H V O, c_hasPlayer H V O, c_hasQuestion H V O, c_hasAll H V O, c_isAnswer, c_within, ib_0, e_Main_dare]
        all_goals (split <;> rfl)
    · refine ⟨_, C, ?_, tq.rfl⟩
      simp (disch := omega) only [if_true, if_false, not_true_eq_false, not_false_eq_true, zoI_s, zoR_s, zoH_s, zoL_s, zbI_s, zbV_s, zbR_s, zbL_s, zif_dec, i32_0, ne_eq, i32_lt, i32_le, i32_eq, i32_add, i32_mul, i32_sub, i32_neg, zrz_0, zrz_1, zif_t, zif_f, zsF_s, zsF_k, zsF_a, zsC_s, zsC_a, zsC_i, zsW_s, zsW_a, Int.add_zero, Int.zero_add, true_and, false_and, and_false, Bool.false_eq_true, decide_true, decide_false, Bool.true_and, Bool.false_and, Bool.true_or, Bool.false_or, sub1, if_pos, if_neg, wv_0 S, wr_704 S, wr_705 S, wr_706 S, wr_707 S, wr_708 S, wr_709 S, wr_710 S, wr_711 S, wv_68 S, wr_384 S, wr_385 S, wr_386 S, tv_1 S, dv H, dg_128 H, dp_128 H, dg_129 H, dp_129 H, dg_130 H, dp_130 H, dg_131 H, dp_131 H, dr_132 H, da_132 H, dr_133 H, da_133 H, dr_134 H, da_134 H, dr_135 H, da_135 H, dr_136 H, da_136 H, dr_137 H, da_137 H, c_dAt Q, Option.isNone_some, Option.isSome_some, c_hasReed H V O, c_hasPlayer H V O, c_hasQuestion H V O, c_hasAll H V O, c_isAnswer, c_within, ib_0, e_Main_dare]
      all_goals (split <;> rfl)
  · refine ⟨_, C, ?_, tq.rfl⟩
    simp (disch := omega) only [if_true, if_false, not_true_eq_false, not_false_eq_true, zoI_s, zoR_s, zoH_s, zoL_s, zbI_s, zbV_s, zbR_s, zbL_s, zif_dec, i32_0, ne_eq, i32_lt, i32_le, i32_eq, i32_add, i32_mul, i32_sub, i32_neg, zrz_0, zrz_1, zif_t, zif_f, zsF_s, zsF_k, zsF_a, zsC_s, zsC_a, zsC_i, zsW_s, zsW_a, Int.add_zero, Int.zero_add, true_and, false_and, and_false, Bool.false_eq_true, decide_true, decide_false, Bool.true_and, Bool.false_and, Bool.true_or, Bool.false_or, sub1, if_pos, if_neg, wv_0 S, wr_704 S, wr_705 S, wr_706 S, wr_707 S, wr_708 S, wr_709 S, wr_710 S, wr_711 S, tv_1 S, c_dAt0 Q, Option.isNone_none, Option.isSome_none, e_Main_dare]
theorem m_dare {d r p b : Int} (hd : inI d) (hr : inI r) (hp : inI p) (hb : inI b) : ans1 251 72 [zI (i32 d), zI (i32 r), zI (i32 p), zI (i32 b)] (fun A => zI (i32 (dareQ A d r p b))) := by
  intro h F C Q
  have S := Q.1
  unfold inI at hd hr hp hb
  unfold dareQ
  by_cases c1 : 0 ≤ d ∧ d < C 73 0
  · have M := miF_V Q c1.1 c1.2
    have O := Q.dO c1.1 c1.2
    by_cases g1 : 0 ≤ r ∧ r < (dOf (C 73) d) 0
    · by_cases g2 : 0 ≤ p ∧ p < (dOf (C 73) d) 1
      · skip
        obtain ⟨g, x, w, u, v, e, e1, e2⟩ := m_laysDares S M O g1.1 g1.2 g2.1 g2.2
        have b2 := O.2.2.1
        refine ⟨_, _, ?_, (((miF_tq d).sF (k := 788) (a := 72) (x := x) (by omega) (by omega)).ml w u v).sW (a := 78) (f := g) (by omega) (by omega)⟩
        by_cases cb : b = 0
        · have gr := darS_rng (lstB (dOf (C 73) d) r p) (n := (dOf (C 73) d) 2) (by omega) 0
          unfold dareS
          rcases (show darS (lstB (dOf (C 73) d) r p) ((dOf (C 73) d) 2) 0 = -1 ∨ darS (lstB (dOf (C 73) d) r p) ((dOf (C 73) d) 2) 0 = 0 ∨ darS (lstB (dOf (C 73) d) r p) ((dOf (C 73) d) 2) 0 = 1 by omega) with gz | gz | gz
          · simp (disch := omega) only [if_true, if_false, not_true_eq_false, not_false_eq_true, zoI_s, zoR_s, zoH_s, zoL_s, zbI_s, zbV_s, zbR_s, zbL_s, zif_dec, i32_0, ne_eq, i32_lt, i32_le, i32_eq, i32_add, i32_mul, i32_sub, i32_neg, zrz_0, zrz_1, zif_t, zif_f, zsF_s, zsF_k, zsF_a, zsC_s, zsC_a, zsC_i, zsW_s, zsW_a, Int.add_zero, Int.zero_add, true_and, false_and, and_false, Bool.false_eq_true, decide_true, decide_false, Bool.true_and, Bool.false_and, Bool.true_or, Bool.false_or, sub1, if_pos, if_neg, wv_72 S, wr_768 S, wr_769 S, wr_777 S, wr_785 S, wr_786 S, wr_787 S, wr_789 S, wr_790 S, wr_791 S, wr_802 S, wr_803 S, wr_804 S, wr_805 S, wr_806 S, wr_807 S, wr_809 S, wg_770 S, wp_770 S, wg_771 S, wp_771 S, wg_772 S, wp_772 S, wg_773 S, wp_773 S, wg_774 S, wp_774 S, wg_775 S, wp_775 S, wg_776 S, wp_776 S, wg_778 S, wp_778 S, wg_779 S, wp_779 S, wg_780 S, wp_780 S, wg_781 S, wp_781 S, wg_782 S, wp_782 S, wg_783 S, wp_783 S, wg_784 S, wp_784 S, wg_788 S, wp_788 S, wg_792 S, wp_792 S, wg_793 S, wp_793 S, wg_794 S, wp_794 S, wg_795 S, wp_795 S, wg_796 S, wp_796 S, wg_797 S, wp_797 S, wg_798 S, wp_798 S, wg_799 S, wp_799 S, wg_800 S, wp_800 S, wg_801 S, wp_801 S, wg_808 S, wp_808 S, wg_810 S, wp_810 S, m_isD Q, m_isReed S M O, m_isPlayer S M O, m_isQuestion S M O, m_isIn, m_are3 Q, ib_0, e_Model_dare, e, wa_78 S, ws_78 S, e1, gz]
          · simp (disch := omega) only [if_true, if_false, not_true_eq_false, not_false_eq_true, zoI_s, zoR_s, zoH_s, zoL_s, zbI_s, zbV_s, zbR_s, zbL_s, zif_dec, i32_0, ne_eq, i32_lt, i32_le, i32_eq, i32_add, i32_mul, i32_sub, i32_neg, zrz_0, zrz_1, zif_t, zif_f, zsF_s, zsF_k, zsF_a, zsC_s, zsC_a, zsC_i, zsW_s, zsW_a, Int.add_zero, Int.zero_add, true_and, false_and, and_false, Bool.false_eq_true, decide_true, decide_false, Bool.true_and, Bool.false_and, Bool.true_or, Bool.false_or, sub1, if_pos, if_neg, wv_72 S, wr_768 S, wr_769 S, wr_777 S, wr_785 S, wr_786 S, wr_787 S, wr_789 S, wr_790 S, wr_791 S, wr_802 S, wr_803 S, wr_804 S, wr_805 S, wr_806 S, wr_807 S, wr_809 S, wg_770 S, wp_770 S, wg_771 S, wp_771 S, wg_772 S, wp_772 S, wg_773 S, wp_773 S, wg_774 S, wp_774 S, wg_775 S, wp_775 S, wg_776 S, wp_776 S, wg_778 S, wp_778 S, wg_779 S, wp_779 S, wg_780 S, wp_780 S, wg_781 S, wp_781 S, wg_782 S, wp_782 S, wg_783 S, wp_783 S, wg_784 S, wp_784 S, wg_788 S, wp_788 S, wg_792 S, wp_792 S, wg_793 S, wp_793 S, wg_794 S, wp_794 S, wg_795 S, wp_795 S, wg_796 S, wp_796 S, wg_797 S, wp_797 S, wg_798 S, wp_798 S, wg_799 S, wp_799 S, wg_800 S, wp_800 S, wg_801 S, wp_801 S, wg_808 S, wp_808 S, wg_810 S, wp_810 S, m_isD Q, m_isReed S M O, m_isPlayer S M O, m_isQuestion S M O, m_isIn, m_are3 Q, ib_0, e_Model_dare, e, wa_78 S, ws_78 S, e1, gz]
          · simp (disch := omega) only [if_true, if_false, not_true_eq_false, not_false_eq_true, zoI_s, zoR_s, zoH_s, zoL_s, zbI_s, zbV_s, zbR_s, zbL_s, zif_dec, i32_0, ne_eq, i32_lt, i32_le, i32_eq, i32_add, i32_mul, i32_sub, i32_neg, zrz_0, zrz_1, zif_t, zif_f, zsF_s, zsF_k, zsF_a, zsC_s, zsC_a, zsC_i, zsW_s, zsW_a, Int.add_zero, Int.zero_add, true_and, false_and, and_false, Bool.false_eq_true, decide_true, decide_false, Bool.true_and, Bool.false_and, Bool.true_or, Bool.false_or, sub1, if_pos, if_neg, wv_72 S, wr_768 S, wr_769 S, wr_777 S, wr_785 S, wr_786 S, wr_787 S, wr_789 S, wr_790 S, wr_791 S, wr_802 S, wr_803 S, wr_804 S, wr_805 S, wr_806 S, wr_807 S, wr_809 S, wg_770 S, wp_770 S, wg_771 S, wp_771 S, wg_772 S, wp_772 S, wg_773 S, wp_773 S, wg_774 S, wp_774 S, wg_775 S, wp_775 S, wg_776 S, wp_776 S, wg_778 S, wp_778 S, wg_779 S, wp_779 S, wg_780 S, wp_780 S, wg_781 S, wp_781 S, wg_782 S, wp_782 S, wg_783 S, wp_783 S, wg_784 S, wp_784 S, wg_788 S, wp_788 S, wg_792 S, wp_792 S, wg_793 S, wp_793 S, wg_794 S, wp_794 S, wg_795 S, wp_795 S, wg_796 S, wp_796 S, wg_797 S, wp_797 S, wg_798 S, wp_798 S, wg_799 S, wp_799 S, wg_800 S, wp_800 S, wg_801 S, wp_801 S, wg_808 S, wp_808 S, wg_810 S, wp_810 S, m_isD Q, m_isReed S M O, m_isPlayer S M O, m_isQuestion S M O, m_isIn, m_are3 Q, ib_0, e_Model_dare, e, wa_78 S, ws_78 S, e1, gz]
        · simp (disch := omega) only [if_true, if_false, not_true_eq_false, not_false_eq_true, zoI_s, zoR_s, zoH_s, zoL_s, zbI_s, zbV_s, zbR_s, zbL_s, zif_dec, i32_0, ne_eq, i32_lt, i32_le, i32_eq, i32_add, i32_mul, i32_sub, i32_neg, zrz_0, zrz_1, zif_t, zif_f, zsF_s, zsF_k, zsF_a, zsC_s, zsC_a, zsC_i, zsW_s, zsW_a, Int.add_zero, Int.zero_add, true_and, false_and, and_false, Bool.false_eq_true, decide_true, decide_false, Bool.true_and, Bool.false_and, Bool.true_or, Bool.false_or, sub1, if_pos, if_neg, wv_72 S, wr_768 S, wr_769 S, wr_777 S, wr_785 S, wr_786 S, wr_787 S, wr_789 S, wr_790 S, wr_791 S, wr_802 S, wr_803 S, wr_804 S, wr_805 S, wr_806 S, wr_807 S, wr_809 S, wg_770 S, wp_770 S, wg_771 S, wp_771 S, wg_772 S, wp_772 S, wg_773 S, wp_773 S, wg_774 S, wp_774 S, wg_775 S, wp_775 S, wg_776 S, wp_776 S, wg_778 S, wp_778 S, wg_779 S, wp_779 S, wg_780 S, wp_780 S, wg_781 S, wp_781 S, wg_782 S, wp_782 S, wg_783 S, wp_783 S, wg_784 S, wp_784 S, wg_788 S, wp_788 S, wg_792 S, wp_792 S, wg_793 S, wp_793 S, wg_794 S, wp_794 S, wg_795 S, wp_795 S, wg_796 S, wp_796 S, wg_797 S, wp_797 S, wg_798 S, wp_798 S, wg_799 S, wp_799 S, wg_800 S, wp_800 S, wg_801 S, wp_801 S, wg_808 S, wp_808 S, wg_810 S, wp_810 S, m_isD Q, m_isReed S M O, m_isPlayer S M O, m_isQuestion S M O, m_isIn, m_are3 Q, ib_0, e_Model_dare, e, mlF_o, dareS_1 (lstB (dOf (C 73) d) r p) (dOf (C 73) d 2) cb, e2.symm]
      · refine ⟨_, C, ?_, miF_tq d⟩
        simp (disch := omega) only [if_true, if_false, not_true_eq_false, not_false_eq_true, zoI_s, zoR_s, zoH_s, zoL_s, zbI_s, zbV_s, zbR_s, zbL_s, zif_dec, i32_0, ne_eq, i32_lt, i32_le, i32_eq, i32_add, i32_mul, i32_sub, i32_neg, zrz_0, zrz_1, zif_t, zif_f, zsF_s, zsF_k, zsF_a, zsC_s, zsC_a, zsC_i, zsW_s, zsW_a, Int.add_zero, Int.zero_add, true_and, false_and, and_false, Bool.false_eq_true, decide_true, decide_false, Bool.true_and, Bool.false_and, Bool.true_or, Bool.false_or, sub1, if_pos, if_neg, wv_72 S, wr_768 S, wr_769 S, wr_777 S, wr_785 S, wr_786 S, wr_787 S, wr_789 S, wr_790 S, wr_791 S, wr_802 S, wr_803 S, wr_804 S, wr_805 S, wr_806 S, wr_807 S, wr_809 S, wg_770 S, wp_770 S, wg_771 S, wp_771 S, wg_772 S, wp_772 S, wg_773 S, wp_773 S, wg_774 S, wp_774 S, wg_775 S, wp_775 S, wg_776 S, wp_776 S, wg_778 S, wp_778 S, wg_779 S, wp_779 S, wg_780 S, wp_780 S, wg_781 S, wp_781 S, wg_782 S, wp_782 S, wg_783 S, wp_783 S, wg_784 S, wp_784 S, wg_788 S, wp_788 S, wg_792 S, wp_792 S, wg_793 S, wp_793 S, wg_794 S, wp_794 S, wg_795 S, wp_795 S, wg_796 S, wp_796 S, wg_797 S, wp_797 S, wg_798 S, wp_798 S, wg_799 S, wp_799 S, wg_800 S, wp_800 S, wg_801 S, wp_801 S, wg_808 S, wp_808 S, wg_810 S, wp_810 S, m_isD Q, m_isReed S M O, m_isPlayer S M O, m_isQuestion S M O, m_isIn, m_are3 Q, ib_0, e_Model_dare]
        all_goals (split <;> rfl)
    · refine ⟨_, C, ?_, miF_tq d⟩
      simp (disch := omega) only [if_true, if_false, not_true_eq_false, not_false_eq_true, zoI_s, zoR_s, zoH_s, zoL_s, zbI_s, zbV_s, zbR_s, zbL_s, zif_dec, i32_0, ne_eq, i32_lt, i32_le, i32_eq, i32_add, i32_mul, i32_sub, i32_neg, zrz_0, zrz_1, zif_t, zif_f, zsF_s, zsF_k, zsF_a, zsC_s, zsC_a, zsC_i, zsW_s, zsW_a, Int.add_zero, Int.zero_add, true_and, false_and, and_false, Bool.false_eq_true, decide_true, decide_false, Bool.true_and, Bool.false_and, Bool.true_or, Bool.false_or, sub1, if_pos, if_neg, wv_72 S, wr_768 S, wr_769 S, wr_777 S, wr_785 S, wr_786 S, wr_787 S, wr_789 S, wr_790 S, wr_791 S, wr_802 S, wr_803 S, wr_804 S, wr_805 S, wr_806 S, wr_807 S, wr_809 S, wg_770 S, wp_770 S, wg_771 S, wp_771 S, wg_772 S, wp_772 S, wg_773 S, wp_773 S, wg_774 S, wp_774 S, wg_775 S, wp_775 S, wg_776 S, wp_776 S, wg_778 S, wp_778 S, wg_779 S, wp_779 S, wg_780 S, wp_780 S, wg_781 S, wp_781 S, wg_782 S, wp_782 S, wg_783 S, wp_783 S, wg_784 S, wp_784 S, wg_788 S, wp_788 S, wg_792 S, wp_792 S, wg_793 S, wp_793 S, wg_794 S, wp_794 S, wg_795 S, wp_795 S, wg_796 S, wp_796 S, wg_797 S, wp_797 S, wg_798 S, wp_798 S, wg_799 S, wp_799 S, wg_800 S, wp_800 S, wg_801 S, wp_801 S, wg_808 S, wp_808 S, wg_810 S, wp_810 S, m_isD Q, m_isReed S M O, m_isPlayer S M O, m_isQuestion S M O, m_isIn, m_are3 Q, ib_0, e_Model_dare]
      all_goals (split <;> rfl)
  · refine ⟨_, C, ?_, tq.rfl⟩
    simp (disch := omega) only [if_true, if_false, not_true_eq_false, not_false_eq_true, zoI_s, zoR_s, zoH_s, zoL_s, zbI_s, zbV_s, zbR_s, zbL_s, zif_dec, i32_0, ne_eq, i32_lt, i32_le, i32_eq, i32_add, i32_mul, i32_sub, i32_neg, zrz_0, zrz_1, zif_t, zif_f, zsF_s, zsF_k, zsF_a, zsC_s, zsC_a, zsC_i, zsW_s, zsW_a, Int.add_zero, Int.zero_add, true_and, false_and, and_false, Bool.false_eq_true, decide_true, decide_false, Bool.true_and, Bool.false_and, Bool.true_or, Bool.false_or, sub1, if_pos, if_neg, wv_72 S, wr_768 S, wr_769 S, wr_777 S, wr_785 S, wr_786 S, wr_787 S, wr_789 S, wr_790 S, wr_791 S, wr_802 S, wr_803 S, wr_804 S, wr_805 S, wr_806 S, wr_807 S, wr_809 S, wg_770 S, wp_770 S, wg_771 S, wp_771 S, wg_772 S, wp_772 S, wg_773 S, wp_773 S, wg_774 S, wp_774 S, wg_775 S, wp_775 S, wg_776 S, wp_776 S, wg_778 S, wp_778 S, wg_779 S, wp_779 S, wg_780 S, wp_780 S, wg_781 S, wp_781 S, wg_782 S, wp_782 S, wg_783 S, wp_783 S, wg_784 S, wp_784 S, wg_788 S, wp_788 S, wg_792 S, wp_792 S, wg_793 S, wp_793 S, wg_794 S, wp_794 S, wg_795 S, wp_795 S, wg_796 S, wp_796 S, wg_797 S, wp_797 S, wg_798 S, wp_798 S, wg_799 S, wp_799 S, wg_800 S, wp_800 S, wg_801 S, wp_801 S, wg_808 S, wp_808 S, wg_810 S, wp_810 S, m_isD0 Q, m_are30 Q, e_Model_dare]
