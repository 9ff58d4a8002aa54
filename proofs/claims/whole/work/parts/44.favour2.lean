/-! favour: the programs -/
def favoS (D : Int → Int) (p x k : Int) : Int := if k = -1 then favS D p x 0 0 else favK D p x k.toNat 0 0
theorem favQ_rng {D : Int → Int} (O : dOK D) (p x q s : Int) : 0 ≤ favQ D p x q s ∧ favQ D p x q s ≤ 6 ∧ (favQ D p x q s ≠ 6 → favQ D p x q s < D 0) := by
  have b0 := O.1
  unfold favQ
  rcases fstF_spec (fvQP D p x q s) (D 0).toNat 0 (by omega) with ⟨k1, _⟩ | ⟨k1, k2, _⟩
  · rw [if_pos k1]; omega
  · rw [if_neg (by omega)]; omega
theorem favQ_next {D : Int → Int} (O : dOK D) {p x q s : Int} (s0 : 0 ≤ s) (s1 : s < 2 ^ (D 0).toNat) : 0 ≤ (if favQ D p x q s = 6 then s else orI s (favQ D p x q s)) ∧ (if favQ D p x q s = 6 then s else orI s (favQ D p x q s)) < 2 ^ (D 0).toNat := by
  have b0 := O.1
  have g := favQ_rng O p x q s
  by_cases c : favQ D p x q s = 6
  · rw [if_pos c]; omega
  · rw [if_neg c]
    have o := orI_lt (s := s) (r := favQ D p x q s) (n := D 0) s0 g.1 (g.2.2 c) (by omega) s1
    exact ⟨o.1, o.2.2⟩
section A20
variable {h : zHeap} {F : Nat → Nat → Int} {C : Nat → Int → Int} {a : Nat} {D : Int → Int}
theorem c_shareBy (S : St h) (O : dOK D) {p x q s r : Int} (q0 : 0 ≤ q) (q1 : q < D 2) (hf : ∀ t, 0 ≤ t → t < 2 ^ (D 0).toNat → C 61 ((q + 1) * 64 + t) = favS D p x (q + 1) t) (hw : setB (C 62 q) (fun r => decide (r < D 0) && decide (ansS D r p q = x))) (s0 : 0 ≤ s) (s1 : s < 2 ^ (D 0).toNat) (r0 : 0 ≤ r) (r1 : r < D 0) : zc 59 [zR (some 60), zI (i32 q), zI (i32 s), zI (i32 r)] (zw h F C) = some (zI (i32 (gnS D p x q r + favS D p x (q + 1) (orI s r))), zw h F C) := by
  have b0 := O.1
  have b2 := O.2.2.1
  have p6 := pw_6 (n := D 0) (by omega)
  have o := orI_lt (s := s) (r := r) (n := D 0) s0 r0 r1 (by omega) s1
  have fr := favS_rng O p x (q := q + 1) (by omega) (orI s r)
  have ef := hf (orI s r) o.1 o.2.2
  have w1 := hw.1
  have w2 := hw.2.1
  have w3 := hw.2.2 r r0 (by omega)
  dsimp only at w3
  rw [decide_eq_true r1, Bool.true_and] at w3
  unfold gnS
  rw [e_Plans_shareBy]
  by_cases c : ansS D r p q = x
  · rw [decide_eq_true c] at w3
    have w4 : bitI (C 62 q) r = 1 := w3
    simp (disch := omega) only [if_true, if_false, not_true_eq_false, not_false_eq_true, zoI_s, zoR_s, zoH_s, zoL_s, zbI_s, zbV_s, zbR_s, zbL_s, zif_dec, i32_0, ne_eq, i32_lt, i32_le, i32_eq, i32_add, i32_mul, i32_sub, i32_neg, zrz_0, zrz_1, zif_t, zif_f, zsF_s, zsF_k, zsF_a, zsC_s, zsC_a, zsC_i, zsW_s, zsW_a, Int.add_zero, Int.zero_add, true_and, false_and, and_false, Bool.false_eq_true, decide_true, decide_false, Bool.true_and, Bool.false_and, Bool.true_or, Bool.false_or, sub1, if_pos, if_neg, wv_60 S, wr_256 S, wr_257 S, wr_258 S, wr_259 S, wa_61 S, ws_61 S, wa_62 S, ws_62 S, b_or, b_shr, w4, ef]
  · rw [decide_eq_false c] at w3
    have w4 : bitI (C 62 q) r = 0 := w3
    simp (disch := omega) only [if_true, if_false, not_true_eq_false, not_false_eq_true, zoI_s, zoR_s, zoH_s, zoL_s, zbI_s, zbV_s, zbR_s, zbL_s, zif_dec, i32_0, ne_eq, i32_lt, i32_le, i32_eq, i32_add, i32_mul, i32_sub, i32_neg, zrz_0, zrz_1, zif_t, zif_f, zsF_s, zsF_k, zsF_a, zsC_s, zsC_a, zsC_i, zsW_s, zsW_a, Int.add_zero, Int.zero_add, true_and, false_and, and_false, Bool.false_eq_true, decide_true, decide_false, Bool.true_and, Bool.false_and, Bool.true_or, Bool.false_or, sub1, if_pos, if_neg, wv_60 S, wr_256 S, wr_257 S, wr_258 S, wr_259 S, wa_61 S, ws_61 S, wa_62 S, ws_62 S, b_or, b_shr, w4, ef]
theorem c_bestShare (S : St h) (O : dOK D) {p x q s : Int} (q0 : 0 ≤ q) (q1 : q < D 2) (hf : ∀ t, 0 ≤ t → t < 2 ^ (D 0).toNat → C 61 ((q + 1) * 64 + t) = favS D p x (q + 1) t) (hw : setB (C 62 q) (fun r => decide (r < D 0) && decide (ansS D r p q = x))) (hw2 : C 62 q < 64) (s0 : 0 ≤ s) (s1 : s < 2 ^ (D 0).toNat) : zc 58 [zR (some 60), zI (i32 q), zI (i32 s)] (zw h F C) = some (zI (i32 (favS D p x q s)), zw h F C) := by
  have b0 := O.1
  have b2 := O.2.2.1
  have p6 := pw_6 (n := D 0) (by omega)
  have w1 := hw.1
  have al := ands_lt (s := C 62 q) (t := 63 - s) w1 (by omega)
  have L1 := (zfoI (fun r b => zr 58 22 [yR (some 60), yI (i32 q), yI (i32 s), yI (i32 b), yI (i32 (ands (C 62 q) (63 - s))), yI (i32 r)] [] (zw h F C)) (mgF (fvP D p x q s) (fun r => 1 + favS D p x (q + 1) (orI s r))) (fun k b => 0 ≤ b ∧ b ≤ 9) 0 6 (by omega) (fun r b r0 r1 hi => by
    have w3 := hw.2.2 r r0 (by omega)
    dsimp only at w3
    have ba := bit_andn (x := C 62 q) (s := s) (r := r) w1 s0 (by omega) r0 r1
    rw [w3] at ba
    have fr := favS_rng O p x (q := q + 1) (by omega) (orI s r)
    rw [e_Plans_bestShare_22]
    unfold mgF fvP
    by_cases c1 : r < D 0
    · by_cases c2 : ansS D r p q = x
      · rcases bitI_01 s r with c3 | c3
        · rw [decide_eq_true c1, decide_eq_true c2, c3] at ba
          rw [show (if bN (true && true) = 1 ∧ (0 : Int) = 0 then (1 : Int) else 0) = 1 from rfl] at ba
          have e := c_shareBy (F := F) (C := C) S O q0 q1 hf hw s0 s1 r0 c1
          unfold gnS at e
          rw [if_pos c2] at e
          rw [decide_eq_true c1, decide_eq_true c2, decide_eq_true c3]
          by_cases c4 : b < 1 + favS D p x (q + 1) (orI s r)
          · simp (disch := omega) only [if_true, if_false, not_true_eq_false, not_false_eq_true, zoI_s, zoR_s, zoH_s, zoL_s, zbI_s, zbV_s, zbR_s, zbL_s, zif_dec, i32_0, ne_eq, i32_lt, i32_le, i32_eq, i32_add, i32_mul, i32_sub, i32_neg, zrz_0, zrz_1, zif_t, zif_f, zsF_s, zsF_k, zsF_a, zsC_s, zsC_a, zsC_i, zsW_s, zsW_a, Int.add_zero, Int.zero_add, true_and, false_and, and_false, Bool.false_eq_true, decide_true, decide_false, Bool.true_and, Bool.false_and, Bool.true_or, Bool.false_or, sub1, if_pos, if_neg, wv_60 S, wr_256 S, wr_257 S, wr_258 S, wr_259 S, b_shr, ba, e, i32_max]
          · simp (disch := omega) only [if_true, if_false, not_true_eq_false, not_false_eq_true, zoI_s, zoR_s, zoH_s, zoL_s, zbI_s, zbV_s, zbR_s, zbL_s, zif_dec, i32_0, ne_eq, i32_lt, i32_le, i32_eq, i32_add, i32_mul, i32_sub, i32_neg, zrz_0, zrz_1, zif_t, zif_f, zsF_s, zsF_k, zsF_a, zsC_s, zsC_a, zsC_i, zsW_s, zsW_a, Int.add_zero, Int.zero_add, true_and, false_and, and_false, Bool.false_eq_true, decide_true, decide_false, Bool.true_and, Bool.false_and, Bool.true_or, Bool.false_or, sub1, if_pos, if_neg, wv_60 S, wr_256 S, wr_257 S, wr_258 S, wr_259 S, b_shr, ba, e, i32_max]
        · rw [decide_eq_true c1, decide_eq_true c2, c3] at ba
          rw [show (if bN (true && true) = 1 ∧ (1 : Int) = 0 then (1 : Int) else 0) = 0 from rfl] at ba
          rw [decide_eq_false (show ¬ bitI s r = 0 by omega), Bool.and_false]
          simp (disch := omega) only [if_true, if_false, not_true_eq_false, not_false_eq_true, zoI_s, zoR_s, zoH_s, zoL_s, zbI_s, zbV_s, zbR_s, zbL_s, zif_dec, i32_0, ne_eq, i32_lt, i32_le, i32_eq, i32_add, i32_mul, i32_sub, i32_neg, zrz_0, zrz_1, zif_t, zif_f, zsF_s, zsF_k, zsF_a, zsC_s, zsC_a, zsC_i, zsW_s, zsW_a, Int.add_zero, Int.zero_add, true_and, false_and, and_false, Bool.false_eq_true, decide_true, decide_false, Bool.true_and, Bool.false_and, Bool.true_or, Bool.false_or, sub1, if_pos, if_neg, wv_60 S, wr_256 S, wr_257 S, wr_258 S, wr_259 S, b_shr, ba]
      · rw [decide_eq_false c2, Bool.and_false] at ba
        rw [show (if bN false = 1 ∧ bitI s r = 0 then (1 : Int) else 0) = 0 from if_neg (fun z => absurd z.1 (by decide))] at ba
        rw [decide_eq_false c2, Bool.and_false, Bool.false_and]
        simp (disch := omega) only [if_true, if_false, not_true_eq_false, not_false_eq_true, zoI_s, zoR_s, zoH_s, zoL_s, zbI_s, zbV_s, zbR_s, zbL_s, zif_dec, i32_0, ne_eq, i32_lt, i32_le, i32_eq, i32_add, i32_mul, i32_sub, i32_neg, zrz_0, zrz_1, zif_t, zif_f, zsF_s, zsF_k, zsF_a, zsC_s, zsC_a, zsC_i, zsW_s, zsW_a, Int.add_zero, Int.zero_add, true_and, false_and, and_false, Bool.false_eq_true, decide_true, decide_false, Bool.true_and, Bool.false_and, Bool.true_or, Bool.false_or, sub1, if_pos, if_neg, wv_60 S, wr_256 S, wr_257 S, wr_258 S, wr_259 S, b_shr, ba]
    · rw [decide_eq_false c1, Bool.false_and] at ba
      rw [show (if bN false = 1 ∧ bitI s r = 0 then (1 : Int) else 0) = 0 from if_neg (fun z => absurd z.1 (by decide))] at ba
      rw [decide_eq_false c1, Bool.false_and, Bool.false_and]
      simp (disch := omega) only [if_true, if_false, not_true_eq_false, not_false_eq_true, zoI_s, zoR_s, zoH_s, zoL_s, zbI_s, zbV_s, zbR_s, zbL_s, zif_dec, i32_0, ne_eq, i32_lt, i32_le, i32_eq, i32_add, i32_mul, i32_sub, i32_neg, zrz_0, zrz_1, zif_t, zif_f, zsF_s, zsF_k, zsF_a, zsC_s, zsC_a, zsC_i, zsW_s, zsW_a, Int.add_zero, Int.zero_add, true_and, false_and, and_false, Bool.false_eq_true, decide_true, decide_false, Bool.true_and, Bool.false_and, Bool.true_or, Bool.false_or, sub1, if_pos, if_neg, wv_60 S, wr_256 S, wr_257 S, wr_258 S, wr_259 S, b_shr, ba]) (fun r b _ _ hi => by
      have fr := favS_rng O p x (q := q + 1) (by omega) (orI s r)
      unfold mgF
      split
      · split
        · dsimp only; omega
        · exact hi
      · exact hi) (favS D p x (q + 1) s) (by have := favS_rng O p x (q := q + 1) (by omega) s; omega)).1
  rw [show ((6 : Int) - 0).toNat = 6 from rfl, ← favS_eq q0 q1] at L1
  have ef := hf s s0 s1
  rw [e_Plans_bestShare]
  simp (disch := omega) only [if_true, if_false, not_true_eq_false, not_false_eq_true, zoI_s, zoR_s, zoH_s, zoL_s, zbI_s, zbV_s, zbR_s, zbL_s, zif_dec, i32_0, ne_eq, i32_lt, i32_le, i32_eq, i32_add, i32_mul, i32_sub, i32_neg, zrz_0, zrz_1, zif_t, zif_f, zsF_s, zsF_k, zsF_a, zsC_s, zsC_a, zsC_i, zsW_s, zsW_a, Int.add_zero, Int.zero_add, true_and, false_and, and_false, Bool.false_eq_true, decide_true, decide_false, Bool.true_and, Bool.false_and, Bool.true_or, Bool.false_or, sub1, if_pos, if_neg, wv_60 S, wr_256 S, wr_257 S, wr_258 S, wr_259 S, wa_61 S, ws_61 S, wa_62 S, ws_62 S, ef, b_andn, L1]
  rw [e_Plans_bestShare_22]
  simp (disch := omega) only [if_true, if_false, not_true_eq_false, not_false_eq_true, zoI_s, zoR_s, zoH_s, zoL_s, zbI_s, zbV_s, zbR_s, zbL_s, zif_dec, i32_0, ne_eq, i32_lt, i32_le, i32_eq, i32_add, i32_mul, i32_sub, i32_neg, zrz_0, zrz_1, zif_t, zif_f, zsF_s, zsF_k, zsF_a, zsC_s, zsC_a, zsC_i, zsW_s, zsW_a, Int.add_zero, Int.zero_add, true_and, false_and, and_false, Bool.false_eq_true, decide_true, decide_false, Bool.true_and, Bool.false_and, Bool.true_or, Bool.false_or, sub1, if_pos, if_neg]
theorem c_share (S : St h) (H : duS h a) (V : duV F C a D) (O : dOK D) (ha : a ≤ 28) {p x : Int} (p0 : 0 ≤ p) (p1 : p < D 1) (x0 : 0 ≤ x) (x1 : x < 3) : ∃ f g, zc 57 [zR (some 60), zR (some a), zI (i32 p), zI (i32 x)] (zw h F C) = some (zI 0, zw h F (zsW (zsW C 61 f) 62 g)) ∧ (∀ q s, 0 ≤ q → q ≤ D 2 → 0 ≤ s → s < 2 ^ (D 0).toNat → f (q * 64 + s) = favS D p x q s) ∧ (∀ q, 0 ≤ q → q < D 2 → setB (g q) (fun r => decide (r < D 0) && decide (ansS D r p q = x))) := by
  have b0 := O.1
  have b2 := O.2.2.1
  have p6 := pw_6 (n := D 0) (by omega)
  have p5 := pw_le (n := D 0) (by omega)
  have VV := fun f g => (V.sW (b := 61) f ha (by omega)).sW (b := 62) g ha (by omega)
  obtain ⟨f0, L0, i0⟩ := zinv (fun k f => zr 57 7 [yR (some 60), yR (some a), yI (i32 p), yI (i32 x), yI (i32 (2 ^ (D 0).toNat)), yI (i32 k), none] [] (zw h F (zsW C 61 f))) (fun k f => ∀ s, 0 ≤ s → s < k → f (D 2 * 64 + s) = 0) 0 (2 ^ (D 0).toNat) (by omega) (fun k f k0 k1 hi => by
    refine ⟨up1 f (D 2 * 64 + k) 0, ?_, fun s s0 s1 => ?_⟩
    · rw [e_Plans_share_7]
      simp (disch := omega) only [if_true, if_false, not_true_eq_false, not_false_eq_true, zoI_s, zoR_s, zoH_s, zoL_s, zbI_s, zbV_s, zbR_s, zbL_s, zif_dec, i32_0, ne_eq, i32_lt, i32_le, i32_eq, i32_add, i32_mul, i32_sub, i32_neg, zrz_0, zrz_1, zif_t, zif_f, zsF_s, zsF_k, zsF_a, zsC_s, zsC_a, zsC_i, zsW_s, zsW_a, Int.add_zero, Int.zero_add, true_and, false_and, and_false, Bool.false_eq_true, decide_true, decide_false, Bool.true_and, Bool.false_and, Bool.true_or, Bool.false_or, sub1, if_pos, if_neg, dv H, dg_128 H, dp_128 H, dg_129 H, dp_129 H, dg_130 H, dp_130 H, dg_131 H, dp_131 H, dr_132 H, da_132 H, dr_133 H, da_133 H, dr_134 H, da_134 H, dr_135 H, da_135 H, dr_136 H, da_136 H, dr_137 H, da_137 H, V.1.2.2.1, wv_60 S, wr_256 S, wr_257 S, wr_258 S, wr_259 S, wa_61 S, ws_61 S, zsC_W, zsW_W]
    · by_cases c : s = k
      · rw [c, up1_s]
      · rw [up1_n (by omega)]; exact hi s s0 (by omega)) (C 61) (fun s _ _ => by omega)
  rw [zsW_id] at L0
  have zz : ∀ f g f', zsW (zsW (zsW C 61 f) 62 g) 61 f' = zsW (zsW C 61 f') 62 g := fun f g f' => by rw [zsW_sw _ _ _ (show (62 : Nat) ≠ 61 by omega), zsW_W]
  have L2 := fun q f g0 (q0 : 0 ≤ q) (q1 : q < D 2) (h0 : g0 q = 0) => zinv (fun r g => zr 57 36 [yR (some 60), yR (some a), yI (i32 p), yI (i32 x), yI (i32 (2 ^ (D 0).toNat)), yI (i32 q), yI (i32 r)] [] (zw h F (zsW (zsW C 61 f) 62 g))) (fun r g => setB (g q) (fun t => decide (t < r) && decide (ansS D t p q = x)) ∧ ∀ j, j ≠ q → g j = g0 j) 0 (D 0) (by omega) (fun r g r0 r1 hi => by
    have j1 := hi.1.1
    have j2 := hi.1.2.1
    have gn := ansS_rng O r p q
    by_cases c : ansS D r p q = x
    · refine ⟨up1 g q (orI (g q) r), ?_, ?_, fun j hj => by rw [up1_n hj]; exact hi.2 j hj⟩
      · rw [e_Plans_share_36]
        simp (disch := omega) only [if_true, if_false, not_true_eq_false, not_false_eq_true, zoI_s, zoR_s, zoH_s, zoL_s, zbI_s, zbV_s, zbR_s, zbL_s, zif_dec, i32_0, ne_eq, i32_lt, i32_le, i32_eq, i32_add, i32_mul, i32_sub, i32_neg, zrz_0, zrz_1, zif_t, zif_f, zsF_s, zsF_k, zsF_a, zsC_s, zsC_a, zsC_i, zsW_s, zsW_a, Int.add_zero, Int.zero_add, true_and, false_and, and_false, Bool.false_eq_true, decide_true, decide_false, Bool.true_and, Bool.false_and, Bool.true_or, Bool.false_or, sub1, if_pos, if_neg, dv H, dg_128 H, dp_128 H, dg_129 H, dp_129 H, dg_130 H, dp_130 H, dg_131 H, dp_131 H, dr_132 H, da_132 H, dr_133 H, da_133 H, dr_134 H, da_134 H, dr_135 H, da_135 H, dr_136 H, da_136 H, dr_137 H, da_137 H, V.1.1, c_answerOf H (VV f g) O, wv_60 S, wr_256 S, wr_257 S, wr_258 S, wr_259 S, wa_62 S, ws_62 S, b_or, zsC_W, zsW_W]
      · rw [up1_s]
        refine (hi.1.or1 r0 (by omega)).cg (fun t _ _ => ?_)
        by_cases ct : t = r
        · rw [ct, decide_eq_true c, decide_eq_true (show r = r from rfl), decide_eq_true (show r < r + 1 by omega)]; simp
        · rw [decide_eq_false ct, Bool.or_false]
          by_cases c3 : t < r
          · rw [decide_eq_true c3, decide_eq_true (show t < r + 1 by omega)]
          · rw [decide_eq_false c3, decide_eq_false (show ¬ t < r + 1 by omega)]
    · refine ⟨g, ?_, hi.1.cg (fun t _ _ => ?_), hi.2⟩
      · rw [e_Plans_share_36]
        simp (disch := omega) only [if_true, if_false, not_true_eq_false, not_false_eq_true, zoI_s, zoR_s, zoH_s, zoL_s, zbI_s, zbV_s, zbR_s, zbL_s, zif_dec, i32_0, ne_eq, i32_lt, i32_le, i32_eq, i32_add, i32_mul, i32_sub, i32_neg, zrz_0, zrz_1, zif_t, zif_f, zsF_s, zsF_k, zsF_a, zsC_s, zsC_a, zsC_i, zsW_s, zsW_a, Int.add_zero, Int.zero_add, true_and, false_and, and_false, Bool.false_eq_true, decide_true, decide_false, Bool.true_and, Bool.false_and, Bool.true_or, Bool.false_or, sub1, if_pos, if_neg, dv H, dg_128 H, dp_128 H, dg_129 H, dp_129 H, dg_130 H, dp_130 H, dg_131 H, dp_131 H, dr_132 H, da_132 H, dr_133 H, da_133 H, dr_134 H, da_134 H, dr_135 H, da_135 H, dr_136 H, da_136 H, dr_137 H, da_137 H, V.1.1, c_answerOf H (VV f g) O]
      · by_cases ct : t = r
        · rw [ct, decide_eq_false c, Bool.and_false, Bool.and_false]
        · by_cases c3 : t < r
          · rw [decide_eq_true c3, decide_eq_true (show t < r + 1 by omega)]
          · rw [decide_eq_false c3, decide_eq_false (show ¬ t < r + 1 by omega)]) g0 ⟨by rw [h0]; exact setB.zero.cg (fun t t0 _ => by rw [decide_eq_false (show ¬ t < 0 by omega), Bool.false_and]), fun _ _ => rfl⟩
  have L3 := fun q f0 g (q0 : 0 ≤ q) (q1 : q < D 2) (hf : ∀ t, 0 ≤ t → t < 2 ^ (D 0).toNat → f0 ((q + 1) * 64 + t) = favS D p x (q + 1) t) (hw : setB (g q) (fun r => decide (r < D 0) && decide (ansS D r p q = x))) => zinv (fun s f => zr 57 61 [yR (some 60), yR (some a), yI (i32 p), yI (i32 x), yI (i32 (2 ^ (D 0).toNat)), yI (i32 q), yI (i32 s)] [] (zw h F (zsW (zsW C 61 f) 62 g))) (fun s f => (∀ t, 0 ≤ t → t < s → f (q * 64 + t) = favS D p x q t) ∧ ∀ j, q * 64 + 64 ≤ j → f j = f0 j) 0 (2 ^ (D 0).toNat) (by omega) (fun s f s0 s1 hi => by
    have hw2 : g q < 64 := by
      have hlt : g q < 2 ^ (6 : Int).toNat := by
        refine Int.not_le.mp (fun z => ?_)
        have z6 : bitI (g q) 6 = 0 := by rw [hw.2.2 6 (by omega) (by omega)]; dsimp only; rw [decide_eq_false (show ¬ (6 : Int) < D 0 by omega)]; rfl
        have z7 : bitI (g q) 7 = 0 := by rw [hw.2.2 7 (by omega) (by omega)]; dsimp only; rw [decide_eq_false (show ¬ (7 : Int) < D 0 by omega)]; rfl
        have h1 := hw.1
        have h2 := hw.2.1
        unfold bitI at z6 z7
        rw [show (2 : Int) ^ (6 : Int).toNat = 64 from rfl] at z z6
        rw [show (2 : Int) ^ (7 : Int).toNat = 128 from rfl] at z7
        omega
      exact hlt
    have e := c_bestShare (F := F) (C := zsW (zsW C 61 f) 62 g) S O q0 q1 (p := p) (x := x) (s := s) (by rw [zsW_a (by omega), zsW_s]; intro t t0 t1; rw [hi.2 _ (by omega)]; exact hf t t0 t1) (by rw [zsW_s]; exact hw) (by rw [zsW_s]; exact hw2) s0 s1
    have fr := favS_rng O p x q0 s
    refine ⟨up1 f (q * 64 + s) (favS D p x q s), ?_, fun t t0 t1 => ?_, fun j hj => ?_⟩
    · rw [e_Plans_share_61]
      simp (disch := omega) only [if_true, if_false, not_true_eq_false, not_false_eq_true, zoI_s, zoR_s, zoH_s, zoL_s, zbI_s, zbV_s, zbR_s, zbL_s, zif_dec, i32_0, ne_eq, i32_lt, i32_le, i32_eq, i32_add, i32_mul, i32_sub, i32_neg, zrz_0, zrz_1, zif_t, zif_f, zsF_s, zsF_k, zsF_a, zsC_s, zsC_a, zsC_i, zsW_s, zsW_a, Int.add_zero, Int.zero_add, true_and, false_and, and_false, Bool.false_eq_true, decide_true, decide_false, Bool.true_and, Bool.false_and, Bool.true_or, Bool.false_or, sub1, if_pos, if_neg, wv_60 S, wr_256 S, wr_257 S, wr_258 S, wr_259 S, e, wa_61 S, ws_61 S, zsC_W, zz]
    · by_cases c : t = s
      · rw [c, up1_s]
      · rw [up1_n (by omega)]; exact hi.1 t t0 (by omega)
    · rw [up1_n (by omega)]; exact hi.2 j hj) f0 ⟨fun t _ _ => by omega, fun _ _ => rfl⟩
  obtain ⟨⟨f, g⟩, L1, i1, i2⟩ := zdwn (fun q (t : (Int → Int) × (Int → Int)) => zr 57 27 [yR (some 60), yR (some a), yI (i32 p), yI (i32 x), yI (i32 (2 ^ (D 0).toNat)), yI (i32 q), none] [] (zw h F (zsW (zsW C 61 t.1) 62 t.2))) (fun q t => (∀ y s, q < y → y ≤ D 2 → 0 ≤ s → s < 2 ^ (D 0).toNat → t.1 (y * 64 + s) = favS D p x y s) ∧ (∀ y, q < y → y < D 2 → setB (t.2 y) (fun r => decide (r < D 0) && decide (ansS D r p y = x)))) (-1) (D 2 - 1) (by omega) (fun q t q0 q1 hi => by
    obtain ⟨f, g⟩ := t
    obtain ⟨hi1, hi2⟩ := hi
    dsimp only at hi1 hi2 ⊢
    obtain ⟨g', e2, j2⟩ := L2 q f (up1 g q 0) (by omega) (by omega) (up1_s _ _ _)
    obtain ⟨f', e3, j3⟩ := L3 q f g' (by omega) (by omega) (fun t t0 t1 => hi1 (q + 1) t (by omega) (by omega) t0 t1) j2.1
    refine ⟨(f', g'), ?_, fun y s y0 y1 s0 s1 => ?_, fun y y0 y1 => ?_⟩
    · dsimp only
      rw [e_Plans_share_27]
      simp (disch := omega) only [if_true, if_false, not_true_eq_false, not_false_eq_true, zoI_s, zoR_s, zoH_s, zoL_s, zbI_s, zbV_s, zbR_s, zbL_s, zif_dec, i32_0, ne_eq, i32_lt, i32_le, i32_eq, i32_add, i32_mul, i32_sub, i32_neg, zrz_0, zrz_1, zif_t, zif_f, zsF_s, zsF_k, zsF_a, zsC_s, zsC_a, zsC_i, zsW_s, zsW_a, Int.add_zero, Int.zero_add, true_and, false_and, and_false, Bool.false_eq_true, decide_true, decide_false, Bool.true_and, Bool.false_and, Bool.true_or, Bool.false_or, sub1, if_pos, if_neg, wv_60 S, wr_256 S, wr_257 S, wr_258 S, wr_259 S, wa_62 S, ws_62 S, zsC_W, zsW_W, e2]
      rw [e_Plans_share_36]
      simp (disch := omega) only [if_true, if_false, not_true_eq_false, not_false_eq_true, zoI_s, zoR_s, zoH_s, zoL_s, zbI_s, zbV_s, zbR_s, zbL_s, zif_dec, i32_0, ne_eq, i32_lt, i32_le, i32_eq, i32_add, i32_mul, i32_sub, i32_neg, zrz_0, zrz_1, zif_t, zif_f, zsF_s, zsF_k, zsF_a, zsC_s, zsC_a, zsC_i, zsW_s, zsW_a, Int.add_zero, Int.zero_add, true_and, false_and, and_false, Bool.false_eq_true, decide_true, decide_false, Bool.true_and, Bool.false_and, Bool.true_or, Bool.false_or, sub1, if_pos, if_neg, dv H, dg_128 H, dp_128 H, dg_129 H, dp_129 H, dg_130 H, dp_130 H, dg_131 H, dp_131 H, dr_132 H, da_132 H, dr_133 H, da_133 H, dr_134 H, da_134 H, dr_135 H, da_135 H, dr_136 H, da_136 H, dr_137 H, da_137 H, V.1.1, e3]
      rw [e_Plans_share_61]
      simp (disch := omega) only [if_true, if_false, not_true_eq_false, not_false_eq_true, zoI_s, zoR_s, zoH_s, zoL_s, zbI_s, zbV_s, zbR_s, zbL_s, zif_dec, i32_0, ne_eq, i32_lt, i32_le, i32_eq, i32_add, i32_mul, i32_sub, i32_neg, zrz_0, zrz_1, zif_t, zif_f, zsF_s, zsF_k, zsF_a, zsC_s, zsC_a, zsC_i, zsW_s, zsW_a, Int.add_zero, Int.zero_add, true_and, false_and, and_false, Bool.false_eq_true, decide_true, decide_false, Bool.true_and, Bool.false_and, Bool.true_or, Bool.false_or, sub1, if_pos, if_neg, d_Plans_share_27_w6]
    · dsimp only
      by_cases c : y = q
      · rw [c]; exact j3.1 s s0 s1
      · rw [j3.2 _ (by omega)]; exact hi1 y s (by omega) y1 s0 s1
    · dsimp only
      by_cases c : y = q
      · rw [c]; exact j2.1
      · rw [j2.2 y c, up1_n c]; exact hi2 y (by omega) y1) (f0, C 62) ⟨fun y s y0 y1 s0 s1 => by rw [show y = D 2 by omega, favS_n]; exact i0 s s0 s1, fun y y0 y1 => by omega⟩
  dsimp only at L1 i1 i2
  refine ⟨f, g, ?_, fun q s q0 q1 s0 s1 => i1 q s (by omega) q1 s0 s1, fun q q0 q1 => i2 q (by omega) q1⟩
  rw [show zsW (zsW C 61 f0) 62 (C 62) = zsW C 61 f0 from by rw [← zsW_a (C := C) (a := 61) (f := f0) (show (62 : Nat) ≠ 61 by omega), zsW_id]] at L1
  rw [e_Plans_share]
  simp (disch := omega) only [if_true, if_false, not_true_eq_false, not_false_eq_true, zoI_s, zoR_s, zoH_s, zoL_s, zbI_s, zbV_s, zbR_s, zbL_s, zif_dec, i32_0, ne_eq, i32_lt, i32_le, i32_eq, i32_add, i32_mul, i32_sub, i32_neg, zrz_0, zrz_1, zif_t, zif_f, zsF_s, zsF_k, zsF_a, zsC_s, zsC_a, zsC_i, zsW_s, zsW_a, Int.add_zero, Int.zero_add, true_and, false_and, and_false, Bool.false_eq_true, decide_true, decide_false, Bool.true_and, Bool.false_and, Bool.true_or, Bool.false_or, sub1, if_pos, if_neg, dv H, dg_128 H, dp_128 H, dg_129 H, dp_129 H, dg_130 H, dp_130 H, dg_131 H, dp_131 H, dr_132 H, da_132 H, dr_133 H, da_133 H, dr_134 H, da_134 H, dr_135 H, da_135 H, dr_136 H, da_136 H, dr_137 H, da_137 H, V.1.1, b_pow, L0]
  rw [e_Plans_share_7]
  simp (disch := omega) only [if_true, if_false, not_true_eq_false, not_false_eq_true, zoI_s, zoR_s, zoH_s, zoL_s, zbI_s, zbV_s, zbR_s, zbL_s, zif_dec, i32_0, ne_eq, i32_lt, i32_le, i32_eq, i32_add, i32_mul, i32_sub, i32_neg, zrz_0, zrz_1, zif_t, zif_f, zsF_s, zsF_k, zsF_a, zsC_s, zsC_a, zsC_i, zsW_s, zsW_a, Int.add_zero, Int.zero_add, true_and, false_and, and_false, Bool.false_eq_true, decide_true, decide_false, Bool.true_and, Bool.false_and, Bool.true_or, Bool.false_or, sub1, if_pos, if_neg, dv H, dg_128 H, dp_128 H, dg_129 H, dp_129 H, dg_130 H, dp_130 H, dg_131 H, dp_131 H, dr_132 H, da_132 H, dr_133 H, da_133 H, dr_134 H, da_134 H, dr_135 H, da_135 H, dr_136 H, da_136 H, dr_137 H, da_137 H, V.1.2.2.1, L1]
  rw [e_Plans_share_27]
  simp (disch := omega) only [if_true, if_false, not_true_eq_false, not_false_eq_true, zoI_s, zoR_s, zoH_s, zoL_s, zbI_s, zbV_s, zbR_s, zbL_s, zif_dec, i32_0, ne_eq, i32_lt, i32_le, i32_eq, i32_add, i32_mul, i32_sub, i32_neg, zrz_0, zrz_1, zif_t, zif_f, zsF_s, zsF_k, zsF_a, zsC_s, zsC_a, zsC_i, zsW_s, zsW_a, Int.add_zero, Int.zero_add, true_and, false_and, and_false, Bool.false_eq_true, decide_true, decide_false, Bool.true_and, Bool.false_and, Bool.true_or, Bool.false_or, sub1, if_pos, if_neg]
theorem c_firstShare (S : St h) (H : duS h a) (V : duV F C a D) (O : dOK D) {p x q s : Int} (q0 : 0 ≤ q) (q1 : q < D 2) (hf : ∀ q s, 0 ≤ q → q ≤ D 2 → 0 ≤ s → s < 2 ^ (D 0).toNat → C 61 (q * 64 + s) = favS D p x q s) (hw : ∀ q, 0 ≤ q → q < D 2 → setB (C 62 q) (fun r => decide (r < D 0) && decide (ansS D r p q = x))) (s0 : 0 ≤ s) (s1 : s < 2 ^ (D 0).toNat) : zc 62 [zR (some 60), zR (some a), zI (i32 q), zI (i32 s)] (zw h F C) = some (zI (i32 (favQ D p x q s)), zw h F C) := by
  have b0 := O.1
  have b2 := O.2.2.1
  have p6 := pw_6 (n := D 0) (by omega)
  have e := fun r (r0 : 0 ≤ r) (r1 : r < D 0) => c_shareBy (F := F) (C := C) S O q0 q1 (fun t t0 t1 => hf (q + 1) t (by omega) (by omega) t0 t1) (hw q q0 q1) s0 s1 r0 r1
  have f0 := favS_rng O p x q0 s
  have ef := hf q s q0 (by omega) s0 s1
  have L1 := zfst (fun r => zr 62 11 [yR (some 60), yR (some a), yI (i32 q), yI (i32 s), yI (i32 (favS D p x q s)), yI (i32 r)] [] (zw h F C)) (fun r => some (zI (i32 r), zw h F C)) (fvQP D p x q s) 0 (D 0) (by omega) (by omega) (fun r r0 r1 hp => by
    unfold fvQP at hp
    rw [Bool.and_eq_true] at hp
    have c1 := of_decide_eq_true hp.1
    have c2 := of_decide_eq_true hp.2
    have e := e r r0 r1
    rw [c2] at e
    rw [e_Plans_firstShare_11]
    simp (disch := omega) only [if_true, if_false, not_true_eq_false, not_false_eq_true, zoI_s, zoR_s, zoH_s, zoL_s, zbI_s, zbV_s, zbR_s, zbL_s, zif_dec, i32_0, ne_eq, i32_lt, i32_le, i32_eq, i32_add, i32_mul, i32_sub, i32_neg, zrz_0, zrz_1, zif_t, zif_f, zsF_s, zsF_k, zsF_a, zsC_s, zsC_a, zsC_i, zsW_s, zsW_a, Int.add_zero, Int.zero_add, true_and, false_and, and_false, Bool.false_eq_true, decide_true, decide_false, Bool.true_and, Bool.false_and, Bool.true_or, Bool.false_or, sub1, if_pos, if_neg, dv H, dg_128 H, dp_128 H, dg_129 H, dp_129 H, dg_130 H, dp_130 H, dg_131 H, dp_131 H, dr_132 H, da_132 H, dr_133 H, da_133 H, dr_134 H, da_134 H, dr_135 H, da_135 H, dr_136 H, da_136 H, dr_137 H, da_137 H, V.1.1, wv_60 S, wr_256 S, wr_257 S, wr_258 S, wr_259 S, b_shr, c1, e]) (fun r r0 r1 hp => by
    rw [e_Plans_firstShare_11]
    rcases bitI_01 s r with cs | cs
    · unfold fvQP at hp
      rw [decide_eq_true cs, Bool.true_and] at hp
      have c2 := of_decide_eq_false hp
      have fr := favS_rng O p x (q := q + 1) (by omega) (orI s r)
      have gr : 0 ≤ gnS D p x q r ∧ gnS D p x q r ≤ 1 := by unfold gnS; split <;> omega
      have e := e r r0 r1
      simp (disch := omega) only [if_true, if_false, not_true_eq_false, not_false_eq_true, zoI_s, zoR_s, zoH_s, zoL_s, zbI_s, zbV_s, zbR_s, zbL_s, zif_dec, i32_0, ne_eq, i32_lt, i32_le, i32_eq, i32_add, i32_mul, i32_sub, i32_neg, zrz_0, zrz_1, zif_t, zif_f, zsF_s, zsF_k, zsF_a, zsC_s, zsC_a, zsC_i, zsW_s, zsW_a, Int.add_zero, Int.zero_add, true_and, false_and, and_false, Bool.false_eq_true, decide_true, decide_false, Bool.true_and, Bool.false_and, Bool.true_or, Bool.false_or, sub1, if_pos, if_neg, dv H, dg_128 H, dp_128 H, dg_129 H, dp_129 H, dg_130 H, dp_130 H, dg_131 H, dp_131 H, dr_132 H, da_132 H, dr_133 H, da_133 H, dr_134 H, da_134 H, dr_135 H, da_135 H, dr_136 H, da_136 H, dr_137 H, da_137 H, V.1.1, wv_60 S, wr_256 S, wr_257 S, wr_258 S, wr_259 S, b_shr, cs, e]
    · simp (disch := omega) only [if_true, if_false, not_true_eq_false, not_false_eq_true, zoI_s, zoR_s, zoH_s, zoL_s, zbI_s, zbV_s, zbR_s, zbL_s, zif_dec, i32_0, ne_eq, i32_lt, i32_le, i32_eq, i32_add, i32_mul, i32_sub, i32_neg, zrz_0, zrz_1, zif_t, zif_f, zsF_s, zsF_k, zsF_a, zsC_s, zsC_a, zsC_i, zsW_s, zsW_a, Int.add_zero, Int.zero_add, true_and, false_and, and_false, Bool.false_eq_true, decide_true, decide_false, Bool.true_and, Bool.false_and, Bool.true_or, Bool.false_or, sub1, if_pos, if_neg, dv H, dg_128 H, dp_128 H, dg_129 H, dp_129 H, dg_130 H, dp_130 H, dg_131 H, dp_131 H, dr_132 H, da_132 H, dr_133 H, da_133 H, dr_134 H, da_134 H, dr_135 H, da_135 H, dr_136 H, da_136 H, dr_137 H, da_137 H, V.1.1, wv_60 S, wr_256 S, wr_257 S, wr_258 S, wr_259 S, b_shr, cs])
  rw [Int.sub_zero] at L1
  rw [e_Plans_firstShare]
  simp (disch := omega) only [if_true, if_false, not_true_eq_false, not_false_eq_true, zoI_s, zoR_s, zoH_s, zoL_s, zbI_s, zbV_s, zbR_s, zbL_s, zif_dec, i32_0, ne_eq, i32_lt, i32_le, i32_eq, i32_add, i32_mul, i32_sub, i32_neg, zrz_0, zrz_1, zif_t, zif_f, zsF_s, zsF_k, zsF_a, zsC_s, zsC_a, zsC_i, zsW_s, zsW_a, Int.add_zero, Int.zero_add, true_and, false_and, and_false, Bool.false_eq_true, decide_true, decide_false, Bool.true_and, Bool.false_and, Bool.true_or, Bool.false_or, sub1, if_pos, if_neg, wv_60 S, wr_256 S, wr_257 S, wr_258 S, wr_259 S, wa_61 S, ws_61 S, ef, L1]
  unfold favQ
  by_cases c : fstF (fvQP D p x q s) 0 (D 0).toNat = -1
  · rw [if_pos c, if_pos c, e_Plans_firstShare_11]
    simp (disch := omega) only [if_true, if_false, not_true_eq_false, not_false_eq_true, zoI_s, zoR_s, zoH_s, zoL_s, zbI_s, zbV_s, zbR_s, zbL_s, zif_dec, i32_0, ne_eq, i32_lt, i32_le, i32_eq, i32_add, i32_mul, i32_sub, i32_neg, zrz_0, zrz_1, zif_t, zif_f, zsF_s, zsF_k, zsF_a, zsC_s, zsC_a, zsC_i, zsW_s, zsW_a, Int.add_zero, Int.zero_add, true_and, false_and, and_false, Bool.false_eq_true, decide_true, decide_false, Bool.true_and, Bool.false_and, Bool.true_or, Bool.false_or, sub1, if_pos, if_neg, dv H, dg_128 H, dp_128 H, dg_129 H, dp_129 H, dg_130 H, dp_130 H, dg_131 H, dp_131 H, dr_132 H, da_132 H, dr_133 H, da_133 H, dr_134 H, da_134 H, dr_135 H, da_135 H, dr_136 H, da_136 H, dr_137 H, da_137 H, V.1.1]
  · rw [if_neg c, if_neg c]
theorem c_sharedReedL (S : St h) (H : duS h a) (V : duV F C a D) (O : dOK D) {p x k : Int} (hf : ∀ q s, 0 ≤ q → q ≤ D 2 → 0 ≤ s → s < 2 ^ (D 0).toNat → C 61 (q * 64 + s) = favS D p x q s) (hw : ∀ q, 0 ≤ q → q < D 2 → setB (C 62 q) (fun r => decide (r < D 0) && decide (ansS D r p q = x))) (k1 : k < D 2) : ∀ (j : Nat) (q s c : Int), 0 ≤ q → q + j = k → 0 ≤ s → s < 2 ^ (D 0).toNat → zr 61 6 [yR (some 60), yR (some a), yI (i32 k), yI (i32 s), yI (i32 c), yI (i32 q)] [] (zw h F C) = some (zI (i32 (favK D p x j q s)), zw h F C) := by
  have b0 := O.1
  have b2 := O.2.2.1
  have p6 := pw_6 (n := D 0) (by omega)
  intro j
  induction j with
  | zero =>
    intro q s c q0 hq s0 s1
    have g := favQ_rng O p x q s
    have e := c_firstShare (F := F) S H V O q0 (by omega) hf hw s0 s1
    rw [e_Plans_sharedReed_6]
    by_cases c6 : favQ D p x q s = 6
    · rw [c6] at e
      simp (disch := omega) only [if_true, if_false, not_true_eq_false, not_false_eq_true, zoI_s, zoR_s, zoH_s, zoL_s, zbI_s, zbV_s, zbR_s, zbL_s, zif_dec, i32_0, ne_eq, i32_lt, i32_le, i32_eq, i32_add, i32_mul, i32_sub, i32_neg, zrz_0, zrz_1, zif_t, zif_f, zsF_s, zsF_k, zsF_a, zsC_s, zsC_a, zsC_i, zsW_s, zsW_a, Int.add_zero, Int.zero_add, true_and, false_and, and_false, Bool.false_eq_true, decide_true, decide_false, Bool.true_and, Bool.false_and, Bool.true_or, Bool.false_or, sub1, if_pos, if_neg, wv_60 S, wr_256 S, wr_257 S, wr_258 S, wr_259 S, e]
      rw [e_Plans_sharedReed_6]
      simp (disch := omega) only [if_true, if_false, not_true_eq_false, not_false_eq_true, zoI_s, zoR_s, zoH_s, zoL_s, zbI_s, zbV_s, zbR_s, zbL_s, zif_dec, i32_0, ne_eq, i32_lt, i32_le, i32_eq, i32_add, i32_mul, i32_sub, i32_neg, zrz_0, zrz_1, zif_t, zif_f, zsF_s, zsF_k, zsF_a, zsC_s, zsC_a, zsC_i, zsW_s, zsW_a, Int.add_zero, Int.zero_add, true_and, false_and, and_false, Bool.false_eq_true, decide_true, decide_false, Bool.true_and, Bool.false_and, Bool.true_or, Bool.false_or, sub1, if_pos, if_neg]
      rw [favK, c6]
    · have g3 := g.2.2 c6
      simp (disch := omega) only [if_true, if_false, not_true_eq_false, not_false_eq_true, zoI_s, zoR_s, zoH_s, zoL_s, zbI_s, zbV_s, zbR_s, zbL_s, zif_dec, i32_0, ne_eq, i32_lt, i32_le, i32_eq, i32_add, i32_mul, i32_sub, i32_neg, zrz_0, zrz_1, zif_t, zif_f, zsF_s, zsF_k, zsF_a, zsC_s, zsC_a, zsC_i, zsW_s, zsW_a, Int.add_zero, Int.zero_add, true_and, false_and, and_false, Bool.false_eq_true, decide_true, decide_false, Bool.true_and, Bool.false_and, Bool.true_or, Bool.false_or, sub1, if_pos, if_neg, wv_60 S, wr_256 S, wr_257 S, wr_258 S, wr_259 S, e, b_or]
      rw [e_Plans_sharedReed_6]
      simp (disch := omega) only [if_true, if_false, not_true_eq_false, not_false_eq_true, zoI_s, zoR_s, zoH_s, zoL_s, zbI_s, zbV_s, zbR_s, zbL_s, zif_dec, i32_0, ne_eq, i32_lt, i32_le, i32_eq, i32_add, i32_mul, i32_sub, i32_neg, zrz_0, zrz_1, zif_t, zif_f, zsF_s, zsF_k, zsF_a, zsC_s, zsC_a, zsC_i, zsW_s, zsW_a, Int.add_zero, Int.zero_add, true_and, false_and, and_false, Bool.false_eq_true, decide_true, decide_false, Bool.true_and, Bool.false_and, Bool.true_or, Bool.false_or, sub1, if_pos, if_neg]
      rfl
  | succ j ih =>
    intro q s c q0 hq s0 s1
    have g := favQ_rng O p x q s
    have e := c_firstShare (F := F) S H V O q0 (by omega) hf hw s0 s1
    have nx := favQ_next (p := p) (x := x) (q := q) O s0 s1
    rw [e_Plans_sharedReed_6, favK]
    by_cases c6 : favQ D p x q s = 6
    · rw [if_pos c6] at nx ⊢
      rw [c6] at e
      simp (disch := omega) only [if_true, if_false, not_true_eq_false, not_false_eq_true, zoI_s, zoR_s, zoH_s, zoL_s, zbI_s, zbV_s, zbR_s, zbL_s, zif_dec, i32_0, ne_eq, i32_lt, i32_le, i32_eq, i32_add, i32_mul, i32_sub, i32_neg, zrz_0, zrz_1, zif_t, zif_f, zsF_s, zsF_k, zsF_a, zsC_s, zsC_a, zsC_i, zsW_s, zsW_a, Int.add_zero, Int.zero_add, true_and, false_and, and_false, Bool.false_eq_true, decide_true, decide_false, Bool.true_and, Bool.false_and, Bool.true_or, Bool.false_or, sub1, if_pos, if_neg, wv_60 S, wr_256 S, wr_257 S, wr_258 S, wr_259 S, e]
      exact ih (q + 1) s _ (by omega) (by omega) s0 s1
    · have g3 := g.2.2 c6
      rw [if_neg c6] at nx ⊢
      simp (disch := omega) only [if_true, if_false, not_true_eq_false, not_false_eq_true, zoI_s, zoR_s, zoH_s, zoL_s, zbI_s, zbV_s, zbR_s, zbL_s, zif_dec, i32_0, ne_eq, i32_lt, i32_le, i32_eq, i32_add, i32_mul, i32_sub, i32_neg, zrz_0, zrz_1, zif_t, zif_f, zsF_s, zsF_k, zsF_a, zsC_s, zsC_a, zsC_i, zsW_s, zsW_a, Int.add_zero, Int.zero_add, true_and, false_and, and_false, Bool.false_eq_true, decide_true, decide_false, Bool.true_and, Bool.false_and, Bool.true_or, Bool.false_or, sub1, if_pos, if_neg, wv_60 S, wr_256 S, wr_257 S, wr_258 S, wr_259 S, e, b_or]
      exact ih (q + 1) _ _ (by omega) (by omega) nx.1 nx.2
end A20
