/-! ready: the class -/
def nxI (s a : Int) : Int := if a = 0 then wetS (s / 80) * 80 + s % 80 else if a = 1 then s / 80 * 80 + (s / 10 % 8 + 1) % 8 * 10 + s % 10 else if a = 2 then (if s < 80 then s else s - 80) else if a = 3 then (if s % 10 = 0 then s else s - 1) else (if s % 10 = 9 then s else s + 1)
def golB (D : Int → Int) (p q x : Int) (s : Int) : Bool := decide (meanS D (noteS D (s / 80) (s / 10 % 8) (s % 10) p q) = x)
def stOf (D : Int → Int) (r : Int) : Int := 80 * D (4 + 2 * r) + 10 * D (5 + 2 * r) + D 3
theorem nxI_OK : nxOK nxI := by
  intro s a s0 s1 a0 a1
  unfold nxI
  by_cases c0 : a = 0
  · rw [if_pos c0]
    have := wetS_rng (w := s / 80) (by omega) (by omega)
    omega
  · rw [if_neg c0]
    by_cases c1 : a = 1
    · rw [if_pos c1]; omega
    · rw [if_neg c1]
      by_cases c2 : a = 2
      · rw [if_pos c2]; split <;> omega
      · rw [if_neg c2]
        by_cases c3 : a = 3
        · rw [if_pos c3]; split <;> omega
        · rw [if_neg c3]; split <;> omega
theorem wet3 {w : Int} (w0 : 0 ≤ w) (w1 : w ≤ 9) : wetS (wetS (wetS w)) = 9 := by
  rcases (show w = 0 ∨ w = 1 ∨ w = 2 ∨ w = 3 ∨ w = 4 ∨ w = 5 ∨ w = 6 ∨ w = 7 ∨ w = 8 ∨ w = 9 by omega) with rfl | rfl | rfl | rfl | rfl | rfl | rfl | rfl | rfl | rfl <;> rfl
section RD
variable {h : zHeap} {F : Nat → Nat → Int} {C : Nat → Int → Int} {a : Nat} {D : Int → Int}
theorem cut_r {G : Int → Bool} : ∀ (j : Nat) (k c : Int), 0 ≤ k → k < 8 → 0 ≤ c → c < 10 → G (720 + 10 * ((k + j) % 8) + c) = true → rchB nxI G j (720 + 10 * k + c) = true := by
  intro j
  induction j with
  | zero => intro k c k0 k1 c0 c1 hg; rw [show (k + (0 : Nat)) % 8 = k by omega] at hg; exact hg
  | succ j ih =>
    intro k c k0 k1 c0 c1 hg
    refine (exB_iff _ _).mpr ⟨1, by omega, by omega, ?_⟩
    have e : nxI (720 + 10 * k + c) 1 = 720 + 10 * ((k + 1) % 8) + c := by
      unfold nxI
      rw [if_neg (by omega), if_pos rfl]
      omega
    rw [e]
    refine ih _ c (by omega) (by omega) c0 c1 ?_
    rw [show ((k + 1) % 8 + (j : Int)) % 8 = (k + ((j + 1 : Nat) : Int)) % 8 by omega]
    exact hg
theorem gol_max {p q x s : Int} (O : dOK D) (x0 : 0 ≤ x) (s0 : 0 ≤ s) (s1 : s < 800) (hg : golB D p q x s = true) : D (20 + 2 * q) ≤ 9 + D (16 + p) ∧ ∃ n, 0 ≤ n ∧ n < 8 ∧ D (36 + n) = x := by
  have e := of_decide_eq_true hg
  have g := noteS_rng (D := D) (w := s / 80) (k := s / 10 % 8) (c := s % 10) (p := p) (q := q)
  have c := nt_c (D := D) (w := s / 80) (u := s / 10 % 8) (c := s % 10) (p := p) (q := q)
  unfold meanS at e
  by_cases cn : noteS D (s / 80) (s / 10 % 8) (s % 10) p q < 0
  · rw [if_pos cn] at e; omega
  · rw [if_neg cn] at e
    refine ⟨?_, _, by omega, by omega, e⟩
    have : ¬ (s / 80 + D (16 + p) < D (20 + 2 * q)) := fun z => by rw [← c] at z; omega
    omega
theorem gol_R {p q x : Int} (O : dOK D) (p0 : 0 ≤ p) (p1 : p < D 1) (q0 : 0 ≤ q) (q1 : q < D 2) (x0 : 0 ≤ x) (hd : D (20 + 2 * q) ≤ 9 + D (16 + p)) (hn : ∃ n, 0 ≤ n ∧ n < 8 ∧ D (36 + n) = x) {s : Int} (s0 : 0 ≤ s) (s1 : s < 800) : ∃ n : Nat, n ≤ 10 ∧ rchB nxI (golB D p q x) n s = true := by
  obtain ⟨n, n0, n1, n2⟩ := hn
  have b3 := O.2.2.2.2.2.2.1 p p0 p1
  have b4 := O.2.2.2.2.2.2.2.1 q q0 q1
  have b5 := O.2.2.2.2.2.2.2.2.1 q q0 q1
  refine ⟨((n - (27 + D (16 + p) + s / 10 % 8 + 5 * D (21 + 2 * q) + D (20 + 2 * q) + 16 - s % 10)) % 8).toNat + 3, by omega, ?_⟩
  have e1 : ∀ s, 0 ≤ s → s < 800 → nxI s 0 = wetS (s / 80) * 80 + s % 80 := fun s _ _ => by unfold nxI; rw [if_pos rfl]
  have w1 := wetS_rng (w := s / 80) (by omega) (by omega)
  have w2 := wetS_rng (w := wetS (s / 80)) (by omega) (by omega)
  have w3 := wet3 (w := s / 80) (by omega) (by omega)
  refine (exB_iff _ _).mpr ⟨0, by omega, by omega, (exB_iff _ _).mpr ⟨0, by omega, by omega, (exB_iff _ _).mpr ⟨0, by omega, by omega, ?_⟩⟩⟩
  rw [e1 s s0 s1, e1 (wetS (s / 80) * 80 + s % 80) (by omega) (by omega), show (wetS (s / 80) * 80 + s % 80) / 80 = wetS (s / 80) by omega, show (wetS (s / 80) * 80 + s % 80) % 80 = s % 80 by omega, e1 (wetS (wetS (s / 80)) * 80 + s % 80) (by omega) (by omega), show (wetS (wetS (s / 80)) * 80 + s % 80) / 80 = wetS (wetS (s / 80)) by omega, show (wetS (wetS (s / 80)) * 80 + s % 80) % 80 = s % 80 by omega, w3, show (9 : Int) * 80 + s % 80 = 720 + 10 * (s / 10 % 8) + s % 10 by omega]
  refine cut_r _ _ _ (by omega) (by omega) (by omega) (by omega) (decide_eq_true ?_)
  generalize hj : (n - (27 + D (16 + p) + s / 10 % 8 + 5 * D (21 + 2 * q) + D (20 + 2 * q) + 16 - s % 10)) % 8 = j
  have j0 : 0 ≤ j ∧ j < 8 := by omega
  generalize hk : (s / 10 % 8 + (j.toNat : Int)) % 8 = k
  have k0 : 0 ≤ k ∧ k < 8 := by omega
  rw [show (720 + 10 * k + s % 10) / 80 = 9 by omega, show (720 + 10 * k + s % 10) / 10 % 8 = k by omega, show (720 + 10 * k + s % 10) % 10 = s % 10 by omega]
  have en : noteS D 9 k (s % 10) p q = n := by
    unfold noteS
    rw [if_neg (by omega)]
    omega
  rw [en]
  unfold meanS
  rw [if_neg (by omega)]
  exact n2
theorem gol_rOK {p q x : Int} (O : dOK D) (p0 : 0 ≤ p) (p1 : p < D 1) (q0 : 0 ≤ q) (q1 : q < D 2) (x0 : 0 ≤ x) : rOK nxI (golB D p q x) := by
  rintro ⟨s, s0, s1, hg⟩ t t0 t1
  obtain ⟨h1, h2⟩ := gol_max O x0 s0 s1 hg
  exact gol_R O p0 p1 q0 q1 x0 h1 h2 t0 t1
theorem st_rng (O : dOK D) {r : Int} (r0 : 0 ≤ r) (r1 : r < D 0) : 0 ≤ stOf D r ∧ stOf D r < 800 := by
  have b1 := O.2.2.2.2.1 r r0 r1
  have b5 := O.2.2.2.2.2.1 r r0 r1
  have b6 := O.2.2.2.1
  unfold stOf
  omega
theorem c_behind {h : zHeap} {s x : Int} (s0 : 0 ≤ s) (s1 : s < 800) (x0 : 0 ≤ x) (x1 : x < 5) : zc 4 [zI (i32 s), zI (i32 x)] h = some (zI (i32 (nxI s x)), h) := by
  have w1 := wetS_rng (w := s / 80) (by omega) (by omega)
  rw [e_Acts_behind]
  unfold nxI
  by_cases c0 : x = 0
  · simp (disch := omega) only [if_true, if_false, not_true_eq_false, not_false_eq_true, zoI_s, zoR_s, zoH_s, zoL_s, zbI_s, zbV_s, zbR_s, zbL_s, zif_dec, i32_0, ne_eq, i32_lt, i32_le, i32_eq, i32_add, i32_mul, i32_sub, i32_neg, zrz_0, zrz_1, zif_t, zif_f, zsF_s, zsF_k, zsF_a, zsC_s, zsC_a, zsC_i, zsW_s, zsW_a, Int.add_zero, Int.zero_add, true_and, false_and, and_false, Bool.false_eq_true, decide_true, decide_false, Bool.true_and, Bool.false_and, Bool.true_or, Bool.false_or, sub1, if_pos, if_neg, e_Acts_wetIn, e_Acts_keyIn, e_Acts_coldIn, e_Acts_stateOf, i32_div, i32_rem, c_wetted]
    rw [show (wetS (s / 80) * 8 + s / 10 % 8) * 10 + s % 10 = wetS (s / 80) * 80 + s % 80 by omega]
  · by_cases c1 : x = 1
    · simp (disch := omega) only [if_true, if_false, not_true_eq_false, not_false_eq_true, zoI_s, zoR_s, zoH_s, zoL_s, zbI_s, zbV_s, zbR_s, zbL_s, zif_dec, i32_0, ne_eq, i32_lt, i32_le, i32_eq, i32_add, i32_mul, i32_sub, i32_neg, zrz_0, zrz_1, zif_t, zif_f, zsF_s, zsF_k, zsF_a, zsC_s, zsC_a, zsC_i, zsW_s, zsW_a, Int.add_zero, Int.zero_add, true_and, false_and, and_false, Bool.false_eq_true, decide_true, decide_false, Bool.true_and, Bool.false_and, Bool.true_or, Bool.false_or, sub1, if_pos, if_neg, e_Acts_wetIn, e_Acts_keyIn, e_Acts_coldIn, e_Acts_stateOf, i32_div, i32_rem]
      rw [show (s / 80 * 8 + (s / 10 % 8 + 1) % 8) * 10 + s % 10 = s / 80 * 80 + (s / 10 % 8 + 1) % 8 * 10 + s % 10 by omega]
    · by_cases c2 : x = 2
      · unfold driS at *
        by_cases cc : s < 80
        · simp (disch := omega) only [if_true, if_false, not_true_eq_false, not_false_eq_true, zoI_s, zoR_s, zoH_s, zoL_s, zbI_s, zbV_s, zbR_s, zbL_s, zif_dec, i32_0, ne_eq, i32_lt, i32_le, i32_eq, i32_add, i32_mul, i32_sub, i32_neg, zrz_0, zrz_1, zif_t, zif_f, zsF_s, zsF_k, zsF_a, zsC_s, zsC_a, zsC_i, zsW_s, zsW_a, Int.add_zero, Int.zero_add, true_and, false_and, and_false, Bool.false_eq_true, decide_true, decide_false, Bool.true_and, Bool.false_and, Bool.true_or, Bool.false_or, sub1, if_pos, if_neg, e_Acts_wetIn, e_Acts_keyIn, e_Acts_coldIn, e_Acts_stateOf, i32_div, i32_rem, c_dried]
          unfold driS
          rw [if_pos (by omega), show ((0 : Int) * 8 + s / 10 % 8) * 10 + s % 10 = s by omega]
        · simp (disch := omega) only [if_true, if_false, not_true_eq_false, not_false_eq_true, zoI_s, zoR_s, zoH_s, zoL_s, zbI_s, zbV_s, zbR_s, zbL_s, zif_dec, i32_0, ne_eq, i32_lt, i32_le, i32_eq, i32_add, i32_mul, i32_sub, i32_neg, zrz_0, zrz_1, zif_t, zif_f, zsF_s, zsF_k, zsF_a, zsC_s, zsC_a, zsC_i, zsW_s, zsW_a, Int.add_zero, Int.zero_add, true_and, false_and, and_false, Bool.false_eq_true, decide_true, decide_false, Bool.true_and, Bool.false_and, Bool.true_or, Bool.false_or, sub1, if_pos, if_neg, e_Acts_wetIn, e_Acts_keyIn, e_Acts_coldIn, e_Acts_stateOf, i32_div, i32_rem, c_dried]
          unfold driS
          rw [if_neg (by omega), show ((s / 80 - 1) * 8 + s / 10 % 8) * 10 + s % 10 = s - 80 by omega]
      · by_cases c3 : x = 3
        · by_cases cc : s % 10 = 0
          · simp (disch := omega) only [if_true, if_false, not_true_eq_false, not_false_eq_true, zoI_s, zoR_s, zoH_s, zoL_s, zbI_s, zbV_s, zbR_s, zbL_s, zif_dec, i32_0, ne_eq, i32_lt, i32_le, i32_eq, i32_add, i32_mul, i32_sub, i32_neg, zrz_0, zrz_1, zif_t, zif_f, zsF_s, zsF_k, zsF_a, zsC_s, zsC_a, zsC_i, zsW_s, zsW_a, Int.add_zero, Int.zero_add, true_and, false_and, and_false, Bool.false_eq_true, decide_true, decide_false, Bool.true_and, Bool.false_and, Bool.true_or, Bool.false_or, sub1, if_pos, if_neg, e_Acts_wetIn, e_Acts_keyIn, e_Acts_coldIn, e_Acts_stateOf, i32_div, i32_rem, i32_max]
            rw [show (s / 80 * 8 + s / 10 % 8) * 10 = s by omega]
          · simp (disch := omega) only [if_true, if_false, not_true_eq_false, not_false_eq_true, zoI_s, zoR_s, zoH_s, zoL_s, zbI_s, zbV_s, zbR_s, zbL_s, zif_dec, i32_0, ne_eq, i32_lt, i32_le, i32_eq, i32_add, i32_mul, i32_sub, i32_neg, zrz_0, zrz_1, zif_t, zif_f, zsF_s, zsF_k, zsF_a, zsC_s, zsC_a, zsC_i, zsW_s, zsW_a, Int.add_zero, Int.zero_add, true_and, false_and, and_false, Bool.false_eq_true, decide_true, decide_false, Bool.true_and, Bool.false_and, Bool.true_or, Bool.false_or, sub1, if_pos, if_neg, e_Acts_wetIn, e_Acts_keyIn, e_Acts_coldIn, e_Acts_stateOf, i32_div, i32_rem, i32_max]
            rw [show (s / 80 * 8 + s / 10 % 8) * 10 + (if 0 < s % 10 - 1 then s % 10 - 1 else 0) = s - 1 by split <;> omega]
        · by_cases cc : s % 10 = 9
          · simp (disch := omega) only [if_true, if_false, not_true_eq_false, not_false_eq_true, zoI_s, zoR_s, zoH_s, zoL_s, zbI_s, zbV_s, zbR_s, zbL_s, zif_dec, i32_0, ne_eq, i32_lt, i32_le, i32_eq, i32_add, i32_mul, i32_sub, i32_neg, zrz_0, zrz_1, zif_t, zif_f, zsF_s, zsF_k, zsF_a, zsC_s, zsC_a, zsC_i, zsW_s, zsW_a, Int.add_zero, Int.zero_add, true_and, false_and, and_false, Bool.false_eq_true, decide_true, decide_false, Bool.true_and, Bool.false_and, Bool.true_or, Bool.false_or, sub1, if_pos, if_neg, e_Acts_wetIn, e_Acts_keyIn, e_Acts_coldIn, e_Acts_stateOf, i32_div, i32_rem, i32_min]
            rw [show (s / 80 * 8 + s / 10 % 8) * 10 + 9 = s by omega]
          · simp (disch := omega) only [if_true, if_false, not_true_eq_false, not_false_eq_true, zoI_s, zoR_s, zoH_s, zoL_s, zbI_s, zbV_s, zbR_s, zbL_s, zif_dec, i32_0, ne_eq, i32_lt, i32_le, i32_eq, i32_add, i32_mul, i32_sub, i32_neg, zrz_0, zrz_1, zif_t, zif_f, zsF_s, zsF_k, zsF_a, zsC_s, zsC_a, zsC_i, zsW_s, zsW_a, Int.add_zero, Int.zero_add, true_and, false_and, and_false, Bool.false_eq_true, decide_true, decide_false, Bool.true_and, Bool.false_and, Bool.true_or, Bool.false_or, sub1, if_pos, if_neg, e_Acts_wetIn, e_Acts_keyIn, e_Acts_coldIn, e_Acts_stateOf, i32_div, i32_rem, i32_min]
            rw [show (s / 80 * 8 + s / 10 % 8) * 10 + (if s % 10 + 1 < 9 then s % 10 + 1 else 9) = s + 1 by split <;> omega]
theorem c_isBeyond (H : duS h a) (V : duV F C a D) (O : dOK D) {p q x : Int} (p0 : 0 ≤ p) (p1 : p < D 1) (q0 : 0 ≤ q) (q1 : q < D 2) (x0 : 0 ≤ x) (x1 : x < 3) : zc 2 [zR (some a), zI (i32 p), zI (i32 q), zI (i32 x)] (zw h F C) = some (zI (i32 (if D (20 + 2 * q) ≤ 9 + D (16 + p) ∧ exB (fun n => decide (D (36 + n) = x)) 8 = true then 0 else 1)), zw h F C) := by
  obtain ⟨_, L1, _⟩ := zorJ (fun n b (_ : Unit) => zr 2 4 [yR (some a), yI (i32 p), yI (i32 q), yI (i32 x), yI (i32 (if b = true then 1 else 0)), yI (i32 n)] [] (zw h F C)) (fun n => decide (D (36 + n) = x)) (fun _ => True) 8 (by omega) (fun n b _ n0 n1 _ => by
    have g := O.2.2.2.2.2.2.2.2.2 n n0 n1
    refine ⟨(), ?_, trivial⟩
    rw [e_Acts_isBeyond_4]
    cases b with
    | true => simp (disch := omega) only [if_true, if_false, not_true_eq_false, not_false_eq_true, zoI_s, zoR_s, zoH_s, zoL_s, zbI_s, zbV_s, zbR_s, zbL_s, zif_dec, i32_0, ne_eq, i32_lt, i32_le, i32_eq, i32_add, i32_mul, i32_sub, i32_neg, zrz_0, zrz_1, zif_t, zif_f, zsF_s, zsF_k, zsF_a, zsC_s, zsC_a, zsC_i, zsW_s, zsW_a, Int.add_zero, Int.zero_add, true_and, false_and, and_false, Bool.false_eq_true, decide_true, decide_false, Bool.true_and, Bool.false_and, Bool.true_or, Bool.false_or, sub1, if_pos, if_neg]
    | false =>
      by_cases c : D (36 + n) = x
      · simp (disch := omega) only [if_true, if_false, not_true_eq_false, not_false_eq_true, zoI_s, zoR_s, zoH_s, zoL_s, zbI_s, zbV_s, zbR_s, zbL_s, zif_dec, i32_0, ne_eq, i32_lt, i32_le, i32_eq, i32_add, i32_mul, i32_sub, i32_neg, zrz_0, zrz_1, zif_t, zif_f, zsF_s, zsF_k, zsF_a, zsC_s, zsC_a, zsC_i, zsW_s, zsW_a, Int.add_zero, Int.zero_add, true_and, false_and, and_false, Bool.false_eq_true, decide_true, decide_false, Bool.true_and, Bool.false_and, Bool.true_or, Bool.false_or, sub1, if_pos, if_neg, dv H, dg_128 H, dp_128 H, dg_129 H, dp_129 H, dg_130 H, dp_130 H, dg_131 H, dp_131 H, dr_132 H, da_132 H, dr_133 H, da_133 H, dr_134 H, da_134 H, dr_135 H, da_135 H, dr_136 H, da_136 H, dr_137 H, da_137 H, V.2.2.2.2.2.2, c]
      · simp (disch := omega) only [if_true, if_false, not_true_eq_false, not_false_eq_true, zoI_s, zoR_s, zoH_s, zoL_s, zbI_s, zbV_s, zbR_s, zbL_s, zif_dec, i32_0, ne_eq, i32_lt, i32_le, i32_eq, i32_add, i32_mul, i32_sub, i32_neg, zrz_0, zrz_1, zif_t, zif_f, zsF_s, zsF_k, zsF_a, zsC_s, zsC_a, zsC_i, zsW_s, zsW_a, Int.add_zero, Int.zero_add, true_and, false_and, and_false, Bool.false_eq_true, decide_true, decide_false, Bool.true_and, Bool.false_and, Bool.true_or, Bool.false_or, sub1, if_pos, if_neg, dv H, dg_128 H, dp_128 H, dg_129 H, dp_129 H, dg_130 H, dp_130 H, dg_131 H, dp_131 H, dr_132 H, da_132 H, dr_133 H, da_133 H, dr_134 H, da_134 H, dr_135 H, da_135 H, dr_136 H, da_136 H, dr_137 H, da_137 H, V.2.2.2.2.2.2, c]) false () trivial
  rw [if_neg (by simp), Bool.false_or] at L1
  rw [e_Acts_isBeyond, L1, e_Acts_isBeyond_4]
  cases cx : exB (fun n => decide (D (36 + n) = x)) 8 with
  | false =>
    simp (disch := omega) only [if_true, if_false, not_true_eq_false, not_false_eq_true, zoI_s, zoR_s, zoH_s, zoL_s, zbI_s, zbV_s, zbR_s, zbL_s, zif_dec, i32_0, ne_eq, i32_lt, i32_le, i32_eq, i32_add, i32_mul, i32_sub, i32_neg, zrz_0, zrz_1, zif_t, zif_f, zsF_s, zsF_k, zsF_a, zsC_s, zsC_a, zsC_i, zsW_s, zsW_a, Int.add_zero, Int.zero_add, true_and, false_and, and_false, Bool.false_eq_true, decide_true, decide_false, Bool.true_and, Bool.false_and, Bool.true_or, Bool.false_or, sub1, if_pos, if_neg]
  | true =>
    by_cases c : D (20 + 2 * q) ≤ 9 + D (16 + p)
    · simp (disch := omega) only [if_true, if_false, not_true_eq_false, not_false_eq_true, zoI_s, zoR_s, zoH_s, zoL_s, zbI_s, zbV_s, zbR_s, zbL_s, zif_dec, i32_0, ne_eq, i32_lt, i32_le, i32_eq, i32_add, i32_mul, i32_sub, i32_neg, zrz_0, zrz_1, zif_t, zif_f, zsF_s, zsF_k, zsF_a, zsC_s, zsC_a, zsC_i, zsW_s, zsW_a, Int.add_zero, Int.zero_add, true_and, false_and, and_false, Bool.false_eq_true, decide_true, decide_false, Bool.true_and, Bool.false_and, Bool.true_or, Bool.false_or, sub1, if_pos, if_neg, dv H, dg_128 H, dp_128 H, dg_129 H, dp_129 H, dg_130 H, dp_130 H, dg_131 H, dp_131 H, dr_132 H, da_132 H, dr_133 H, da_133 H, dr_134 H, da_134 H, dr_135 H, da_135 H, dr_136 H, da_136 H, dr_137 H, da_137 H, c_coughs H V O, ib_0, and_true]
    · simp (disch := omega) only [if_true, if_false, not_true_eq_false, not_false_eq_true, zoI_s, zoR_s, zoH_s, zoL_s, zbI_s, zbV_s, zbR_s, zbL_s, zif_dec, i32_0, ne_eq, i32_lt, i32_le, i32_eq, i32_add, i32_mul, i32_sub, i32_neg, zrz_0, zrz_1, zif_t, zif_f, zsF_s, zsF_k, zsF_a, zsC_s, zsC_a, zsC_i, zsW_s, zsW_a, Int.add_zero, Int.zero_add, true_and, false_and, and_false, Bool.false_eq_true, decide_true, decide_false, Bool.true_and, Bool.false_and, Bool.true_or, Bool.false_or, sub1, if_pos, if_neg, dv H, dg_128 H, dp_128 H, dg_129 H, dp_129 H, dg_130 H, dp_130 H, dg_131 H, dp_131 H, dr_132 H, da_132 H, dr_133 H, da_133 H, dr_134 H, da_134 H, dr_135 H, da_135 H, dr_136 H, da_136 H, dr_137 H, da_137 H, c_coughs H V O, ib_0, and_true]
def oRng (o : Int → Int) : Prop := ∀ s, 0 ≤ s → s < 800 → -2 ≤ o s ∧ o s < 4000
theorem zs5859 (C : Nat → Int → Int) (o q f : Int → Int) : zsW (zsW (zsW C 58 o) 59 q) 58 f = zsW (zsW C 58 f) 59 q := by
  rw [zsW_sw _ _ _ (show (59 : Nat) ≠ 58 by omega), zsW_W]
theorem c_spread (S : St h) {st s : Int} {o q : Int → Int} {tail head : Int} (I : bfI nxI st o q tail head 0) (ro : oRng o) (hh : head < tail) (hs : q head = s) : ∃ o' q' tail', zc 3 [zR (some 57), zI (i32 s), zI (i32 tail)] (zw h F (zsW (zsW C 58 o) 59 q)) = some (zI (i32 tail'), zw h F (zsW (zsW C 58 o') 59 q')) ∧ bfI nxI st o' q' tail' head 5 ∧ oRng o' ∧ head < tail' ∧ (∀ i, i ≤ head → q' i = q i) := by
  have s1 := I.2.1 head I.1.1 hh
  rw [hs] at s1
  obtain ⟨⟨o', q', t'⟩, L1, J1, J2, J3, J4⟩ := zinv (fun x (t : (Int → Int) × (Int → Int) × Int) => zr 3 4 [yR (some 57), yI (i32 s), yI (i32 tail), yI (i32 (t.2.2)), yI (i32 x), none] [] (zw h F (zsW (zsW C 58 t.1) 59 t.2.1))) (fun x t => bfI nxI st t.1 t.2.1 t.2.2 head x ∧ oRng t.1 ∧ head < t.2.2 ∧ (∀ i, i ≤ head → t.2.1 i = q i)) 0 5 (by omega) (fun x t x0 x1 hi => by
    obtain ⟨o1, q1, t1⟩ := t
    obtain ⟨J1, J2, J3, J4⟩ := hi
    dsimp only at J1 J2 J3 J4 ⊢
    have qs : q1 head = s := by rw [J4 head (by omega)]; exact hs
    have tr := J1.1
    have nr := nxI_OK s x s1.1 s1.2.1 x0 x1
    have orr := J2 (nxI s x) nr.1 nr.2
    by_cases c : o1 (nxI s x) = -1
    · have rm := bfI_room J1 nr.1 nr.2 c
      have J := bfI_new nxI_OK J1 J3 x0 x1 (by rw [qs]; exact c)
      rw [qs] at J
      refine ⟨(up1 o1 (nxI s x) (s * 5 + x), up1 q1 t1 (nxI s x), t1 + 1), ?_, J, ?_, ?_, ?_⟩
      · rw [e_Acts_spread_4]
        simp (disch := omega) only [if_true, if_false, not_true_eq_false, not_false_eq_true, zoI_s, zoR_s, zoH_s, zoL_s, zbI_s, zbV_s, zbR_s, zbL_s, zif_dec, i32_0, ne_eq, i32_lt, i32_le, i32_eq, i32_add, i32_mul, i32_sub, i32_neg, zrz_0, zrz_1, zif_t, zif_f, zsF_s, zsF_k, zsF_a, zsC_s, zsC_a, zsC_i, zsW_s, zsW_a, Int.add_zero, Int.zero_add, true_and, false_and, and_false, Bool.false_eq_true, decide_true, decide_false, Bool.true_and, Bool.false_and, Bool.true_or, Bool.false_or, sub1, if_pos, if_neg, wv_57 S, wr_1 S, wr_2 S, wg_0 S, wp_0 S, wg_3 S, wp_3 S, wa_58 S, ws_58 S, wa_59 S, ws_59 S, c_behind, c, zsC_W, zsW_W, zs5859, d_Acts_spread_4_w5]
      · intro y y0 y1
        dsimp only
        by_cases cy : y = nxI s x
        · rw [cy, up1_s]; omega
        · rw [up1_n cy]; exact J2 y y0 y1
      · dsimp only; omega
      · intro i hi
        dsimp only
        rw [up1_n (by omega)]; exact J4 i hi
    · have J := bfI_seen nxI_OK J1 J3 x0 x1 (by rw [qs]; exact c)
      refine ⟨(o1, q1, t1), ?_, J, J2, J3, J4⟩
      rw [e_Acts_spread_4]
      simp (disch := omega) only [if_true, if_false, not_true_eq_false, not_false_eq_true, zoI_s, zoR_s, zoH_s, zoL_s, zbI_s, zbV_s, zbR_s, zbL_s, zif_dec, i32_0, ne_eq, i32_lt, i32_le, i32_eq, i32_add, i32_mul, i32_sub, i32_neg, zrz_0, zrz_1, zif_t, zif_f, zsF_s, zsF_k, zsF_a, zsC_s, zsC_a, zsC_i, zsW_s, zsW_a, Int.add_zero, Int.zero_add, true_and, false_and, and_false, Bool.false_eq_true, decide_true, decide_false, Bool.true_and, Bool.false_and, Bool.true_or, Bool.false_or, sub1, if_pos, if_neg, wv_57 S, wr_1 S, wr_2 S, wg_0 S, wp_0 S, wg_3 S, wp_3 S, wa_58 S, ws_58 S, c_behind, d_Acts_spread_4_w5]) (o, q, tail) ⟨I, ro, hh, fun _ _ => rfl⟩
  dsimp only at L1 J1 J2 J3 J4
  refine ⟨o', q', t', ?_, J1, J2, J3, J4⟩
  rw [e_Acts_spread, L1, e_Acts_spread_4]
  simp (disch := omega) only [if_true, if_false, not_true_eq_false, not_false_eq_true, zoI_s, zoR_s, zoH_s, zoL_s, zbI_s, zbV_s, zbR_s, zbL_s, zif_dec, i32_0, ne_eq, i32_lt, i32_le, i32_eq, i32_add, i32_mul, i32_sub, i32_neg, zrz_0, zrz_1, zif_t, zif_f, zsF_s, zsF_k, zsF_a, zsC_s, zsC_a, zsC_i, zsW_s, zsW_a, Int.add_zero, Int.zero_add, true_and, false_and, and_false, Bool.false_eq_true, decide_true, decide_false, Bool.true_and, Bool.false_and, Bool.true_or, Bool.false_or, sub1, if_pos, if_neg]
theorem c_stepsTo (S : St h) {st z : Int} {g tail : Int} (I : bfI nxI st (C 58) (C 59) tail g 0) (ro : oRng (C 58)) (gt : g < tail) : ∀ (n : Nat) (i : Int) (m : Nat), i < n → 0 ≤ i → chn nxI (C 58) (C 59) g m i → ∃ L : Nat, zr 5 4 [yR (some 57), yI (i32 z), yI (i32 m), yI (i32 (C 59 i))] [] (zw h F C) = some (zI (i32 L), zw h F C) ∧ chn nxI (C 58) (C 59) g L 0 := by
  intro n
  induction n with
  | zero => intro i m hi i0 _; omega
  | succ n ih =>
    intro i m hi i0 hc
    have hle := chn_le _ _ hc
    have it : i < tail := by omega
    have i1 := I.1
    have qi := I.2.1 i i0 it
    by_cases c : i = 0
    · refine ⟨m, ?_, by rw [c] at hc; exact hc⟩
      have e0 : C 58 (C 59 0) = -2 := by rw [i1.2.2.2.2.1]; exact i1.2.2.2.2.2
      rw [c] at qi
      rw [e_Acts_stepsTo_4, c]
      simp (disch := omega) only [if_true, if_false, not_true_eq_false, not_false_eq_true, zoI_s, zoR_s, zoH_s, zoL_s, zbI_s, zbV_s, zbR_s, zbL_s, zif_dec, i32_0, ne_eq, i32_lt, i32_le, i32_eq, i32_add, i32_mul, i32_sub, i32_neg, zrz_0, zrz_1, zif_t, zif_f, zsF_s, zsF_k, zsF_a, zsC_s, zsC_a, zsC_i, zsW_s, zsW_a, Int.add_zero, Int.zero_add, true_and, false_and, and_false, Bool.false_eq_true, decide_true, decide_false, Bool.true_and, Bool.false_and, Bool.true_or, Bool.false_or, sub1, if_pos, if_neg, wv_57 S, wr_1 S, wr_2 S, wg_0 S, wp_0 S, wg_3 S, wp_3 S, wa_58 S, ws_58 S, e0]
    · obtain ⟨j, x, _, hp⟩ := I.2.2.2.2.1 i (by omega) it
      obtain ⟨L, e, hL⟩ := ih j (m + 1) (by have := hp.2.1; omega) hp.1 ⟨i, x, hc, hp⟩
      refine ⟨L, ?_, hL⟩
      obtain ⟨p1, p2, p3, p4, p5, p6, p7⟩ := hp
      have qj := I.2.1 j p1 (by omega)
      have ed : (C 59 j * 5 + x) / 5 = C 59 j := by omega
      rw [← e, e_Acts_stepsTo_4]
      simp (disch := omega) only [if_true, if_false, not_true_eq_false, not_false_eq_true, zoI_s, zoR_s, zoH_s, zoL_s, zbI_s, zbV_s, zbR_s, zbL_s, zif_dec, i32_0, ne_eq, i32_lt, i32_le, i32_eq, i32_add, i32_mul, i32_sub, i32_neg, zrz_0, zrz_1, zif_t, zif_f, zsF_s, zsF_k, zsF_a, zsC_s, zsC_a, zsC_i, zsW_s, zsW_a, Int.add_zero, Int.zero_add, true_and, false_and, and_false, Bool.false_eq_true, decide_true, decide_false, Bool.true_and, Bool.false_and, Bool.true_or, Bool.false_or, sub1, if_pos, if_neg, wv_57 S, wr_1 S, wr_2 S, wg_0 S, wp_0 S, wg_3 S, wp_3 S, wa_58 S, ws_58 S, p5, i32_div, ed]
      rfl
theorem c_actAtL (S : St h) {p q x st : Int} {g tail : Int} (hR : rOK nxI (golB D p q x)) (I : bfI nxI st (C 58) (C 59) tail g 0) (ro : oRng (C 58)) (gt : g < tail) (hg : golB D p q x (C 59 g) = true) (hn : ∀ j, 0 ≤ j → j < g → golB D p q x (C 59 j) = false) {L : Nat} (hL : chn nxI (C 58) (C 59) g L 0) {k : Int} (k0 : 0 ≤ k) (k1 : k < L) : ∀ (n m : Nat) (i : Int), 0 ≤ i → chn nxI (C 58) (C 59) g m i → k + m + n + 1 = L → zr 6 16 [yR (some 57), yI (i32 k), yI (i32 (C 59 i)), yI (i32 ((L : Int) - 1 - m))] [] (zw h F C) = some (zI (i32 (rdyK nxI (golB D p q x) k.toNat st)), zw h F C) := by
  have i1 := I.1
  have hq : ∀ i, 0 ≤ i → i ≤ g → 0 ≤ C 59 i ∧ C 59 i < 800 := fun i i0 i1 => by have := I.2.1 i i0 (by omega); omega
  have hj : ∀ i j, 0 ≤ i → i < j → j ≤ g → C 59 i ≠ C 59 j := fun i j i0 i1 i2 => I.2.2.1 i j i0 i1 (by omega)
  have dL := chn_d hR hq hg hn (by omega) hL
  have lle := chn_le _ _ hL
  intro n
  induction n with
  | zero =>
    intro m i i0 hc hk
    have hle := chn_le _ _ hc
    have qi := I.2.1 i i0 (by omega)
    have ip : i ≠ 0 := fun z => by
      rw [z] at hc
      have := chn_d hR hq hg hn (by omega) hc
      omega
    obtain ⟨j, y, _, hp⟩ := I.2.2.2.2.1 i (by omega) (by omega)
    have ek := chn_k hR hq hj hg hn hc hp k.toNat 0 (by rw [show m + 1 + k.toNat = L by omega]; exact hL)
    rw [i1.2.2.2.2.1] at ek
    obtain ⟨p1, p2, p3, p4, p5, p6, p7⟩ := hp
    have qj := I.2.1 j p1 (by omega)
    have ed : (C 59 j * 5 + y) % 5 = y := by omega
    rw [e_Acts_actAt_16, ek]
    simp (disch := omega) only [if_true, if_false, not_true_eq_false, not_false_eq_true, zoI_s, zoR_s, zoH_s, zoL_s, zbI_s, zbV_s, zbR_s, zbL_s, zif_dec, i32_0, ne_eq, i32_lt, i32_le, i32_eq, i32_add, i32_mul, i32_sub, i32_neg, zrz_0, zrz_1, zif_t, zif_f, zsF_s, zsF_k, zsF_a, zsC_s, zsC_a, zsC_i, zsW_s, zsW_a, Int.add_zero, Int.zero_add, true_and, false_and, and_false, Bool.false_eq_true, decide_true, decide_false, Bool.true_and, Bool.false_and, Bool.true_or, Bool.false_or, sub1, if_pos, if_neg, wv_57 S, wr_1 S, wr_2 S, wg_0 S, wp_0 S, wg_3 S, wp_3 S, wa_58 S, ws_58 S, p5, i32_rem, ed]
  | succ n ih =>
    intro m i i0 hc hk
    have hle := chn_le _ _ hc
    have qi := I.2.1 i i0 (by omega)
    have ip : i ≠ 0 := fun z => by
      rw [z] at hc
      have := chn_d hR hq hg hn (by omega) hc
      omega
    obtain ⟨j, y, _, hp⟩ := I.2.2.2.2.1 i (by omega) (by omega)
    have e := ih (m + 1) j hp.1 ⟨i, y, hc, hp⟩ (by omega)
    obtain ⟨p1, p2, p3, p4, p5, p6, p7⟩ := hp
    have qj := I.2.1 j p1 (by omega)
    have ed : (C 59 j * 5 + y) / 5 = C 59 j := by omega
    rw [show (L : Int) - 1 - ((m + 1 : Nat) : Int) = (L : Int) - 1 - m - 1 by omega] at e
    rw [← e, e_Acts_actAt_16]
    simp (disch := omega) only [if_true, if_false, not_true_eq_false, not_false_eq_true, zoI_s, zoR_s, zoH_s, zoL_s, zbI_s, zbV_s, zbR_s, zbL_s, zif_dec, i32_0, ne_eq, i32_lt, i32_le, i32_eq, i32_add, i32_mul, i32_sub, i32_neg, zrz_0, zrz_1, zif_t, zif_f, zsF_s, zsF_k, zsF_a, zsC_s, zsC_a, zsC_i, zsW_s, zsW_a, Int.add_zero, Int.zero_add, true_and, false_and, and_false, Bool.false_eq_true, decide_true, decide_false, Bool.true_and, Bool.false_and, Bool.true_or, Bool.false_or, sub1, if_pos, if_neg, wv_57 S, wr_1 S, wr_2 S, wg_0 S, wp_0 S, wg_3 S, wp_3 S, wa_58 S, ws_58 S, p5, i32_div, ed]
theorem c_seekL (S : St h) (H : duS h a) (V : duV F C a D) (O : dOK D) (ha : a ≤ 28) {r p q x st : Int} (p0 : 0 ≤ p) (p1 : p < D 1) (q0 : 0 ≤ q) (q1 : q < D 2) (x0 : 0 ≤ x) (x1 : x < 3) (hG : ∃ s, 0 ≤ s ∧ s < 800 ∧ golB D p q x s = true) : ∀ (n : Nat) (head tail : Int) (o w : Int → Int), 800 - head < n → bfI nxI st o w tail head 0 → oRng o → (∀ j, 0 ≤ j → j < head → golB D p q x (w j) = false) → ∃ o' w' tail' g L, zr 1 40 [yR (some 57), yR (some a), yI (i32 r), yI (i32 p), yI (i32 q), yI (i32 x), yI (i32 st), yI (i32 tail), yI (i32 head), none, none] [] (zw h F (zsW (zsW C 58 o) 59 w)) = some (zI 0, zw h (zsF (zsF F 3 57 (w' g)) 0 57 L) (zsW (zsW C 58 o') 59 w')) ∧ bfI nxI st o' w' tail' g 0 ∧ oRng o' ∧ g < tail' ∧ golB D p q x (w' g) = true ∧ (∀ j, 0 ≤ j → j < g → golB D p q x (w' j) = false) ∧ 0 ≤ L ∧ chn nxI o' w' g L.toNat 0 := by
  have hR := gol_rOK (x := x) O p0 p1 q0 q1 x0
  intro n
  induction n with
  | zero => intro head tail o w hn I ro hb; have := I.1; omega
  | succ n ih =>
    intro head tail o w hn I ro hb
    have i1 := I.1
    have T : tq F C F (zsW (zsW C 58 o) 59 w) := (tq.rfl.sW (by omega) (by omega)).sW (by omega) (by omega)
    have V2 := V.tq T ha
    by_cases ct : tail ≤ head
    · exfalso
      rw [show head = tail by omega] at I hb
      exact bfI_end nxI_OK hR I hG hb
    · have qh := I.2.1 head i1.1 (by omega)
      have gn := noteS_rng (D := D) (w := w head / 80) (k := w head / 10 % 8) (c := w head % 10) (p := p) (q := q)
      have gm := meanS_rng O gn.2
      by_cases cg : golB D p q x (w head) = true
      · have ce := of_decide_eq_true cg
        have S4 := fun F2 => c_stepsTo (F := F2) (z := w head) (C := zsW (zsW C 58 o) 59 w) (st := st) (g := head) (tail := tail) S (by rw [zsW_a (by omega), zsW_s, zsW_s]; exact I) (by rw [zsW_a (by omega), zsW_s]; exact ro) (by omega) (head + 1).toNat head 0 (by omega) i1.1 (by rfl)
        obtain ⟨L, eL, cL⟩ := S4 (zsF F 3 57 (w head))
        rw [zsW_s] at eL
        rw [zsW_a (by omega), zsW_s, zsW_s] at cL
        refine ⟨o, w, tail, head, L, ?_, I, ro, by omega, cg, hb, by omega, by rw [Int.toNat_natCast]; exact cL⟩
        rw [show ((0 : Nat) : Int) = 0 from rfl] at eL
        rw [e_Acts_seek_40]
        simp (disch := omega) only [if_true, if_false, not_true_eq_false, not_false_eq_true, zoI_s, zoR_s, zoH_s, zoL_s, zbI_s, zbV_s, zbR_s, zbL_s, zif_dec, i32_0, ne_eq, i32_lt, i32_le, i32_eq, i32_add, i32_mul, i32_sub, i32_neg, zrz_0, zrz_1, zif_t, zif_f, zsF_s, zsF_k, zsF_a, zsC_s, zsC_a, zsC_i, zsW_s, zsW_a, Int.add_zero, Int.zero_add, true_and, false_and, and_false, Bool.false_eq_true, decide_true, decide_false, Bool.true_and, Bool.false_and, Bool.true_or, Bool.false_or, sub1, if_pos, if_neg, wv_57 S, wr_1 S, wr_2 S, wg_0 S, wp_0 S, wg_3 S, wp_3 S, wa_59 S, ws_59 S, e_Acts_wetIn, e_Acts_keyIn, e_Acts_coldIn, i32_div, i32_rem, dv H, dg_128 H, dp_128 H, dg_129 H, dp_129 H, dg_130 H, dp_130 H, dg_131 H, dp_131 H, dr_132 H, da_132 H, dr_133 H, da_133 H, dr_134 H, da_134 H, dr_135 H, da_135 H, dr_136 H, da_136 H, dr_137 H, da_137 H, c_noteAt H V2 O, c_meaning H V2, ce, e_Acts_stepsTo, eL]
      · have ce : meanS D (noteS D (w head / 80) (w head / 10 % 8) (w head % 10) p q) ≠ x := fun z => cg (decide_eq_true z)
        obtain ⟨o', w', tail', e, J1, J2, J3, J4⟩ := c_spread (F := F) (C := C) S I ro (by omega) rfl
        have t1 := J1.1
        obtain ⟨o2, w2, tail2, g, L, e2, r2⟩ := ih (head + 1) tail' o' w' (by omega) (bfI_next J1 J3) J2 (fun j j0 j1 => by
          rw [J4 j (by omega)]
          by_cases c : j = head
          · rw [c]; simpa using cg
          · exact hb j j0 (by omega))
        refine ⟨o2, w2, tail2, g, L, ?_, r2⟩
        rw [← e2, e_Acts_seek_40]
        simp (disch := omega) only [if_true, if_false, not_true_eq_false, not_false_eq_true, zoI_s, zoR_s, zoH_s, zoL_s, zbI_s, zbV_s, zbR_s, zbL_s, zif_dec, i32_0, ne_eq, i32_lt, i32_le, i32_eq, i32_add, i32_mul, i32_sub, i32_neg, zrz_0, zrz_1, zif_t, zif_f, zsF_s, zsF_k, zsF_a, zsC_s, zsC_a, zsC_i, zsW_s, zsW_a, Int.add_zero, Int.zero_add, true_and, false_and, and_false, Bool.false_eq_true, decide_true, decide_false, Bool.true_and, Bool.false_and, Bool.true_or, Bool.false_or, sub1, if_pos, if_neg, wv_57 S, wr_1 S, wr_2 S, wg_0 S, wp_0 S, wg_3 S, wp_3 S, wa_59 S, ws_59 S, e_Acts_wetIn, e_Acts_keyIn, e_Acts_coldIn, i32_div, i32_rem, dv H, dg_128 H, dp_128 H, dg_129 H, dp_129 H, dg_130 H, dp_130 H, dg_131 H, dp_131 H, dr_132 H, da_132 H, dr_133 H, da_133 H, dr_134 H, da_134 H, dr_135 H, da_135 H, dr_136 H, da_136 H, dr_137 H, da_137 H, c_noteAt H V2 O, c_meaning H V2, e, d_Acts_seek_40_w9, d_Acts_seek_40_w10]
end RD
