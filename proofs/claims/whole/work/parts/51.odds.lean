/-! long numbers -/
theorem i64_add (a b : Int) : i64 a + i64 b = i64 (a + b) := (Int64.ofInt_add a b).symm
theorem i64_mul (a b : Int) : i64 a * i64 b = i64 (a * b) := (Int64.ofInt_mul a b).symm
theorem i64_sub (a b : Int) : i64 a - i64 b = i64 (a - b) := (Int64.ofInt_sub a b).symm
theorem i64_0 : (0 : Int64) = i64 0 := by decide
theorem i64_int {a : Int} (h1 : -9223372036854775808 ≤ a) (h2 : a < 9223372036854775808) : (i64 a).toInt = a := Int64.toInt_ofInt_of_le h1 h2
theorem i64_lt {a b : Int} (h1 : -9223372036854775808 ≤ a) (h2 : a < 9223372036854775808) (h3 : -9223372036854775808 ≤ b) (h4 : b < 9223372036854775808) : (i64 a < i64 b) = (a < b) := by
  rw [eq_iff_iff, Int64.lt_iff_toInt_lt, i64_int h1 h2, i64_int h3 h4]
theorem i64_eq {a b : Int} (h1 : -9223372036854775808 ≤ a) (h2 : a < 9223372036854775808) (h3 : -9223372036854775808 ≤ b) (h4 : b < 9223372036854775808) : (i64 a = i64 b) = (a = b) := by
  rw [eq_iff_iff, ← Int64.toInt_inj, i64_int h1 h2, i64_int h3 h4]
theorem i64_div {a b : Int} (h1 : 0 ≤ a) (h2 : a < 9223372036854775808) (h3 : 0 < b) (h4 : b < 9223372036854775808) : i64 a / i64 b = i64 (a / b) := by
  rw [← Int64.toInt_inj, Int64.toInt_div, i64_int (by omega) h2, i64_int (by omega) h4, Int.tdiv_eq_ediv_of_nonneg h1]
  have g1 : 0 ≤ a / b := Int.ediv_nonneg h1 (by omega)
  have g2 : a / b ≤ a := Int.ediv_le_self b h1
  rw [i64_int (by omega) (by omega), Int.bmod_eq_of_le (by omega) (by omega)]
theorem i64_rem {a b : Int} (h1 : 0 ≤ a) (h2 : a < 9223372036854775808) (h3 : 0 < b) (h4 : b < 9223372036854775808) : zremL (i64 a) (i64 b) = i64 (a % b) := by
  unfold zremL
  rw [i64_div h1 h2 h3 h4, i64_mul, i64_sub, Int.emod_def, Int.mul_comm]
theorem i64_of32 {a : Int} (h1 : -2147483648 ≤ a) (h2 : a < 2147483648) : (i32 a).toInt64 = i64 a := by
  rw [← Int64.toInt_inj, Int32.toInt_toInt64, i32_int h1 h2, i64_int (by omega) (by omega)]
theorem cmp_0 {a b : Int} (h1 : -9223372036854775808 ≤ a) (h2 : a < 9223372036854775808) (h3 : -9223372036854775808 ≤ b) (h4 : b < 9223372036854775808) : zcmp (i64 a) (i64 b) = i32 (if b < a then 1 else if a = b then 0 else -1) := by
  unfold zcmp lg_cmp
  have e1 : (i64 a > i64 b) ↔ b < a := (i64_lt h3 h4 h1 h2).to_iff
  by_cases c1 : b < a
  · rw [if_pos c1, if_pos (e1.mpr c1)]; rfl
  · rw [if_neg c1, if_neg (fun z => c1 (e1.mp z))]
    have e := i64_eq h1 h2 h3 h4
    by_cases c2 : a = b
    · rw [if_pos c2, if_pos (e.mpr c2)]; rfl
    · rw [if_neg c2, if_neg (fun z => c2 (e.mp z))]; rfl
/-! common measure -/
def gI (a b : Int) : Int := ((Nat.gcd a.toNat b.toNat : Nat) : Int)
theorem gI_0 {a : Int} (h : 0 ≤ a) : gI a 0 = a := by
  unfold gI
  rw [show (0 : Int).toNat = 0 from rfl, Nat.gcd_zero_right]
  omega
theorem gI_r {a b : Int} (h : 0 ≤ a) (hb : 0 < b) : gI a b = gI b (a % b) := by
  obtain ⟨n, rfl⟩ := Int.eq_ofNat_of_zero_le h
  obtain ⟨m, rfl⟩ := Int.eq_ofNat_of_zero_le (show 0 ≤ b by omega)
  unfold gI
  rw [Int.toNat_natCast, Int.toNat_natCast, show ((n : Int) % (m : Int)).toNat = n % m by rw [← Int.natCast_emod, Int.toNat_natCast], Nat.gcd_comm n m, Nat.gcd_rec, Nat.gcd_comm]
theorem gI_c (a b : Int) : gI a b = gI b a := by unfold gI; rw [Nat.gcd_comm]
theorem gI_p {a b : Int} (h : 0 < a) : 0 < gI a b := by
  unfold gI
  have : 0 < Nat.gcd a.toNat b.toNat := Nat.gcd_pos_of_pos_left _ (by omega)
  omega
theorem gI_le {a b : Int} (h : 0 < a) : gI a b ≤ a := by
  unfold gI
  have : Nat.gcd a.toNat b.toNat ≤ a.toNat := Nat.gcd_le_left _ (by omega)
  omega
theorem eu_pot {j P Q : Nat} (h : 5 ^ (j + 1) * P < 8 ^ (j + 1) * 13) (hq : 8 * Q ≤ 5 * P) : 5 ^ j * Q < 8 ^ j * 13 := by
  have e1 : 5 ^ (j + 1) * P = 5 ^ j * (5 * P) := by rw [Nat.pow_succ, Nat.mul_assoc]
  have e2 : 8 ^ (j + 1) * 13 = 8 * (8 ^ j * 13) := by rw [Nat.pow_succ, Nat.mul_comm (8 ^ j) 8, Nat.mul_assoc]
  have e3 : 5 ^ j * (8 * Q) ≤ 5 ^ j * (5 * P) := Nat.mul_le_mul_left _ hq
  have e4 : 5 ^ j * (8 * Q) = 8 * (5 ^ j * Q) := by rw [← Nat.mul_assoc, Nat.mul_comm (5 ^ j) 8, Nat.mul_assoc]
  omega
def lstT (u a b : Int) : Int := if a ≤ 0 then -1 else (if b = 0 then u else a) / gI a u
theorem c_leastL {h : zHeap} {u z b : Int} (hb : inI b) (u0 : 0 ≤ u) (u1 : u < 9223372036854775808) (z0 : 0 ≤ z) (z1 : z < 9223372036854775808) : ∀ (j : Nat) (i x y : Int), i + j = 100 → 0 ≤ i → 0 < x → x < 9223372036854775808 → 0 ≤ y → y ≤ x → 5 ^ j * (8 * x.toNat + 5 * y.toNat) < 8 ^ j * 13 → zr 198 12 [yL (i64 u), none, yL (i64 z), none, yI (i32 b), yL (i64 x), none, yL (i64 y), none, yI (i32 i), none, none] [] h = some (zL (i64 ((if b = 0 then u else z) / gI x y)), h) := by
  unfold inI at hb
  intro j
  induction j with
  | zero =>
    intro i x y hi i0 x0 x1 y0 y1 hp
    have ey : y = 0 := by
      simp only [Nat.pow_zero, Nat.one_mul] at hp
      omega
    rw [ey, gI_0 (by omega), e_Main_leastTerm_12]
    by_cases cb : b = 0
    · simp (disch := omega) only [if_true, if_false, not_true_eq_false, not_false_eq_true, zoI_s, zoR_s, zoH_s, zoL_s, zbI_s, zbV_s, zbR_s, zbL_s, zif_dec, i32_0, ne_eq, i32_lt, i32_le, i32_eq, i32_add, i32_mul, i32_sub, i32_neg, zrz_0, zrz_1, zif_t, zif_f, zsF_s, zsF_k, zsF_a, zsC_s, zsC_a, zsC_i, zsW_s, zsW_a, Int.add_zero, Int.zero_add, true_and, false_and, and_false, Bool.false_eq_true, decide_true, decide_false, Bool.true_and, Bool.false_and, Bool.true_or, Bool.false_or, sub1, if_pos, if_neg, cmp_0, i64_0, i64_eq, i64_div]
    · simp (disch := omega) only [if_true, if_false, not_true_eq_false, not_false_eq_true, zoI_s, zoR_s, zoH_s, zoL_s, zbI_s, zbV_s, zbR_s, zbL_s, zif_dec, i32_0, ne_eq, i32_lt, i32_le, i32_eq, i32_add, i32_mul, i32_sub, i32_neg, zrz_0, zrz_1, zif_t, zif_f, zsF_s, zsF_k, zsF_a, zsC_s, zsC_a, zsC_i, zsW_s, zsW_a, Int.add_zero, Int.zero_add, true_and, false_and, and_false, Bool.false_eq_true, decide_true, decide_false, Bool.true_and, Bool.false_and, Bool.true_or, Bool.false_or, sub1, if_pos, if_neg, cmp_0, i64_0, i64_eq, i64_div]
  | succ j ih =>
    intro i x y hi i0 x0 x1 y0 y1 hp
    by_cases cy : y = 0
    · rw [cy, gI_0 (by omega), e_Main_leastTerm_12]
      by_cases cb : b = 0
      · simp (disch := omega) only [if_true, if_false, not_true_eq_false, not_false_eq_true, zoI_s, zoR_s, zoH_s, zoL_s, zbI_s, zbV_s, zbR_s, zbL_s, zif_dec, i32_0, ne_eq, i32_lt, i32_le, i32_eq, i32_add, i32_mul, i32_sub, i32_neg, zrz_0, zrz_1, zif_t, zif_f, zsF_s, zsF_k, zsF_a, zsC_s, zsC_a, zsC_i, zsW_s, zsW_a, Int.add_zero, Int.zero_add, true_and, false_and, and_false, Bool.false_eq_true, decide_true, decide_false, Bool.true_and, Bool.false_and, Bool.true_or, Bool.false_or, sub1, if_pos, if_neg, cmp_0, i64_0, i64_eq, i64_div]
      · simp (disch := omega) only [if_true, if_false, not_true_eq_false, not_false_eq_true, zoI_s, zoR_s, zoH_s, zoL_s, zbI_s, zbV_s, zbR_s, zbL_s, zif_dec, i32_0, ne_eq, i32_lt, i32_le, i32_eq, i32_add, i32_mul, i32_sub, i32_neg, zrz_0, zrz_1, zif_t, zif_f, zsF_s, zsF_k, zsF_a, zsC_s, zsC_a, zsC_i, zsW_s, zsW_a, Int.add_zero, Int.zero_add, true_and, false_and, and_false, Bool.false_eq_true, decide_true, decide_false, Bool.true_and, Bool.false_and, Bool.true_or, Bool.false_or, sub1, if_pos, if_neg, cmp_0, i64_0, i64_eq, i64_div]
    · have r0 := Int.emod_nonneg x (show y ≠ 0 from cy)
      have r1 := Int.emod_lt_of_pos x (show 0 < y by omega)
      have rx : y + x % y ≤ x := by
        have d := Int.emod_add_mul_ediv x y
        have q1 : 1 ≤ x / y := (Int.le_ediv_iff_mul_le (by omega)).mpr (by omega)
        have q2 : y * 1 ≤ y * (x / y) := Int.mul_le_mul_of_nonneg_left q1 y0
        omega
      rw [gI_r (by omega) (by omega), ← ih (i + 1) y (x % y) (by omega) (by omega) (by omega) (by omega) r0 (by omega) (eu_pot hp (by omega)), e_Main_leastTerm_12]
      simp (disch := omega) only [if_true, if_false, not_true_eq_false, not_false_eq_true, zoI_s, zoR_s, zoH_s, zoL_s, zbI_s, zbV_s, zbR_s, zbL_s, zif_dec, i32_0, ne_eq, i32_lt, i32_le, i32_eq, i32_add, i32_mul, i32_sub, i32_neg, zrz_0, zrz_1, zif_t, zif_f, zsF_s, zsF_k, zsF_a, zsC_s, zsC_a, zsC_i, zsW_s, zsW_a, Int.add_zero, Int.zero_add, true_and, false_and, and_false, Bool.false_eq_true, decide_true, decide_false, Bool.true_and, Bool.false_and, Bool.true_or, Bool.false_or, sub1, if_pos, if_neg, cmp_0, i64_0, i64_eq, i64_rem, d_Main_leastTerm_12_w10]
theorem c_leastTerm {h : zHeap} {u z b : Int} (hb : inI b) (u0 : 0 ≤ u) (u1 : u ≤ z) (z1 : z ≤ 1000000000000000000) : zc 198 [zL (i64 u), zL (i64 z), zI (i32 b)] h = some (zL (i64 (lstT u z b)), h) := by
  unfold lstT
  rw [e_Main_leastTerm]
  by_cases c : z ≤ 0
  · rw [if_pos c]
    by_cases c2 : z = 0
    · simp (disch := omega) only [if_true, if_false, not_true_eq_false, not_false_eq_true, zoI_s, zoR_s, zoH_s, zoL_s, zbI_s, zbV_s, zbR_s, zbL_s, zif_dec, i32_0, ne_eq, i32_lt, i32_le, i32_eq, i32_add, i32_mul, i32_sub, i32_neg, zrz_0, zrz_1, zif_t, zif_f, zsF_s, zsF_k, zsF_a, zsC_s, zsC_a, zsC_i, zsW_s, zsW_a, Int.add_zero, Int.zero_add, true_and, false_and, and_false, Bool.false_eq_true, decide_true, decide_false, Bool.true_and, Bool.false_and, Bool.true_or, Bool.false_or, sub1, if_pos, if_neg, cmp_0]
    · omega
  · rw [if_neg c, ← c_leastL hb u0 (by omega) (by omega) (by omega) 100 0 z u (by omega) (by omega) (by omega) (by omega) u0 u1 (by
      have h1 : 8 * z.toNat + 5 * u.toNat ≤ 13000000000000000000 := by omega
      have h2 : 5 ^ 100 * (8 * z.toNat + 5 * u.toNat) ≤ 5 ^ 100 * 13000000000000000000 := Nat.mul_le_mul_left _ h1
      have h3 : 5 ^ 100 * 13000000000000000000 < 8 ^ 100 * 13 := by decide +kernel
      exact Nat.lt_of_le_of_lt h2 h3)]
    simp (disch := omega) only [if_true, if_false, not_true_eq_false, not_false_eq_true, zoI_s, zoR_s, zoH_s, zoL_s, zbI_s, zbV_s, zbR_s, zbL_s, zif_dec, i32_0, ne_eq, i32_lt, i32_le, i32_eq, i32_add, i32_mul, i32_sub, i32_neg, zrz_0, zrz_1, zif_t, zif_f, zsF_s, zsF_k, zsF_a, zsC_s, zsC_a, zsC_i, zsW_s, zsW_a, Int.add_zero, Int.zero_add, true_and, false_and, and_false, Bool.false_eq_true, decide_true, decide_false, Bool.true_and, Bool.false_and, Bool.true_or, Bool.false_or, sub1, if_pos, if_neg, cmp_0]
theorem m_commonL {h : zHeap} {u z : Int} : ∀ (n : Nat) (x y : Int), y < n → 0 ≤ x → x < 9223372036854775808 → 0 ≤ y → y < 9223372036854775808 → zr 313 4 [yL (i64 u), none, yL (i64 z), none, yL (i64 x), none, yL (i64 y), none, none, none] [] h = some (zL (i64 (gI x y)), h) := by
  intro n
  induction n with
  | zero => intro x y hn _ _ y0; omega
  | succ n ih =>
    intro x y hn x0 x1 y0 y1
    by_cases cy : y = 0
    · rw [cy, gI_0 x0, e_Model_common_4]
      simp (disch := omega) only [if_true, if_false, not_true_eq_false, not_false_eq_true, zoI_s, zoR_s, zoH_s, zoL_s, zbI_s, zbV_s, zbR_s, zbL_s, zif_dec, i32_0, ne_eq, i32_lt, i32_le, i32_eq, i32_add, i32_mul, i32_sub, i32_neg, zrz_0, zrz_1, zif_t, zif_f, zsF_s, zsF_k, zsF_a, zsC_s, zsC_a, zsC_i, zsW_s, zsW_a, Int.add_zero, Int.zero_add, true_and, false_and, and_false, Bool.false_eq_true, decide_true, decide_false, Bool.true_and, Bool.false_and, Bool.true_or, Bool.false_or, sub1, if_pos, if_neg, cmp_0]
    · have r0 := Int.emod_nonneg x (show y ≠ 0 from cy)
      have r1 := Int.emod_lt_of_pos x (show 0 < y by omega)
      rw [gI_r x0 (by omega), ← ih y (x % y) (by omega) (by omega) y1 r0 (by omega), e_Model_common_4]
      simp (disch := omega) only [if_true, if_false, not_true_eq_false, not_false_eq_true, zoI_s, zoR_s, zoH_s, zoL_s, zbI_s, zbV_s, zbR_s, zbL_s, zif_dec, i32_0, ne_eq, i32_lt, i32_le, i32_eq, i32_add, i32_mul, i32_sub, i32_neg, zrz_0, zrz_1, zif_t, zif_f, zsF_s, zsF_k, zsF_a, zsC_s, zsC_a, zsC_i, zsW_s, zsW_a, Int.add_zero, Int.zero_add, true_and, false_and, and_false, Bool.false_eq_true, decide_true, decide_false, Bool.true_and, Bool.false_and, Bool.true_or, Bool.false_or, sub1, if_pos, if_neg, cmp_0, i64_0, i64_eq, i64_rem, d_Model_common_4_w8]
theorem m_common {h : zHeap} {x y : Int} (x0 : 0 ≤ x) (x1 : x < 9223372036854775808) (y0 : 0 ≤ y) (y1 : y < 9223372036854775808) : zc 313 [zL (i64 x), zL (i64 y)] h = some (zL (i64 (gI x y)), h) := by
  rw [e_Model_common]
  exact m_commonL (y + 1).toNat x y (by omega) x0 x1 y0 y1
/-! odds -/
def oddF (D L : Int → Int) (p q x : Int) (c u : Int) : Int := if meanS D (nuS D L p q c) = x then u + 1 else u
def oddU (D L : Int → Int) (p q x k : Int) : Int := foldF (fun c u => if soB D L c = true then oddF D L p q x c u else u) 0 k.toNat 0
theorem oddU_rng (D L : Int → Int) (p q x : Int) : ∀ k, 0 ≤ k → k ≤ 80 → 0 ≤ oddU D L p q x k ∧ oddU D L p q x k ≤ cnS (soB D L) k := by
  intro k k0 k1
  have := foldI (fun c u => if soB D L c = true then oddF D L p q x c u else u) (fun k u => 0 ≤ u ∧ u ≤ cnS (soB D L) k) 0 k k0 (fun c u c0 c1 hi => by
    rw [cnS_succ _ c0]
    by_cases ct : soB D L c = true
    · rw [if_pos ct, if_pos ct]
      unfold oddF
      split <;> omega
    · rw [if_neg ct, if_neg ct]; omega) 0 (by rw [cnS_0]; omega)
  rw [Int.sub_zero] at this
  exact this
def oddS (D L : Int → Int) (p q x b : Int) : Int := lstT (oddU D L p q x 80) (cnS (soB D L) 80) b
section OD
variable {h : zHeap} {F : Nat → Nat → Int} {C : Nat → Int → Int} {a : Nat} {D L : Int → Int}
theorem c_answering (S : St h) (H : duS h a) (V : duV F C a D) (O : dOK D) (U : susP F C D L) (P : lOK L) {p q x : Int} (p0 : 0 ≤ p) (p1 : p < D 1) (q0 : 0 ≤ q) (q1 : q < D 2) (x0 : 0 ≤ x) (x1 : x < 3) : zc 133 [zR (some 65), zR (some a), zI (i32 ((L 0))), zI (i32 p), zI (i32 q), zI (i32 x)] (zw h F C) = some (zI (i32 (oddU D L p q x 80)), zw h F C) := by
  have l0 := P.1
  have b6 := O.2.2.2.1
  have cr := cnS_rng (soB D L) (k := 80) (by omega)
  have nx : ∀ c, 0 ≤ c → c < 80 → zc 131 [zR (some 65), zR (some a), zI (i32 c), zI (i32 ((L 0))), zI (i32 p), zI (i32 q)] (zw h F C) = some (zI (i32 (nuS D L p q c)), zw h F C) := by
    intro c c0 c1
    have dr := driS_rng (w := c / 8) (n := L 0) (by omega) (by omega) l0.1
    rw [e_Suspects_nextNote]
    simp (disch := omega) only [if_true, if_false, not_true_eq_false, not_false_eq_true, zoI_s, zoR_s, zoH_s, zoL_s, zbI_s, zbV_s, zbR_s, zbL_s, zif_dec, i32_0, ne_eq, i32_lt, i32_le, i32_eq, i32_add, i32_mul, i32_sub, i32_neg, zrz_0, zrz_1, zif_t, zif_f, zsF_s, zsF_k, zsF_a, zsC_s, zsC_a, zsC_i, zsW_s, zsW_a, Int.add_zero, Int.zero_add, true_and, false_and, and_false, Bool.false_eq_true, decide_true, decide_false, Bool.true_and, Bool.false_and, Bool.true_or, Bool.false_or, sub1, if_pos, if_neg, i32_div, i32_rem, c_dried, dv H, dg_128 H, dp_128 H, dg_129 H, dp_129 H, dg_130 H, dp_130 H, dg_131 H, dp_131 H, dr_132 H, da_132 H, dr_133 H, da_133 H, dr_134 H, da_134 H, dr_135 H, da_135 H, dr_136 H, da_136 H, dr_137 H, da_137 H, V.1.2.2.2, c_noteAt H V O]
    rfl
  have L1 := (zfoI (fun i u => zr 133 4 [yR (some 65), yR (some a), yI (i32 ((L 0))), yI (i32 p), yI (i32 q), yI (i32 x), yI (i32 u), yI (i32 i)] [] (zw h F C)) (fun i u => oddF D L p q x (C 66 i) u) (fun i u => 0 ≤ u ∧ u ≤ i) 0 (cnS (soB D L) 80) (by omega) (fun i u i0 i1 hi => by
    have ci := U.2 i i0 i1
    have ne := nx (C 66 i) ci.1 ci.2.1
    have vr : -1 ≤ nuS D L p q (C 66 i) ∧ nuS D L p q (C 66 i) ≤ 7 := noteS_rng
    have mr := meanS_rng O vr.2
    rw [e_Suspects_answering_4]
    unfold oddF
    by_cases c : meanS D (nuS D L p q (C 66 i)) = x
    · simp (disch := omega) only [if_true, if_false, not_true_eq_false, not_false_eq_true, zoI_s, zoR_s, zoH_s, zoL_s, zbI_s, zbV_s, zbR_s, zbL_s, zif_dec, i32_0, ne_eq, i32_lt, i32_le, i32_eq, i32_add, i32_mul, i32_sub, i32_neg, zrz_0, zrz_1, zif_t, zif_f, zsF_s, zsF_k, zsF_a, zsC_s, zsC_a, zsC_i, zsW_s, zsW_a, Int.add_zero, Int.zero_add, true_and, false_and, and_false, Bool.false_eq_true, decide_true, decide_false, Bool.true_and, Bool.false_and, Bool.true_or, Bool.false_or, sub1, if_pos, if_neg, wv_65 S, wr_449 S, wr_450 S, wg_448 S, wp_448 S, U.1, wa_66 S, ws_66 S, ne, dv H, dg_128 H, dp_128 H, dg_129 H, dp_129 H, dg_130 H, dp_130 H, dg_131 H, dp_131 H, dr_132 H, da_132 H, dr_133 H, da_133 H, dr_134 H, da_134 H, dr_135 H, da_135 H, dr_136 H, da_136 H, dr_137 H, da_137 H, c_meaning H V]
    · simp (disch := omega) only [if_true, if_false, not_true_eq_false, not_false_eq_true, zoI_s, zoR_s, zoH_s, zoL_s, zbI_s, zbV_s, zbR_s, zbL_s, zif_dec, i32_0, ne_eq, i32_lt, i32_le, i32_eq, i32_add, i32_mul, i32_sub, i32_neg, zrz_0, zrz_1, zif_t, zif_f, zsF_s, zsF_k, zsF_a, zsC_s, zsC_a, zsC_i, zsW_s, zsW_a, Int.add_zero, Int.zero_add, true_and, false_and, and_false, Bool.false_eq_true, decide_true, decide_false, Bool.true_and, Bool.false_and, Bool.true_or, Bool.false_or, sub1, if_pos, if_neg, wv_65 S, wr_449 S, wr_450 S, wg_448 S, wp_448 S, U.1, wa_66 S, ws_66 S, ne, dv H, dg_128 H, dp_128 H, dg_129 H, dp_129 H, dg_130 H, dp_130 H, dg_131 H, dp_131 H, dr_132 H, da_132 H, dr_133 H, da_133 H, dr_134 H, da_134 H, dr_135 H, da_135 H, dr_136 H, da_136 H, dr_137 H, da_137 H, c_meaning H V]) (fun i u _ _ hi => by unfold oddF; split <;> omega) 0 (by omega)).1
  rw [Int.sub_zero, lst_fold U.2 (fun c u => oddF D L p q x c u)] at L1
  rw [e_Suspects_answering, L1, e_Suspects_answering_4]
  simp (disch := omega) only [if_true, if_false, not_true_eq_false, not_false_eq_true, zoI_s, zoR_s, zoH_s, zoL_s, zbI_s, zbV_s, zbR_s, zbL_s, zif_dec, i32_0, ne_eq, i32_lt, i32_le, i32_eq, i32_add, i32_mul, i32_sub, i32_neg, zrz_0, zrz_1, zif_t, zif_f, zsF_s, zsF_k, zsF_a, zsC_s, zsC_a, zsC_i, zsW_s, zsW_a, Int.add_zero, Int.zero_add, true_and, false_and, and_false, Bool.false_eq_true, decide_true, decide_false, Bool.true_and, Bool.false_and, Bool.true_or, Bool.false_or, sub1, if_pos, if_neg, wv_65 S, wr_449 S, wr_450 S, wg_448 S, wp_448 S, U.1]
  rfl
theorem m_oddsL (S : St h) (M : moV F C D) (O : dOK D) (N : moL F C L) (P : lOK L) (T : thB D L = true) {d l p q x b : Int} (p0 : 0 ≤ p) (p1 : p < D 1) (q0 : 0 ≤ q) (q1 : q < D 2) (x0 : 0 ≤ x) (x1 : x ≤ 2) (hb : inI b) (w u v : Int) : ∃ w' u' v', zr 315 32 [yR (some 72), yI (i32 d), yI (i32 l), yI (i32 p), yI (i32 q), yI (i32 x), yI (i32 b), yL (i64 0), none, yL (i64 0), none, yI (i32 0)] [] (zw h (mlF F w u v) C) = some (zL (i64 (oddS D L p q x b)), zw h (mlF F w' u' v') C) := by
  have l0 := P.1
  have n0 := N.1
  have cr := cnS_rng (soB D L) (k := 80) (by omega)
  have ur := oddU_rng D L p q x 80 (by omega) (by omega)
  unfold inI at hb
  obtain ⟨t, L1, _⟩ := zfoJ (fun c a (t : Int × Int × Int) => zr 315 32 [yR (some 72), yI (i32 d), yI (i32 l), yI (i32 p), yI (i32 q), yI (i32 x), yI (i32 b), yL (i64 a), none, yL (i64 (cnS (soB D L) c)), none, yI (i32 c)] [] (zw h (mlF F t.1 t.2.1 t.2.2) C)) (fun c u => if soB D L c = true then oddF D L p q x c u else u) (fun c a _ => 0 ≤ a ∧ a ≤ c) 0 80 (by omega) (fun c a t c0 c1 hi => by
    have cc := cnS_rng (soB D L) c0
    have cs := cnS_succ (soB D L) c0
    obtain ⟨w', u', v', e⟩ := m_isSo S M O N P T c0 c1 t.1 t.2.1 t.2.2
    have e0 : C 73 (F 808 72) = L 0 := N.at (j := 0) (by omega) (by omega) (by omega)
    have ne := m_noteBy S M O (c := c) (n := L 0) c0 c1 l0.1 (by omega) p0 p1 q0 q1 w' u' v'
    rw [show noteS D (driS (c / 8) (L 0)) (c % 8) (D 3) p q = nuS D L p q c from rfl] at ne
    have vr : -1 ≤ nuS D L p q c ∧ nuS D L p q c ≤ 7 := noteS_rng
    have mr := meanS_rng O vr.2
    unfold oddF
    cases ct : soB D L c with
    | true =>
      rw [ct] at e cs
      rw [if_pos rfl] at cs
      refine ⟨(driS (c / 8) (L 0), c % 8, D 3), ?_, by rw [if_pos rfl]; split <;> omega⟩
      rw [e_Model_odds_32, cs]
      by_cases cm : meanS D (nuS D L p q c) = x
      · simp (disch := omega) only [if_true, if_false, not_true_eq_false, not_false_eq_true, zoI_s, zoR_s, zoH_s, zoL_s, zbI_s, zbV_s, zbR_s, zbL_s, zif_dec, i32_0, ne_eq, i32_lt, i32_le, i32_eq, i32_add, i32_mul, i32_sub, i32_neg, zrz_0, zrz_1, zif_t, zif_f, zsF_s, zsF_k, zsF_a, zsC_s, zsC_a, zsC_i, zsW_s, zsW_a, Int.add_zero, Int.zero_add, true_and, false_and, and_false, Bool.false_eq_true, decide_true, decide_false, Bool.true_and, Bool.false_and, Bool.true_or, Bool.false_or, sub1, if_pos, if_neg, wv_72 S, wr_768 S, wr_769 S, wr_777 S, wr_785 S, wr_786 S, wr_787 S, wr_789 S, wr_790 S, wr_791 S, wr_802 S, wr_803 S, wr_804 S, wr_805 S, wr_806 S, wr_807 S, wr_809 S, wg_770 S, wp_770 S, wg_771 S, wp_771 S, wg_772 S, wp_772 S, wg_773 S, wp_773 S, wg_774 S, wp_774 S, wg_775 S, wp_775 S, wg_776 S, wp_776 S, wg_778 S, wp_778 S, wg_779 S, wp_779 S, wg_780 S, wp_780 S, wg_781 S, wp_781 S, wg_782 S, wp_782 S, wg_783 S, wp_783 S, wg_784 S, wp_784 S, wg_788 S, wp_788 S, wg_792 S, wp_792 S, wg_793 S, wp_793 S, wg_794 S, wp_794 S, wg_795 S, wp_795 S, wg_796 S, wp_796 S, wg_797 S, wp_797 S, wg_798 S, wp_798 S, wg_799 S, wp_799 S, wg_800 S, wp_800 S, wg_801 S, wp_801 S, wg_808 S, wp_808 S, wg_810 S, wp_810 S, wa_73 S, ws_73 S, mlF_o, e, e0, ne, m_meant S (M.ml _ _ _), i64_add]
      · simp (disch := omega) only [if_true, if_false, not_true_eq_false, not_false_eq_true, zoI_s, zoR_s, zoH_s, zoL_s, zbI_s, zbV_s, zbR_s, zbL_s, zif_dec, i32_0, ne_eq, i32_lt, i32_le, i32_eq, i32_add, i32_mul, i32_sub, i32_neg, zrz_0, zrz_1, zif_t, zif_f, zsF_s, zsF_k, zsF_a, zsC_s, zsC_a, zsC_i, zsW_s, zsW_a, Int.add_zero, Int.zero_add, true_and, false_and, and_false, Bool.false_eq_true, decide_true, decide_false, Bool.true_and, Bool.false_and, Bool.true_or, Bool.false_or, sub1, if_pos, if_neg, wv_72 S, wr_768 S, wr_769 S, wr_777 S, wr_785 S, wr_786 S, wr_787 S, wr_789 S, wr_790 S, wr_791 S, wr_802 S, wr_803 S, wr_804 S, wr_805 S, wr_806 S, wr_807 S, wr_809 S, wg_770 S, wp_770 S, wg_771 S, wp_771 S, wg_772 S, wp_772 S, wg_773 S, wp_773 S, wg_774 S, wp_774 S, wg_775 S, wp_775 S, wg_776 S, wp_776 S, wg_778 S, wp_778 S, wg_779 S, wp_779 S, wg_780 S, wp_780 S, wg_781 S, wp_781 S, wg_782 S, wp_782 S, wg_783 S, wp_783 S, wg_784 S, wp_784 S, wg_788 S, wp_788 S, wg_792 S, wp_792 S, wg_793 S, wp_793 S, wg_794 S, wp_794 S, wg_795 S, wp_795 S, wg_796 S, wp_796 S, wg_797 S, wp_797 S, wg_798 S, wp_798 S, wg_799 S, wp_799 S, wg_800 S, wp_800 S, wg_801 S, wp_801 S, wg_808 S, wp_808 S, wg_810 S, wp_810 S, wa_73 S, ws_73 S, mlF_o, e, e0, ne, m_meant S (M.ml _ _ _), i64_add]
    | false =>
      rw [ct] at e cs
      rw [if_neg (by simp), Int.add_zero] at cs
      refine ⟨(w', u', v'), ?_, by rw [if_neg (by simp)]; omega⟩
      rw [e_Model_odds_32, cs]
      simp (disch := omega) only [if_true, if_false, not_true_eq_false, not_false_eq_true, zoI_s, zoR_s, zoH_s, zoL_s, zbI_s, zbV_s, zbR_s, zbL_s, zif_dec, i32_0, ne_eq, i32_lt, i32_le, i32_eq, i32_add, i32_mul, i32_sub, i32_neg, zrz_0, zrz_1, zif_t, zif_f, zsF_s, zsF_k, zsF_a, zsC_s, zsC_a, zsC_i, zsW_s, zsW_a, Int.add_zero, Int.zero_add, true_and, false_and, and_false, Bool.false_eq_true, decide_true, decide_false, Bool.true_and, Bool.false_and, Bool.true_or, Bool.false_or, sub1, if_pos, if_neg, wv_72 S, wr_768 S, wr_769 S, wr_777 S, wr_785 S, wr_786 S, wr_787 S, wr_789 S, wr_790 S, wr_791 S, wr_802 S, wr_803 S, wr_804 S, wr_805 S, wr_806 S, wr_807 S, wr_809 S, wg_770 S, wp_770 S, wg_771 S, wp_771 S, wg_772 S, wp_772 S, wg_773 S, wp_773 S, wg_774 S, wp_774 S, wg_775 S, wp_775 S, wg_776 S, wp_776 S, wg_778 S, wp_778 S, wg_779 S, wp_779 S, wg_780 S, wp_780 S, wg_781 S, wp_781 S, wg_782 S, wp_782 S, wg_783 S, wp_783 S, wg_784 S, wp_784 S, wg_788 S, wp_788 S, wg_792 S, wp_792 S, wg_793 S, wp_793 S, wg_794 S, wp_794 S, wg_795 S, wp_795 S, wg_796 S, wp_796 S, wg_797 S, wp_797 S, wg_798 S, wp_798 S, wg_799 S, wp_799 S, wg_800 S, wp_800 S, wg_801 S, wp_801 S, wg_808 S, wp_808 S, wg_810 S, wp_810 S, e]) 0 (w, u, v) (by omega)
  rw [cnS_0] at L1
  have L1' : zr 315 32 [yR (some 72), yI (i32 d), yI (i32 l), yI (i32 p), yI (i32 q), yI (i32 x), yI (i32 b), yL (i64 0), none, yL (i64 0), none, yI (i32 0)] [] (zw h (mlF F w u v) C) = zr 315 32 [yR (some 72), yI (i32 d), yI (i32 l), yI (i32 p), yI (i32 q), yI (i32 x), yI (i32 b), yL (i64 (oddU D L p q x 80)), none, yL (i64 (cnS (soB D L) 80)), none, yI (i32 80)] [] (zw h (mlF F t.1 t.2.1 t.2.2) C) := L1
  refine ⟨t.1, t.2.1, t.2.2, ?_⟩
  rw [L1', e_Model_odds_32]
  unfold oddS lstT
  by_cases c0 : cnS (soB D L) 80 = 0
  · rw [if_pos (by omega)]
    simp (disch := omega) only [if_true, if_false, not_true_eq_false, not_false_eq_true, zoI_s, zoR_s, zoH_s, zoL_s, zbI_s, zbV_s, zbR_s, zbL_s, zif_dec, i32_0, ne_eq, i32_lt, i32_le, i32_eq, i32_add, i32_mul, i32_sub, i32_neg, zrz_0, zrz_1, zif_t, zif_f, zsF_s, zsF_k, zsF_a, zsC_s, zsC_a, zsC_i, zsW_s, zsW_a, Int.add_zero, Int.zero_add, true_and, false_and, and_false, Bool.false_eq_true, decide_true, decide_false, Bool.true_and, Bool.false_and, Bool.true_or, Bool.false_or, sub1, if_pos, if_neg, cmp_0]
  · have gp := gI_p (a := cnS (soB D L) 80) (b := oddU D L p q x 80) (by omega)
    have gl := gI_le (a := cnS (soB D L) 80) (b := oddU D L p q x 80) (by omega)
    have gc := gI_c (oddU D L p q x 80) (cnS (soB D L) 80)
    rw [if_neg (by omega)]
    by_cases cb : b = 0
    · simp (disch := omega) only [if_true, if_false, not_true_eq_false, not_false_eq_true, zoI_s, zoR_s, zoH_s, zoL_s, zbI_s, zbV_s, zbR_s, zbL_s, zif_dec, i32_0, ne_eq, i32_lt, i32_le, i32_eq, i32_add, i32_mul, i32_sub, i32_neg, zrz_0, zrz_1, zif_t, zif_f, zsF_s, zsF_k, zsF_a, zsC_s, zsC_a, zsC_i, zsW_s, zsW_a, Int.add_zero, Int.zero_add, true_and, false_and, and_false, Bool.false_eq_true, decide_true, decide_false, Bool.true_and, Bool.false_and, Bool.true_or, Bool.false_or, sub1, if_pos, if_neg, cmp_0, m_common, gc, i64_0, i64_eq, i64_div]
    · simp (disch := omega) only [if_true, if_false, not_true_eq_false, not_false_eq_true, zoI_s, zoR_s, zoH_s, zoL_s, zbI_s, zbV_s, zbR_s, zbL_s, zif_dec, i32_0, ne_eq, i32_lt, i32_le, i32_eq, i32_add, i32_mul, i32_sub, i32_neg, zrz_0, zrz_1, zif_t, zif_f, zsF_s, zsF_k, zsF_a, zsC_s, zsC_a, zsC_i, zsW_s, zsW_a, Int.add_zero, Int.zero_add, true_and, false_and, and_false, Bool.false_eq_true, decide_true, decide_false, Bool.true_and, Bool.false_and, Bool.true_or, Bool.false_or, sub1, if_pos, if_neg, cmp_0, m_common, gc, i64_0, i64_eq, i64_div]
end OD
def oddsQ (A : Int → Int) (d l p q x b : Int) : Int := if (0 ≤ d ∧ d < A 0) ∧ (0 ≤ l ∧ l < A 2) ∧ thB (dOf A d) (lOf A l) = true ∧ (0 ≤ p ∧ p < dOf A d 1) ∧ (0 ≤ q ∧ q < dOf A d 2) ∧ (0 ≤ x ∧ x < 3) then oddS (dOf A d) (lOf A l) p q x b else -1
theorem c_odds {d l p q x b : Int} (hd : inI d) (hl : inI l) (hp : inI p) (hq : inI q) (hx : inI x) (hb : inI b) : ans1 182 0 [zI (i32 d), zI (i32 l), zI (i32 p), zI (i32 q), zI (i32 x), zI (i32 b)] (fun A => zL (i64 (oddsQ A d l p q x b))) := by
  intro h F C Q
  have S := Q.1
  have hb' := hb
  unfold inI at hd hl hp hq hx hb
  show ∃ F' C', _ = some (zL (i64 (oddsQ (C 73) d l p q x b)), _) ∧ _
  unfold oddsQ
  by_cases c1 : 0 ≤ d ∧ d < C 73 0
  · have H := Q.dS c1.1 c1.2
    have V := Q.dV c1.1 c1.2
    have O := Q.dO c1.1 c1.2
    have ha : 8 + 13 * d.toNat ≤ 28 := by have := Q.2.2.1.1; omega
    by_cases c2 : 0 ≤ l ∧ l < C 73 2
    · have Hl := Q.lS c2.1 c2.2
      have W := Q.lV c2.1 c2.2
      have P := Q.lO c2.1 c2.2
      have hb2 : 17 + 13 * l.toNat ≤ 31 := by have := Q.2.2.1.2.2; omega
      have ek := c_knows H V O Hl W P
      cases ct : thB (dOf (C 73) d) (lOf (C 73) l) with
      | false =>
        rw [ct] at ek
        refine ⟨F, C, ?_, tq.rfl⟩
        rw [if_neg (fun z => by cases z.2.2.1)]
        simp (maxSteps := 2000000) (disch := omega) only [if_true, if_false, not_true_eq_false, not_false_eq_true, zoI_s, zoR_s, zoH_s, zoL_s, zbI_s, zbV_s, zbR_s, zbL_s, zif_dec, i32_0, ne_eq, i32_lt, i32_le, i32_eq, i32_add, i32_mul, i32_sub, i32_neg, zrz_0, zrz_1, zif_t, zif_f, zsF_s, zsF_k, zsF_a, zsC_s, zsC_a, zsC_i, zsW_s, zsW_a, Int.add_zero, Int.zero_add, true_and, false_and, and_false, Bool.false_eq_true, decide_true, decide_false, Bool.true_and, Bool.false_and, Bool.true_or, Bool.false_or, sub1, if_pos, if_neg, wv_0 S, wr_704 S, wr_705 S, wr_706 S, wr_707 S, wr_708 S, wr_709 S, wr_710 S, wr_711 S, tv_1 S, dv H, dg_128 H, dp_128 H, dg_129 H, dp_129 H, dg_130 H, dp_130 H, dg_131 H, dp_131 H, dr_132 H, da_132 H, dr_133 H, da_133 H, dr_134 H, da_134 H, dr_135 H, da_135 H, dr_136 H, da_136 H, dr_137 H, da_137 H, c_dAt Q, c_lAt Q, Option.isNone_some, e_Main_odds, ek]
      | true =>
        rw [ct] at ek
        by_cases g1 : 0 ≤ p ∧ p < dOf (C 73) d 1
        · by_cases g2 : 0 ≤ q ∧ q < dOf (C 73) d 2
          · by_cases g3 : 0 ≤ x ∧ x < 3
            · obtain ⟨f, eg, lp⟩ := c_gather (F := F) (C := C) S H V O ha Hl W hb2 P ct
              have T1 : tq F C (zsF F 448 65 (cnS (soB (dOf (C 73) d) (lOf (C 73) l)) 80)) (zsW C 66 f) := (tq.rfl.sF (by omega) (by omega)).sW (by omega) (by omega)
              have U : susP (zsF F 448 65 (cnS (soB (dOf (C 73) d) (lOf (C 73) l)) 80)) (zsW C 66 f) (dOf (C 73) d) (lOf (C 73) l) := ⟨zsF_s .., by rw [zsW_s]; exact lp⟩
              have V2 := V.tq T1 ha
              have cr := cnS_rng (soB (dOf (C 73) d) (lOf (C 73) l)) (k := 80) (by omega)
              have ur := oddU_rng (dOf (C 73) d) (lOf (C 73) l) p q x 80 (by omega) (by omega)
              have ea := c_answering (x := x) S H V2 O U P g1.1 g1.2 g2.1 g2.2 g3.1 g3.2
              have et := fun h => c_leastTerm (h := h) (u := oddU (dOf (C 73) d) (lOf (C 73) l) p q x 80) (z := cnS (soB (dOf (C 73) d) (lOf (C 73) l)) 80) (b := b) hb' ur.1 ur.2 (by omega)
              refine ⟨_, _, ?_, T1⟩
              rw [if_pos ⟨c1, c2, rfl, g1, g2, g3⟩]
              simp (maxSteps := 2000000) (disch := omega) only [if_true, if_false, not_true_eq_false, not_false_eq_true, zoI_s, zoR_s, zoH_s, zoL_s, zbI_s, zbV_s, zbR_s, zbL_s, zif_dec, i32_0, ne_eq, i32_lt, i32_le, i32_eq, i32_add, i32_mul, i32_sub, i32_neg, zrz_0, zrz_1, zif_t, zif_f, zsF_s, zsF_k, zsF_a, zsC_s, zsC_a, zsC_i, zsW_s, zsW_a, Int.add_zero, Int.zero_add, true_and, false_and, and_false, Bool.false_eq_true, decide_true, decide_false, Bool.true_and, Bool.false_and, Bool.true_or, Bool.false_or, sub1, if_pos, if_neg, wv_0 S, wr_704 S, wr_705 S, wr_706 S, wr_707 S, wr_708 S, wr_709 S, wr_710 S, wr_711 S, tv_1 S, dv H, dg_128 H, dp_128 H, dg_129 H, dp_129 H, dg_130 H, dp_130 H, dg_131 H, dp_131 H, dr_132 H, da_132 H, dr_133 H, da_133 H, dr_134 H, da_134 H, dr_135 H, da_135 H, dr_136 H, da_136 H, dr_137 H, da_137 H, lv Hl, lg_192 Hl, lr_193 Hl, la_193 Hl, lr_194 Hl, la_194 Hl, lr_195 Hl, la_195 Hl, c_dAt Q, c_lAt Q, Option.isNone_some, e_Main_odds, ek, c_hasPlayer H V O, c_hasQuestion H V O, c_isAnswer, ib_0, eg, W.1, wv_65 S, wr_449 S, wr_450 S, wg_448 S, wp_448 S, ea, i64_of32, et]
              rfl
            · refine ⟨F, C, ?_, tq.rfl⟩
              rw [if_neg (fun z => g3 z.2.2.2.2.2)]
              simp (maxSteps := 2000000) (disch := omega) only [if_true, if_false, not_true_eq_false, not_false_eq_true, zoI_s, zoR_s, zoH_s, zoL_s, zbI_s, zbV_s, zbR_s, zbL_s, zif_dec, i32_0, ne_eq, i32_lt, i32_le, i32_eq, i32_add, i32_mul, i32_sub, i32_neg, zrz_0, zrz_1, zif_t, zif_f, zsF_s, zsF_k, zsF_a, zsC_s, zsC_a, zsC_i, zsW_s, zsW_a, Int.add_zero, Int.zero_add, true_and, false_and, and_false, Bool.false_eq_true, decide_true, decide_false, Bool.true_and, Bool.false_and, Bool.true_or, Bool.false_or, sub1, if_pos, if_neg, wv_0 S, wr_704 S, wr_705 S, wr_706 S, wr_707 S, wr_708 S, wr_709 S, wr_710 S, wr_711 S, tv_1 S, dv H, dg_128 H, dp_128 H, dg_129 H, dp_129 H, dg_130 H, dp_130 H, dg_131 H, dp_131 H, dr_132 H, da_132 H, dr_133 H, da_133 H, dr_134 H, da_134 H, dr_135 H, da_135 H, dr_136 H, da_136 H, dr_137 H, da_137 H, c_dAt Q, c_lAt Q, Option.isNone_some, e_Main_odds, ek, c_hasPlayer H V O, c_hasQuestion H V O, c_isAnswer, ib_0]
          · refine ⟨F, C, ?_, tq.rfl⟩
            rw [if_neg (fun z => g2 z.2.2.2.2.1)]
            simp (maxSteps := 2000000) (disch := omega) only [if_true, if_false, not_true_eq_false, not_false_eq_true, zoI_s, zoR_s, zoH_s, zoL_s, zbI_s, zbV_s, zbR_s, zbL_s, zif_dec, i32_0, ne_eq, i32_lt, i32_le, i32_eq, i32_add, i32_mul, i32_sub, i32_neg, zrz_0, zrz_1, zif_t, zif_f, zsF_s, zsF_k, zsF_a, zsC_s, zsC_a, zsC_i, zsW_s, zsW_a, Int.add_zero, Int.zero_add, true_and, false_and, and_false, Bool.false_eq_true, decide_true, decide_false, Bool.true_and, Bool.false_and, Bool.true_or, Bool.false_or, sub1, if_pos, if_neg, wv_0 S, wr_704 S, wr_705 S, wr_706 S, wr_707 S, wr_708 S, wr_709 S, wr_710 S, wr_711 S, tv_1 S, dv H, dg_128 H, dp_128 H, dg_129 H, dp_129 H, dg_130 H, dp_130 H, dg_131 H, dp_131 H, dr_132 H, da_132 H, dr_133 H, da_133 H, dr_134 H, da_134 H, dr_135 H, da_135 H, dr_136 H, da_136 H, dr_137 H, da_137 H, c_dAt Q, c_lAt Q, Option.isNone_some, e_Main_odds, ek, c_hasPlayer H V O, c_hasQuestion H V O, ib_0]
        · refine ⟨F, C, ?_, tq.rfl⟩
          rw [if_neg (fun z => g1 z.2.2.2.1)]
          simp (maxSteps := 2000000) (disch := omega) only [if_true, if_false, not_true_eq_false, not_false_eq_true, zoI_s, zoR_s, zoH_s, zoL_s, zbI_s, zbV_s, zbR_s, zbL_s, zif_dec, i32_0, ne_eq, i32_lt, i32_le, i32_eq, i32_add, i32_mul, i32_sub, i32_neg, zrz_0, zrz_1, zif_t, zif_f, zsF_s, zsF_k, zsF_a, zsC_s, zsC_a, zsC_i, zsW_s, zsW_a, Int.add_zero, Int.zero_add, true_and, false_and, and_false, Bool.false_eq_true, decide_true, decide_false, Bool.true_and, Bool.false_and, Bool.true_or, Bool.false_or, sub1, if_pos, if_neg, wv_0 S, wr_704 S, wr_705 S, wr_706 S, wr_707 S, wr_708 S, wr_709 S, wr_710 S, wr_711 S, tv_1 S, dv H, dg_128 H, dp_128 H, dg_129 H, dp_129 H, dg_130 H, dp_130 H, dg_131 H, dp_131 H, dr_132 H, da_132 H, dr_133 H, da_133 H, dr_134 H, da_134 H, dr_135 H, da_135 H, dr_136 H, da_136 H, dr_137 H, da_137 H, c_dAt Q, c_lAt Q, Option.isNone_some, e_Main_odds, ek, c_hasPlayer H V O, ib_0]
    · refine ⟨F, C, ?_, tq.rfl⟩
      rw [if_neg (fun z => c2 z.2.1)]
      simp (maxSteps := 2000000) (disch := omega) only [if_true, if_false, not_true_eq_false, not_false_eq_true, zoI_s, zoR_s, zoH_s, zoL_s, zbI_s, zbV_s, zbR_s, zbL_s, zif_dec, i32_0, ne_eq, i32_lt, i32_le, i32_eq, i32_add, i32_mul, i32_sub, i32_neg, zrz_0, zrz_1, zif_t, zif_f, zsF_s, zsF_k, zsF_a, zsC_s, zsC_a, zsC_i, zsW_s, zsW_a, Int.add_zero, Int.zero_add, true_and, false_and, and_false, Bool.false_eq_true, decide_true, decide_false, Bool.true_and, Bool.false_and, Bool.true_or, Bool.false_or, sub1, if_pos, if_neg, wv_0 S, wr_704 S, wr_705 S, wr_706 S, wr_707 S, wr_708 S, wr_709 S, wr_710 S, wr_711 S, tv_1 S, dv H, dg_128 H, dp_128 H, dg_129 H, dp_129 H, dg_130 H, dp_130 H, dg_131 H, dp_131 H, dr_132 H, da_132 H, dr_133 H, da_133 H, dr_134 H, da_134 H, dr_135 H, da_135 H, dr_136 H, da_136 H, dr_137 H, da_137 H, c_dAt Q, c_lAt0 Q, Option.isNone_some, Option.isNone_none, e_Main_odds]
  · refine ⟨F, C, ?_, tq.rfl⟩
    rw [if_neg (fun z => c1 z.1)]
    by_cases c2 : 0 ≤ l ∧ l < C 73 2
    · simp (maxSteps := 2000000) (disch := omega) only [if_true, if_false, not_true_eq_false, not_false_eq_true, zoI_s, zoR_s, zoH_s, zoL_s, zbI_s, zbV_s, zbR_s, zbL_s, zif_dec, i32_0, ne_eq, i32_lt, i32_le, i32_eq, i32_add, i32_mul, i32_sub, i32_neg, zrz_0, zrz_1, zif_t, zif_f, zsF_s, zsF_k, zsF_a, zsC_s, zsC_a, zsC_i, zsW_s, zsW_a, Int.add_zero, Int.zero_add, true_and, false_and, and_false, Bool.false_eq_true, decide_true, decide_false, Bool.true_and, Bool.false_and, Bool.true_or, Bool.false_or, sub1, if_pos, if_neg, wv_0 S, wr_704 S, wr_705 S, wr_706 S, wr_707 S, wr_708 S, wr_709 S, wr_710 S, wr_711 S, tv_1 S, c_dAt0 Q, c_lAt Q, Option.isNone_some, Option.isNone_none, e_Main_odds]
    · simp (maxSteps := 2000000) (disch := omega) only [if_true, if_false, not_true_eq_false, not_false_eq_true, zoI_s, zoR_s, zoH_s, zoL_s, zbI_s, zbV_s, zbR_s, zbL_s, zif_dec, i32_0, ne_eq, i32_lt, i32_le, i32_eq, i32_add, i32_mul, i32_sub, i32_neg, zrz_0, zrz_1, zif_t, zif_f, zsF_s, zsF_k, zsF_a, zsC_s, zsC_a, zsC_i, zsW_s, zsW_a, Int.add_zero, Int.zero_add, true_and, false_and, and_false, Bool.false_eq_true, decide_true, decide_false, Bool.true_and, Bool.false_and, Bool.true_or, Bool.false_or, sub1, if_pos, if_neg, wv_0 S, wr_704 S, wr_705 S, wr_706 S, wr_707 S, wr_708 S, wr_709 S, wr_710 S, wr_711 S, tv_1 S, c_dAt0 Q, c_lAt0 Q, Option.isNone_some, Option.isNone_none, e_Main_odds]
theorem m_odds {d l p q x b : Int} (hd : inI d) (hl : inI l) (hp : inI p) (hq : inI q) (hx : inI x) (hb : inI b) : ans1 315 72 [zI (i32 d), zI (i32 l), zI (i32 p), zI (i32 q), zI (i32 x), zI (i32 b)] (fun A => zL (i64 (oddsQ A d l p q x b))) := by
  intro h F C Q
  have S := Q.1
  have hb' := hb
  unfold inI at hd hl hp hq hx hb
  show ∃ F' C', _ = some (zL (i64 (oddsQ (C 73) d l p q x b)), _) ∧ _
  unfold oddsQ
  by_cases c1 : 0 ≤ d ∧ d < C 73 0
  · have M := miF_V Q c1.1 c1.2
    have O := Q.dO c1.1 c1.2
    have Q1 := Q.tq (miF_tq (F := F) (C := C) d)
    by_cases c2 : 0 ≤ l ∧ l < C 73 2
    · have P := Q.lO c2.1 c2.2
      have o := Q.2.2.1.2.2
      have M1 : moV (zsF (miF F C d) 808 72 (1180 + 25 * l)) C (dOf (C 73) d) := M
      have N : moL (zsF (miF F C d) 808 72 (1180 + 25 * l)) C (lOf (C 73) l) := ⟨⟨show 0 ≤ 1180 + 25 * l by omega, show 1180 + 25 * l ≤ 2000 by omega⟩, fun j _ _ => rfl⟩
      have T1 : tq F C (zsF (miF F C d) 808 72 (1180 + 25 * l)) C := (miF_tq d).sF (by omega) (by omega)
      have ek := m_areThere S M1 O N P
      cases ct : thB (dOf (C 73) d) (lOf (C 73) l) with
      | false =>
        rw [ct] at ek
        refine ⟨_, C, ?_, T1⟩
        rw [if_neg (fun z => by cases z.2.2.1)]
        simp (disch := omega) only [if_true, if_false, not_true_eq_false, not_false_eq_true, zoI_s, zoR_s, zoH_s, zoL_s, zbI_s, zbV_s, zbR_s, zbL_s, zif_dec, i32_0, ne_eq, i32_lt, i32_le, i32_eq, i32_add, i32_mul, i32_sub, i32_neg, zrz_0, zrz_1, zif_t, zif_f, zsF_s, zsF_k, zsF_a, zsC_s, zsC_a, zsC_i, zsW_s, zsW_a, Int.add_zero, Int.zero_add, true_and, false_and, and_false, Bool.false_eq_true, decide_true, decide_false, Bool.true_and, Bool.false_and, Bool.true_or, Bool.false_or, sub1, if_pos, if_neg, wv_72 S, wr_768 S, wr_769 S, wr_777 S, wr_785 S, wr_786 S, wr_787 S, wr_789 S, wr_790 S, wr_791 S, wr_802 S, wr_803 S, wr_804 S, wr_805 S, wr_806 S, wr_807 S, wr_809 S, wg_770 S, wp_770 S, wg_771 S, wp_771 S, wg_772 S, wp_772 S, wg_773 S, wp_773 S, wg_774 S, wp_774 S, wg_775 S, wp_775 S, wg_776 S, wp_776 S, wg_778 S, wp_778 S, wg_779 S, wp_779 S, wg_780 S, wp_780 S, wg_781 S, wp_781 S, wg_782 S, wp_782 S, wg_783 S, wp_783 S, wg_784 S, wp_784 S, wg_788 S, wp_788 S, wg_792 S, wp_792 S, wg_793 S, wp_793 S, wg_794 S, wp_794 S, wg_795 S, wp_795 S, wg_796 S, wp_796 S, wg_797 S, wp_797 S, wg_798 S, wp_798 S, wg_799 S, wp_799 S, wg_800 S, wp_800 S, wg_801 S, wp_801 S, wg_808 S, wp_808 S, wg_810 S, wp_810 S, m_isD Q, m_isL Q1, e_Model_odds, ek]
      | true =>
        rw [ct] at ek
        by_cases g1 : 0 ≤ p ∧ p < dOf (C 73) d 1
        · by_cases g2 : 0 ≤ q ∧ q < dOf (C 73) d 2
          · by_cases g3 : 0 ≤ x ∧ x < 3
            · obtain ⟨w2, u2, v2, e⟩ := m_oddsL S M1 O N P ct (d := d) (l := l) g1.1 g1.2 g2.1 g2.2 g3.1 (by omega) hb' (zsF (miF F C d) 808 72 (1180 + 25 * l) 782 72) (zsF (miF F C d) 808 72 (1180 + 25 * l) 783 72) (zsF (miF F C d) 808 72 (1180 + 25 * l) 784 72)
              rw [mlF_id] at e
              refine ⟨_, _, ?_, T1.ml w2 u2 v2⟩
              rw [if_pos ⟨c1, c2, rfl, g1, g2, g3⟩, ← e]
              simp (disch := omega) only [if_true, if_false, not_true_eq_false, not_false_eq_true, zoI_s, zoR_s, zoH_s, zoL_s, zbI_s, zbV_s, zbR_s, zbL_s, zif_dec, i32_0, ne_eq, i32_lt, i32_le, i32_eq, i32_add, i32_mul, i32_sub, i32_neg, zrz_0, zrz_1, zif_t, zif_f, zsF_s, zsF_k, zsF_a, zsC_s, zsC_a, zsC_i, zsW_s, zsW_a, Int.add_zero, Int.zero_add, true_and, false_and, and_false, Bool.false_eq_true, decide_true, decide_false, Bool.true_and, Bool.false_and, Bool.true_or, Bool.false_or, sub1, if_pos, if_neg, wv_72 S, wr_768 S, wr_769 S, wr_777 S, wr_785 S, wr_786 S, wr_787 S, wr_789 S, wr_790 S, wr_791 S, wr_802 S, wr_803 S, wr_804 S, wr_805 S, wr_806 S, wr_807 S, wr_809 S, wg_770 S, wp_770 S, wg_771 S, wp_771 S, wg_772 S, wp_772 S, wg_773 S, wp_773 S, wg_774 S, wp_774 S, wg_775 S, wp_775 S, wg_776 S, wp_776 S, wg_778 S, wp_778 S, wg_779 S, wp_779 S, wg_780 S, wp_780 S, wg_781 S, wp_781 S, wg_782 S, wp_782 S, wg_783 S, wp_783 S, wg_784 S, wp_784 S, wg_788 S, wp_788 S, wg_792 S, wp_792 S, wg_793 S, wp_793 S, wg_794 S, wp_794 S, wg_795 S, wp_795 S, wg_796 S, wp_796 S, wg_797 S, wp_797 S, wg_798 S, wp_798 S, wg_799 S, wp_799 S, wg_800 S, wp_800 S, wg_801 S, wp_801 S, wg_808 S, wp_808 S, wg_810 S, wp_810 S, m_isD Q, m_isL Q1, e_Model_odds, ek, m_isPlayer S M1 O, m_isQuestion S M1 O, m_isIn, ib_0]
            · refine ⟨_, C, ?_, T1⟩
              rw [if_neg (fun z => g3 z.2.2.2.2.2)]
              simp (disch := omega) only [if_true, if_false, not_true_eq_false, not_false_eq_true, zoI_s, zoR_s, zoH_s, zoL_s, zbI_s, zbV_s, zbR_s, zbL_s, zif_dec, i32_0, ne_eq, i32_lt, i32_le, i32_eq, i32_add, i32_mul, i32_sub, i32_neg, zrz_0, zrz_1, zif_t, zif_f, zsF_s, zsF_k, zsF_a, zsC_s, zsC_a, zsC_i, zsW_s, zsW_a, Int.add_zero, Int.zero_add, true_and, false_and, and_false, Bool.false_eq_true, decide_true, decide_false, Bool.true_and, Bool.false_and, Bool.true_or, Bool.false_or, sub1, if_pos, if_neg, wv_72 S, wr_768 S, wr_769 S, wr_777 S, wr_785 S, wr_786 S, wr_787 S, wr_789 S, wr_790 S, wr_791 S, wr_802 S, wr_803 S, wr_804 S, wr_805 S, wr_806 S, wr_807 S, wr_809 S, wg_770 S, wp_770 S, wg_771 S, wp_771 S, wg_772 S, wp_772 S, wg_773 S, wp_773 S, wg_774 S, wp_774 S, wg_775 S, wp_775 S, wg_776 S, wp_776 S, wg_778 S, wp_778 S, wg_779 S, wp_779 S, wg_780 S, wp_780 S, wg_781 S, wp_781 S, wg_782 S, wp_782 S, wg_783 S, wp_783 S, wg_784 S, wp_784 S, wg_788 S, wp_788 S, wg_792 S, wp_792 S, wg_793 S, wp_793 S, wg_794 S, wp_794 S, wg_795 S, wp_795 S, wg_796 S, wp_796 S, wg_797 S, wp_797 S, wg_798 S, wp_798 S, wg_799 S, wp_799 S, wg_800 S, wp_800 S, wg_801 S, wp_801 S, wg_808 S, wp_808 S, wg_810 S, wp_810 S, m_isD Q, m_isL Q1, e_Model_odds, ek, m_isPlayer S M1 O, m_isQuestion S M1 O, m_isIn, ib_0]
          · refine ⟨_, C, ?_, T1⟩
            rw [if_neg (fun z => g2 z.2.2.2.2.1)]
            simp (disch := omega) only [if_true, if_false, not_true_eq_false, not_false_eq_true, zoI_s, zoR_s, zoH_s, zoL_s, zbI_s, zbV_s, zbR_s, zbL_s, zif_dec, i32_0, ne_eq, i32_lt, i32_le, i32_eq, i32_add, i32_mul, i32_sub, i32_neg, zrz_0, zrz_1, zif_t, zif_f, zsF_s, zsF_k, zsF_a, zsC_s, zsC_a, zsC_i, zsW_s, zsW_a, Int.add_zero, Int.zero_add, true_and, false_and, and_false, Bool.false_eq_true, decide_true, decide_false, Bool.true_and, Bool.false_and, Bool.true_or, Bool.false_or, sub1, if_pos, if_neg, wv_72 S, wr_768 S, wr_769 S, wr_777 S, wr_785 S, wr_786 S, wr_787 S, wr_789 S, wr_790 S, wr_791 S, wr_802 S, wr_803 S, wr_804 S, wr_805 S, wr_806 S, wr_807 S, wr_809 S, wg_770 S, wp_770 S, wg_771 S, wp_771 S, wg_772 S, wp_772 S, wg_773 S, wp_773 S, wg_774 S, wp_774 S, wg_775 S, wp_775 S, wg_776 S, wp_776 S, wg_778 S, wp_778 S, wg_779 S, wp_779 S, wg_780 S, wp_780 S, wg_781 S, wp_781 S, wg_782 S, wp_782 S, wg_783 S, wp_783 S, wg_784 S, wp_784 S, wg_788 S, wp_788 S, wg_792 S, wp_792 S, wg_793 S, wp_793 S, wg_794 S, wp_794 S, wg_795 S, wp_795 S, wg_796 S, wp_796 S, wg_797 S, wp_797 S, wg_798 S, wp_798 S, wg_799 S, wp_799 S, wg_800 S, wp_800 S, wg_801 S, wp_801 S, wg_808 S, wp_808 S, wg_810 S, wp_810 S, m_isD Q, m_isL Q1, e_Model_odds, ek, m_isPlayer S M1 O, m_isQuestion S M1 O, ib_0]
        · refine ⟨_, C, ?_, T1⟩
          rw [if_neg (fun z => g1 z.2.2.2.1)]
          simp (disch := omega) only [if_true, if_false, not_true_eq_false, not_false_eq_true, zoI_s, zoR_s, zoH_s, zoL_s, zbI_s, zbV_s, zbR_s, zbL_s, zif_dec, i32_0, ne_eq, i32_lt, i32_le, i32_eq, i32_add, i32_mul, i32_sub, i32_neg, zrz_0, zrz_1, zif_t, zif_f, zsF_s, zsF_k, zsF_a, zsC_s, zsC_a, zsC_i, zsW_s, zsW_a, Int.add_zero, Int.zero_add, true_and, false_and, and_false, Bool.false_eq_true, decide_true, decide_false, Bool.true_and, Bool.false_and, Bool.true_or, Bool.false_or, sub1, if_pos, if_neg, wv_72 S, wr_768 S, wr_769 S, wr_777 S, wr_785 S, wr_786 S, wr_787 S, wr_789 S, wr_790 S, wr_791 S, wr_802 S, wr_803 S, wr_804 S, wr_805 S, wr_806 S, wr_807 S, wr_809 S, wg_770 S, wp_770 S, wg_771 S, wp_771 S, wg_772 S, wp_772 S, wg_773 S, wp_773 S, wg_774 S, wp_774 S, wg_775 S, wp_775 S, wg_776 S, wp_776 S, wg_778 S, wp_778 S, wg_779 S, wp_779 S, wg_780 S, wp_780 S, wg_781 S, wp_781 S, wg_782 S, wp_782 S, wg_783 S, wp_783 S, wg_784 S, wp_784 S, wg_788 S, wp_788 S, wg_792 S, wp_792 S, wg_793 S, wp_793 S, wg_794 S, wp_794 S, wg_795 S, wp_795 S, wg_796 S, wp_796 S, wg_797 S, wp_797 S, wg_798 S, wp_798 S, wg_799 S, wp_799 S, wg_800 S, wp_800 S, wg_801 S, wp_801 S, wg_808 S, wp_808 S, wg_810 S, wp_810 S, m_isD Q, m_isL Q1, e_Model_odds, ek, m_isPlayer S M1 O, ib_0]
    · refine ⟨_, C, ?_, miF_tq d⟩
      rw [if_neg (fun z => c2 z.2.1)]
      simp (disch := omega) only [if_true, if_false, not_true_eq_false, not_false_eq_true, zoI_s, zoR_s, zoH_s, zoL_s, zbI_s, zbV_s, zbR_s, zbL_s, zif_dec, i32_0, ne_eq, i32_lt, i32_le, i32_eq, i32_add, i32_mul, i32_sub, i32_neg, zrz_0, zrz_1, zif_t, zif_f, zsF_s, zsF_k, zsF_a, zsC_s, zsC_a, zsC_i, zsW_s, zsW_a, Int.add_zero, Int.zero_add, true_and, false_and, and_false, Bool.false_eq_true, decide_true, decide_false, Bool.true_and, Bool.false_and, Bool.true_or, Bool.false_or, sub1, if_pos, if_neg, wv_72 S, wr_768 S, wr_769 S, wr_777 S, wr_785 S, wr_786 S, wr_787 S, wr_789 S, wr_790 S, wr_791 S, wr_802 S, wr_803 S, wr_804 S, wr_805 S, wr_806 S, wr_807 S, wr_809 S, wg_770 S, wp_770 S, wg_771 S, wp_771 S, wg_772 S, wp_772 S, wg_773 S, wp_773 S, wg_774 S, wp_774 S, wg_775 S, wp_775 S, wg_776 S, wp_776 S, wg_778 S, wp_778 S, wg_779 S, wp_779 S, wg_780 S, wp_780 S, wg_781 S, wp_781 S, wg_782 S, wp_782 S, wg_783 S, wp_783 S, wg_784 S, wp_784 S, wg_788 S, wp_788 S, wg_792 S, wp_792 S, wg_793 S, wp_793 S, wg_794 S, wp_794 S, wg_795 S, wp_795 S, wg_796 S, wp_796 S, wg_797 S, wp_797 S, wg_798 S, wp_798 S, wg_799 S, wp_799 S, wg_800 S, wp_800 S, wg_801 S, wp_801 S, wg_808 S, wp_808 S, wg_810 S, wp_810 S, m_isD Q, m_isL0 Q1, e_Model_odds]
  · refine ⟨F, C, ?_, tq.rfl⟩
    rw [if_neg (fun z => c1 z.1)]
    simp (disch := omega) only [if_true, if_false, not_true_eq_false, not_false_eq_true, zoI_s, zoR_s, zoH_s, zoL_s, zbI_s, zbV_s, zbR_s, zbL_s, zif_dec, i32_0, ne_eq, i32_lt, i32_le, i32_eq, i32_add, i32_mul, i32_sub, i32_neg, zrz_0, zrz_1, zif_t, zif_f, zsF_s, zsF_k, zsF_a, zsC_s, zsC_a, zsC_i, zsW_s, zsW_a, Int.add_zero, Int.zero_add, true_and, false_and, and_false, Bool.false_eq_true, decide_true, decide_false, Bool.true_and, Bool.false_and, Bool.true_or, Bool.false_or, sub1, if_pos, if_neg, wv_72 S, wr_768 S, wr_769 S, wr_777 S, wr_785 S, wr_786 S, wr_787 S, wr_789 S, wr_790 S, wr_791 S, wr_802 S, wr_803 S, wr_804 S, wr_805 S, wr_806 S, wr_807 S, wr_809 S, wg_770 S, wp_770 S, wg_771 S, wp_771 S, wg_772 S, wp_772 S, wg_773 S, wp_773 S, wg_774 S, wp_774 S, wg_775 S, wp_775 S, wg_776 S, wp_776 S, wg_778 S, wp_778 S, wg_779 S, wp_779 S, wg_780 S, wp_780 S, wg_781 S, wp_781 S, wg_782 S, wp_782 S, wg_783 S, wp_783 S, wg_784 S, wp_784 S, wg_788 S, wp_788 S, wg_792 S, wp_792 S, wg_793 S, wp_793 S, wg_794 S, wp_794 S, wg_795 S, wp_795 S, wg_796 S, wp_796 S, wg_797 S, wp_797 S, wg_798 S, wp_798 S, wg_799 S, wp_799 S, wg_800 S, wp_800 S, wg_801 S, wp_801 S, wg_808 S, wp_808 S, wg_810 S, wp_810 S, m_isD0 Q, m_are30 Q, e_Model_odds]
