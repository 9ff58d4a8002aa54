/-! left -/
def chS (n j : Int) : Int := foldF (fun i w => w * (n - i) / (i + 1)) 0 j.toNat 1
def ctS (n j : Int) : Int := sm (fun s => if bitsS s = j then 1 else 0) (2 ^ n.toNat)
def upS (n k s g : Int) : Int := sm (fun t => if k ≤ bitsS t then s ^ (bitsS t).toNat * g ^ (n - bitsS t).toNat else 0) (2 ^ n.toNat)
def hiS (n k s g : Int) : Int := sm (fun j => if k ≤ j then chS n j * s ^ j.toNat * g ^ (n - j).toNat else 0) (n + 1)
def lefS (n k y p b : Int) : Int := lstT (hiS n k ((10 - p) ^ y.toNat) (10 ^ y.toNat - (10 - p) ^ y.toNat)) ((10 ^ y.toNat) ^ n.toNat) b
def leftQ (n k y p b : Int) : Int := if (0 ≤ n ∧ n ≤ 6) ∧ (0 ≤ k ∧ k ≤ 6) ∧ (0 ≤ y ∧ y ≤ 3) ∧ (0 ≤ p ∧ p ≤ 10) then lefS n k y p b else -1
theorem ch_ct_t : ∀ n : Nat, n < 7 → ∀ j : Nat, j < n + 1 → chS n j = ctS n j ∧ 0 ≤ chS n j ∧ chS n j ≤ 20 := by decide +kernel
theorem ch_ct {n j : Int} (n0 : 0 ≤ n) (n1 : n ≤ 6) (j0 : 0 ≤ j) (j1 : j ≤ n) : chS n j = ctS n j ∧ 0 ≤ chS n j ∧ chS n j ≤ 20 := by
  obtain ⟨n, rfl⟩ := Int.eq_ofNat_of_zero_le n0
  obtain ⟨j, rfl⟩ := Int.eq_ofNat_of_zero_le j0
  exact ch_ct_t n (by omega) j (by omega)
theorem up_hi {n k s g : Int} (n0 : 0 ≤ n) (n1 : n ≤ 6) : upS n k s g = hiS n k s g := by
  have p6 := pw_6 (n := n) n1
  unfold upS
  have e1 : ∀ t, 0 ≤ t → t < 2 ^ n.toNat → (if k ≤ bitsS t then s ^ (bitsS t).toNat * g ^ (n - bitsS t).toNat else 0) = sm (fun j => if j = bitsS t then (if k ≤ j then s ^ j.toNat * g ^ (n - j).toNat else 0) else 0) (n + 1) := by
    intro t t0 t1
    have b := bits_n (s := t) t0 n0 (by omega) t1
    have b3 := bitsS_rng t
    exact (sm_one (fun j => if k ≤ j then s ^ j.toNat * g ^ (n - j).toNat else 0) b3.1 (by omega)).symm
  rw [sm_congr e1, sm_comm]
  unfold hiS
  refine sm_congr (fun j j0 j1 => ?_)
  by_cases c : k ≤ j
  · have e2 : sm (fun t => if j = bitsS t then (if k ≤ j then s ^ j.toNat * g ^ (n - j).toNat else 0) else 0) (2 ^ n.toNat) = (s ^ j.toNat * g ^ (n - j).toNat) * ctS n j := by
      unfold ctS
      rw [← sm_mul]
      refine sm_congr (fun t _ _ => ?_)
      by_cases e : j = bitsS t
      · rw [if_pos e, if_pos e.symm, if_pos c, Int.mul_one]
      · rw [if_neg e, if_neg (Ne.symm e), Int.mul_zero]
    rw [e2, if_pos c, (ch_ct n0 n1 j0 (by omega)).1, Int.mul_comm, Int.mul_assoc]
  · refine (sm_zero (fun t _ _ => ?_)).trans (if_neg c).symm
    split <;> first | rfl | exact if_neg c
theorem hi_t : ∀ n : Nat, n < 7 → ∀ k : Nat, k < 7 → ∀ y : Nat, y < 4 → ∀ p : Nat, p < 11 → 0 ≤ hiS n k ((10 - p) ^ y) (10 ^ y - (10 - p) ^ y) ∧ hiS n k ((10 - p) ^ y) (10 ^ y - (10 - p) ^ y) ≤ (10 ^ y) ^ n := by decide +kernel
theorem hi_rng {n k y p : Int} (n0 : 0 ≤ n) (n1 : n ≤ 6) (k0 : 0 ≤ k) (k1 : k ≤ 6) (y0 : 0 ≤ y) (y1 : y ≤ 3) (p0 : 0 ≤ p) (p1 : p ≤ 10) : (0 ≤ hiS n k ((10 - p) ^ y.toNat) (10 ^ y.toNat - (10 - p) ^ y.toNat) ∧ hiS n k ((10 - p) ^ y.toNat) (10 ^ y.toNat - (10 - p) ^ y.toNat) ≤ (10 ^ y.toNat) ^ n.toNat) ∧ (0 < ((10 : Int) ^ y.toNat) ^ n.toNat ∧ ((10 : Int) ^ y.toNat) ^ n.toNat ≤ 1000000000000000000) := by
  obtain ⟨n, rfl⟩ := Int.eq_ofNat_of_zero_le n0
  obtain ⟨k, rfl⟩ := Int.eq_ofNat_of_zero_le k0
  obtain ⟨y, rfl⟩ := Int.eq_ofNat_of_zero_le y0
  obtain ⟨p, rfl⟩ := Int.eq_ofNat_of_zero_le p0
  refine ⟨hi_t n (by omega) k (by omega) y (by omega) p (by omega), ?_⟩
  rw [Int.toNat_natCast, Int.toNat_natCast]
  have tb : ∀ n : Nat, n < 7 → ∀ y : Nat, y < 4 → 0 < ((10 : Int) ^ y) ^ n ∧ ((10 : Int) ^ y) ^ n ≤ 1000000000000000000 := by decide +kernel
  exact tb n (by omega) y (by omega)
theorem c_power {h : zHeap} {s n : Int} (n0 : 0 ≤ n) (n1 : n ≤ 1000) : zc 196 [zL (i64 s), zI (i32 n)] h = some (zL (i64 (s ^ n.toNat)), h) := by
  obtain ⟨v, L1, i1⟩ := zinv (fun k v => zr 196 4 [yL (i64 s), none, yI (i32 n), yL (i64 v), none, yI (i32 k)] [] h) (fun k v => v = s ^ k.toNat) 0 n n0 (fun k v k0 k1 hi => by
    refine ⟨v * s, ?_, ?_⟩
    · rw [e_Main_power_4]
      simp (disch := omega) only [if_true, if_false, not_true_eq_false, not_false_eq_true, zoI_s, zoR_s, zoH_s, zoL_s, zbI_s, zbV_s, zbR_s, zbL_s, zif_dec, i32_0, ne_eq, i32_lt, i32_le, i32_eq, i32_add, i32_mul, i32_sub, i32_neg, zrz_0, zrz_1, zif_t, zif_f, zsF_s, zsF_k, zsF_a, zsC_s, zsC_a, zsC_i, zsW_s, zsW_a, Int.add_zero, Int.zero_add, true_and, false_and, and_false, Bool.false_eq_true, decide_true, decide_false, Bool.true_and, Bool.false_and, Bool.true_or, Bool.false_or, sub1, if_pos, if_neg, i64_mul]
    · rw [hi, show (k + 1).toNat = k.toNat + 1 by omega, Int.pow_succ]) 1 (Int.pow_zero s).symm
  rw [e_Main_power, L1, e_Main_power_4, i1]
  simp (disch := omega) only [if_true, if_false, not_true_eq_false, not_false_eq_true, zoI_s, zoR_s, zoH_s, zoL_s, zbI_s, zbV_s, zbR_s, zbL_s, zif_dec, i32_0, ne_eq, i32_lt, i32_le, i32_eq, i32_add, i32_mul, i32_sub, i32_neg, zrz_0, zrz_1, zif_t, zif_f, zsF_s, zsF_k, zsF_a, zsC_s, zsC_a, zsC_i, zsW_s, zsW_a, Int.add_zero, Int.zero_add, true_and, false_and, and_false, Bool.false_eq_true, decide_true, decide_false, Bool.true_and, Bool.false_and, Bool.true_or, Bool.false_or, sub1, if_pos, if_neg]
theorem m_power {h : zHeap} {s n : Int} (n0 : 0 ≤ n) (n1 : n ≤ 1000) : zc 314 [zL (i64 s), zI (i32 n)] h = some (zL (i64 (s ^ n.toNat)), h) := by
  obtain ⟨v, L1, i1⟩ := zinv (fun k v => zr 314 4 [yL (i64 s), none, yI (i32 n), yL (i64 v), none, yI (i32 k)] [] h) (fun k v => v = s ^ k.toNat) 0 n n0 (fun k v k0 k1 hi => by
    refine ⟨v * s, ?_, ?_⟩
    · rw [e_Model_power_4]
      simp (disch := omega) only [if_true, if_false, not_true_eq_false, not_false_eq_true, zoI_s, zoR_s, zoH_s, zoL_s, zbI_s, zbV_s, zbR_s, zbL_s, zif_dec, i32_0, ne_eq, i32_lt, i32_le, i32_eq, i32_add, i32_mul, i32_sub, i32_neg, zrz_0, zrz_1, zif_t, zif_f, zsF_s, zsF_k, zsF_a, zsC_s, zsC_a, zsC_i, zsW_s, zsW_a, Int.add_zero, Int.zero_add, true_and, false_and, and_false, Bool.false_eq_true, decide_true, decide_false, Bool.true_and, Bool.false_and, Bool.true_or, Bool.false_or, sub1, if_pos, if_neg, i64_mul]
    · rw [hi, show (k + 1).toNat = k.toNat + 1 by omega, Int.pow_succ]) 1 (Int.pow_zero s).symm
  rw [e_Model_power, L1, e_Model_power_4, i1]
  simp (disch := omega) only [if_true, if_false, not_true_eq_false, not_false_eq_true, zoI_s, zoR_s, zoH_s, zoL_s, zbI_s, zbV_s, zbR_s, zbL_s, zif_dec, i32_0, ne_eq, i32_lt, i32_le, i32_eq, i32_add, i32_mul, i32_sub, i32_neg, zrz_0, zrz_1, zif_t, zif_f, zsF_s, zsF_k, zsF_a, zsC_s, zsC_a, zsC_i, zsW_s, zsW_a, Int.add_zero, Int.zero_add, true_and, false_and, and_false, Bool.false_eq_true, decide_true, decide_false, Bool.true_and, Bool.false_and, Bool.true_or, Bool.false_or, sub1, if_pos, if_neg]
theorem ch_s {n j : Int} (j0 : 0 ≤ j) : chS n (j + 1) = chS n j * (n - j) / (j + 1) := by
  unfold chS
  rw [show (j + 1).toNat = j.toNat + 1 by omega, fold_end, show (0 : Int) + ((j.toNat : Nat) : Int) = j by omega]
theorem c_choose {h : zHeap} {n j : Int} (n0 : 0 ≤ n) (n1 : n ≤ 6) (j0 : 0 ≤ j) (j1 : j ≤ n) : zc 197 [zI (i32 n), zI (i32 j)] h = some (zL (i64 (chS n j)), h) := by
  obtain ⟨v, L1, i1⟩ := zinv (fun k v => zr 197 4 [yI (i32 n), yI (i32 j), yL (i64 v), none, yI (i32 k)] [] h) (fun k v => v = chS n k) 0 j j0 (fun k v k0 k1 hi => by
    have g := ch_ct (n := n) (j := k) n0 n1 k0 (by omega)
    have m0 : 0 ≤ chS n k * (n - k) := Int.mul_nonneg g.2.1 (by omega)
    have m1 : chS n k * (n - k) ≤ 20 * (n - k) := Int.mul_le_mul_of_nonneg_right g.2.2 (by omega)
    refine ⟨chS n (k + 1), ?_, rfl⟩
    rw [e_Main_choose_4, hi, ch_s k0]
    simp (disch := omega) only [if_true, if_false, not_true_eq_false, not_false_eq_true, zoI_s, zoR_s, zoH_s, zoL_s, zbI_s, zbV_s, zbR_s, zbL_s, zif_dec, i32_0, ne_eq, i32_lt, i32_le, i32_eq, i32_add, i32_mul, i32_sub, i32_neg, zrz_0, zrz_1, zif_t, zif_f, zsF_s, zsF_k, zsF_a, zsC_s, zsC_a, zsC_i, zsW_s, zsW_a, Int.add_zero, Int.zero_add, true_and, false_and, and_false, Bool.false_eq_true, decide_true, decide_false, Bool.true_and, Bool.false_and, Bool.true_or, Bool.false_or, sub1, if_pos, if_neg, i64_of32, i64_0, i64_eq, i64_mul, i64_div]) 1 rfl
  rw [e_Main_choose, L1, e_Main_choose_4, i1]
  simp (disch := omega) only [if_true, if_false, not_true_eq_false, not_false_eq_true, zoI_s, zoR_s, zoH_s, zoL_s, zbI_s, zbV_s, zbR_s, zbL_s, zif_dec, i32_0, ne_eq, i32_lt, i32_le, i32_eq, i32_add, i32_mul, i32_sub, i32_neg, zrz_0, zrz_1, zif_t, zif_f, zsF_s, zsF_k, zsF_a, zsC_s, zsC_a, zsC_i, zsW_s, zsW_a, Int.add_zero, Int.zero_add, true_and, false_and, and_false, Bool.false_eq_true, decide_true, decide_false, Bool.true_and, Bool.false_and, Bool.true_or, Bool.false_or, sub1, if_pos, if_neg]
theorem c_left {n k y p b : Int} (hn : inI n) (hk : inI k) (hy : inI y) (hp : inI p) (hb : inI b) : ans1 168 0 [zI (i32 n), zI (i32 k), zI (i32 y), zI (i32 p), zI (i32 b)] (fun _ => zL (i64 (leftQ n k y p b))) := by
  intro h F C Q
  have hb' := hb
  unfold inI at hn hk hy hp hb
  refine ⟨F, C, ?_, tq.rfl⟩
  show _ = some (zL (i64 (leftQ n k y p b)), zw h F C)
  unfold leftQ
  by_cases c1 : 0 ≤ n ∧ n ≤ 6
  · by_cases c2 : 0 ≤ k ∧ k ≤ 6
    · by_cases c3 : 0 ≤ y ∧ y ≤ 3
      · by_cases c4 : 0 ≤ p ∧ p ≤ 10
        · rw [if_pos ⟨c1, c2, c3, c4⟩]
          have hr := hi_rng c1.1 c1.2 c2.1 c2.2 c3.1 c3.2 c4.1 c4.2
          unfold lefS
          generalize hA : (10 : Int) ^ y.toNat = A at hr
          generalize hS : (10 - p) ^ y.toNat = s at hr
          have stp : ∀ j, 0 ≤ j → j ≤ n → ∀ u, zr 168 33 [yR (some 0), yI (i32 n), yI (i32 k), yI (i32 y), yI (i32 p), yI (i32 b), yL (i64 A), none, yL (i64 s), none, yL (i64 u), none, yI (i32 j)] [] (zw h F C) = zr 168 33 [yR (some 0), yI (i32 n), yI (i32 k), yI (i32 y), yI (i32 p), yI (i32 b), yL (i64 A), none, yL (i64 s), none, yL (i64 (u + chS n j * s ^ j.toNat * (A - s) ^ (n - j).toNat)), none, yI (i32 (j + 1))] [] (zw h F C) := by
            intro j j0 j1 u
            rw [e_Main_left_33]
            simp (disch := omega) only [if_true, if_false, not_true_eq_false, not_false_eq_true, zoI_s, zoR_s, zoH_s, zoL_s, zbI_s, zbV_s, zbR_s, zbL_s, zif_dec, i32_0, ne_eq, i32_lt, i32_le, i32_eq, i32_add, i32_mul, i32_sub, i32_neg, zrz_0, zrz_1, zif_t, zif_f, zsF_s, zsF_k, zsF_a, zsC_s, zsC_a, zsC_i, zsW_s, zsW_a, Int.add_zero, Int.zero_add, true_and, false_and, and_false, Bool.false_eq_true, decide_true, decide_false, Bool.true_and, Bool.false_and, Bool.true_or, Bool.false_or, sub1, if_pos, if_neg, c_choose, c_power, i64_sub, i64_mul, i64_add]
          have L1 : zr 168 33 [yR (some 0), yI (i32 n), yI (i32 k), yI (i32 y), yI (i32 p), yI (i32 b), yL (i64 A), none, yL (i64 s), none, yL (i64 0), none, yI (i32 k)] [] (zw h F C) = some (zL (i64 (lstT (hiS n k s (A - s)) (A ^ n.toNat) b)), zw h F C) := by
            have fin : ∀ j, n < j → j ≤ 7 → zr 168 33 [yR (some 0), yI (i32 n), yI (i32 k), yI (i32 y), yI (i32 p), yI (i32 b), yL (i64 A), none, yL (i64 s), none, yL (i64 (hiS n k s (A - s))), none, yI (i32 j)] [] (zw h F C) = some (zL (i64 (lstT (hiS n k s (A - s)) (A ^ n.toNat) b)), zw h F C) := by
              intro j j0 j1
              have et := c_leastTerm (h := zw h F C) (u := hiS n k s (A - s)) (z := A ^ n.toNat) (b := b) hb' hr.1.1 hr.1.2 hr.2.2
              rw [e_Main_left_33]
              simp (disch := omega) only [if_true, if_false, not_true_eq_false, not_false_eq_true, zoI_s, zoR_s, zoH_s, zoL_s, zbI_s, zbV_s, zbR_s, zbL_s, zif_dec, i32_0, ne_eq, i32_lt, i32_le, i32_eq, i32_add, i32_mul, i32_sub, i32_neg, zrz_0, zrz_1, zif_t, zif_f, zsF_s, zsF_k, zsF_a, zsC_s, zsC_a, zsC_i, zsW_s, zsW_a, Int.add_zero, Int.zero_add, true_and, false_and, and_false, Bool.false_eq_true, decide_true, decide_false, Bool.true_and, Bool.false_and, Bool.true_or, Bool.false_or, sub1, if_pos, if_neg, c_power, et]
            by_cases cn : k ≤ n
            · obtain ⟨u, e, i⟩ := zinv (fun j u => zr 168 33 [yR (some 0), yI (i32 n), yI (i32 k), yI (i32 y), yI (i32 p), yI (i32 b), yL (i64 A), none, yL (i64 s), none, yL (i64 u), none, yI (i32 j)] [] (zw h F C)) (fun j u => u = sm (fun j => if k ≤ j then chS n j * s ^ j.toNat * (A - s) ^ (n - j).toNat else 0) j) k (n + 1) (by omega) (fun j u j0 j1 hi => by
                refine ⟨_, stp j (by omega) (by omega) u, ?_⟩
                rw [hi, sm_succ _ (by omega), if_pos j0]) 0 ((sm_zero (fun j _ _ => if_neg (by omega))).symm)
              rw [e, i, show sm (fun j => if k ≤ j then chS n j * s ^ j.toNat * (A - s) ^ (n - j).toNat else 0) (n + 1) = hiS n k s (A - s) from rfl]
              exact fin (n + 1) (by omega) (by omega)
            · have e : (0 : Int) = hiS n k s (A - s) := (sm_zero (fun j _ _ => if_neg (by omega))).symm
              have := fin k (by omega) (by omega)
              rw [← e] at this ⊢
              exact this
          rw [e_Main_left]
          simp (disch := omega) only [if_true, if_false, not_true_eq_false, not_false_eq_true, zoI_s, zoR_s, zoH_s, zoL_s, zbI_s, zbV_s, zbR_s, zbL_s, zif_dec, i32_0, ne_eq, i32_lt, i32_le, i32_eq, i32_add, i32_mul, i32_sub, i32_neg, zrz_0, zrz_1, zif_t, zif_f, zsF_s, zsF_k, zsF_a, zsC_s, zsC_a, zsC_i, zsW_s, zsW_a, Int.add_zero, Int.zero_add, true_and, false_and, and_false, Bool.false_eq_true, decide_true, decide_false, Bool.true_and, Bool.false_and, Bool.true_or, Bool.false_or, sub1, if_pos, if_neg, c_within, ib_0, c_power, i64_of32, hA, hS, L1]
        · rw [if_neg (fun z => c4 z.2.2.2)]
          simp (disch := omega) only [if_true, if_false, not_true_eq_false, not_false_eq_true, zoI_s, zoR_s, zoH_s, zoL_s, zbI_s, zbV_s, zbR_s, zbL_s, zif_dec, i32_0, ne_eq, i32_lt, i32_le, i32_eq, i32_add, i32_mul, i32_sub, i32_neg, zrz_0, zrz_1, zif_t, zif_f, zsF_s, zsF_k, zsF_a, zsC_s, zsC_a, zsC_i, zsW_s, zsW_a, Int.add_zero, Int.zero_add, true_and, false_and, and_false, Bool.false_eq_true, decide_true, decide_false, Bool.true_and, Bool.false_and, Bool.true_or, Bool.false_or, sub1, if_pos, if_neg, e_Main_left, c_within, ib_0]
      · rw [if_neg (fun z => c3 z.2.2.1)]
        simp (disch := omega) only [if_true, if_false, not_true_eq_false, not_false_eq_true, zoI_s, zoR_s, zoH_s, zoL_s, zbI_s, zbV_s, zbR_s, zbL_s, zif_dec, i32_0, ne_eq, i32_lt, i32_le, i32_eq, i32_add, i32_mul, i32_sub, i32_neg, zrz_0, zrz_1, zif_t, zif_f, zsF_s, zsF_k, zsF_a, zsC_s, zsC_a, zsC_i, zsW_s, zsW_a, Int.add_zero, Int.zero_add, true_and, false_and, and_false, Bool.false_eq_true, decide_true, decide_false, Bool.true_and, Bool.false_and, Bool.true_or, Bool.false_or, sub1, if_pos, if_neg, e_Main_left, c_within, ib_0]
    · rw [if_neg (fun z => c2 z.2.1)]
      simp (disch := omega) only [if_true, if_false, not_true_eq_false, not_false_eq_true, zoI_s, zoR_s, zoH_s, zoL_s, zbI_s, zbV_s, zbR_s, zbL_s, zif_dec, i32_0, ne_eq, i32_lt, i32_le, i32_eq, i32_add, i32_mul, i32_sub, i32_neg, zrz_0, zrz_1, zif_t, zif_f, zsF_s, zsF_k, zsF_a, zsC_s, zsC_a, zsC_i, zsW_s, zsW_a, Int.add_zero, Int.zero_add, true_and, false_and, and_false, Bool.false_eq_true, decide_true, decide_false, Bool.true_and, Bool.false_and, Bool.true_or, Bool.false_or, sub1, if_pos, if_neg, e_Main_left, c_within, ib_0]
  · rw [if_neg (fun z => c1 z.1)]
    simp (disch := omega) only [if_true, if_false, not_true_eq_false, not_false_eq_true, zoI_s, zoR_s, zoH_s, zoL_s, zbI_s, zbV_s, zbR_s, zbL_s, zif_dec, i32_0, ne_eq, i32_lt, i32_le, i32_eq, i32_add, i32_mul, i32_sub, i32_neg, zrz_0, zrz_1, zif_t, zif_f, zsF_s, zsF_k, zsF_a, zsC_s, zsC_a, zsC_i, zsW_s, zsW_a, Int.add_zero, Int.zero_add, true_and, false_and, and_false, Bool.false_eq_true, decide_true, decide_false, Bool.true_and, Bool.false_and, Bool.true_or, Bool.false_or, sub1, if_pos, if_neg, e_Main_left, c_within, ib_0]
theorem m_left {n k y p b : Int} (hn : inI n) (hk : inI k) (hy : inI y) (hp : inI p) (hb : inI b) : ans1 316 72 [zI (i32 n), zI (i32 k), zI (i32 y), zI (i32 p), zI (i32 b)] (fun _ => zL (i64 (leftQ n k y p b))) := by
  intro h F C Q
  unfold inI at hn hk hy hp hb
  refine ⟨F, C, ?_, tq.rfl⟩
  show _ = some (zL (i64 (leftQ n k y p b)), zw h F C)
  unfold leftQ
  by_cases c1 : 0 ≤ n ∧ n ≤ 6
  · by_cases c2 : 0 ≤ k ∧ k ≤ 6
    · by_cases c3 : 0 ≤ y ∧ y ≤ 3
      · by_cases c4 : 0 ≤ p ∧ p ≤ 10
        · rw [if_pos ⟨c1, c2, c3, c4⟩]
          have hr := hi_rng c1.1 c1.2 c2.1 c2.2 c3.1 c3.2 c4.1 c4.2
          have p6 := pw_6 (n := n) c1.2
          have p5 := pw_le (n := n) (by omega)
          unfold lefS
          generalize hA : (10 : Int) ^ y.toNat = A at hr
          generalize hS : (10 - p) ^ y.toNat = s at hr
          have L1 := zsm (fun t u => zr 316 39 [yR (some 72), yI (i32 n), yI (i32 k), yI (i32 y), yI (i32 p), yI (i32 b), yL (i64 s), none, yL (i64 (A - s)), none, yL (i64 u), none, yI (i32 t), none] [] (zw h F C)) (fun t => if k ≤ bitsS t then s ^ (bitsS t).toNat * (A - s) ^ (n - bitsS t).toNat else 0) (2 ^ n.toNat) (by omega) (fun t u t0 t1 => by
            have b3 := bitsS_rng t
            have bn := bits_n (s := t) (n := n) t0 (by omega) (by omega) t1
            rw [e_Model_left_39]
            by_cases cb : k ≤ bitsS t
            · simp (disch := omega) only [if_true, if_false, not_true_eq_false, not_false_eq_true, zoI_s, zoR_s, zoH_s, zoL_s, zbI_s, zbV_s, zbR_s, zbL_s, zif_dec, i32_0, ne_eq, i32_lt, i32_le, i32_eq, i32_add, i32_mul, i32_sub, i32_neg, zrz_0, zrz_1, zif_t, zif_f, zsF_s, zsF_k, zsF_a, zsC_s, zsC_a, zsC_i, zsW_s, zsW_a, Int.add_zero, Int.zero_add, true_and, false_and, and_false, Bool.false_eq_true, decide_true, decide_false, Bool.true_and, Bool.false_and, Bool.true_or, Bool.false_or, sub1, if_pos, if_neg, b_pow, m_bitsOf, m_power, i64_mul, i64_add]
            · simp (disch := omega) only [if_true, if_false, not_true_eq_false, not_false_eq_true, zoI_s, zoR_s, zoH_s, zoL_s, zbI_s, zbV_s, zbR_s, zbL_s, zif_dec, i32_0, ne_eq, i32_lt, i32_le, i32_eq, i32_add, i32_mul, i32_sub, i32_neg, zrz_0, zrz_1, zif_t, zif_f, zsF_s, zsF_k, zsF_a, zsC_s, zsC_a, zsC_i, zsW_s, zsW_a, Int.add_zero, Int.zero_add, true_and, false_and, and_false, Bool.false_eq_true, decide_true, decide_false, Bool.true_and, Bool.false_and, Bool.true_or, Bool.false_or, sub1, if_pos, if_neg, b_pow, m_bitsOf]) 0
          rw [show sm (fun t => if k ≤ bitsS t then s ^ (bitsS t).toNat * (A - s) ^ (n - bitsS t).toNat else 0) (2 ^ n.toNat) = upS n k s (A - s) from rfl, up_hi c1.1 c1.2, Int.zero_add] at L1
          have gp := gI_p (a := A ^ n.toNat) (b := hiS n k s (A - s)) (by omega)
          have gl := gI_le (a := A ^ n.toNat) (b := hiS n k s (A - s)) (by omega)
          have gc := gI_c (hiS n k s (A - s)) (A ^ n.toNat)
          rw [e_Model_left]
          unfold lstT
          rw [if_neg (by omega)]
          by_cases cb : b = 0
          · simp (disch := omega) only [if_true, if_false, not_true_eq_false, not_false_eq_true, zoI_s, zoR_s, zoH_s, zoL_s, zbI_s, zbV_s, zbR_s, zbL_s, zif_dec, i32_0, ne_eq, i32_lt, i32_le, i32_eq, i32_add, i32_mul, i32_sub, i32_neg, zrz_0, zrz_1, zif_t, zif_f, zsF_s, zsF_k, zsF_a, zsC_s, zsC_a, zsC_i, zsW_s, zsW_a, Int.add_zero, Int.zero_add, true_and, false_and, and_false, Bool.false_eq_true, decide_true, decide_false, Bool.true_and, Bool.false_and, Bool.true_or, Bool.false_or, sub1, if_pos, if_neg, m_isIn, ib_0, m_power, i64_of32, i64_sub, hA, hS, L1]
            rw [e_Model_left_39]
            simp (disch := omega) only [if_true, if_false, not_true_eq_false, not_false_eq_true, zoI_s, zoR_s, zoH_s, zoL_s, zbI_s, zbV_s, zbR_s, zbL_s, zif_dec, i32_0, ne_eq, i32_lt, i32_le, i32_eq, i32_add, i32_mul, i32_sub, i32_neg, zrz_0, zrz_1, zif_t, zif_f, zsF_s, zsF_k, zsF_a, zsC_s, zsC_a, zsC_i, zsW_s, zsW_a, Int.add_zero, Int.zero_add, true_and, false_and, and_false, Bool.false_eq_true, decide_true, decide_false, Bool.true_and, Bool.false_and, Bool.true_or, Bool.false_or, sub1, if_pos, if_neg, b_pow, m_power, hA, m_common, gc, i64_0, i64_eq, i64_div]
          · simp (disch := omega) only [if_true, if_false, not_true_eq_false, not_false_eq_true, zoI_s, zoR_s, zoH_s, zoL_s, zbI_s, zbV_s, zbR_s, zbL_s, zif_dec, i32_0, ne_eq, i32_lt, i32_le, i32_eq, i32_add, i32_mul, i32_sub, i32_neg, zrz_0, zrz_1, zif_t, zif_f, zsF_s, zsF_k, zsF_a, zsC_s, zsC_a, zsC_i, zsW_s, zsW_a, Int.add_zero, Int.zero_add, true_and, false_and, and_false, Bool.false_eq_true, decide_true, decide_false, Bool.true_and, Bool.false_and, Bool.true_or, Bool.false_or, sub1, if_pos, if_neg, m_isIn, ib_0, m_power, i64_of32, i64_sub, hA, hS, L1]
            rw [e_Model_left_39]
            simp (disch := omega) only [if_true, if_false, not_true_eq_false, not_false_eq_true, zoI_s, zoR_s, zoH_s, zoL_s, zbI_s, zbV_s, zbR_s, zbL_s, zif_dec, i32_0, ne_eq, i32_lt, i32_le, i32_eq, i32_add, i32_mul, i32_sub, i32_neg, zrz_0, zrz_1, zif_t, zif_f, zsF_s, zsF_k, zsF_a, zsC_s, zsC_a, zsC_i, zsW_s, zsW_a, Int.add_zero, Int.zero_add, true_and, false_and, and_false, Bool.false_eq_true, decide_true, decide_false, Bool.true_and, Bool.false_and, Bool.true_or, Bool.false_or, sub1, if_pos, if_neg, b_pow, m_power, hA, m_common, gc, i64_0, i64_eq, i64_div]
        · rw [if_neg (fun z => c4 z.2.2.2)]
          simp (disch := omega) only [if_true, if_false, not_true_eq_false, not_false_eq_true, zoI_s, zoR_s, zoH_s, zoL_s, zbI_s, zbV_s, zbR_s, zbL_s, zif_dec, i32_0, ne_eq, i32_lt, i32_le, i32_eq, i32_add, i32_mul, i32_sub, i32_neg, zrz_0, zrz_1, zif_t, zif_f, zsF_s, zsF_k, zsF_a, zsC_s, zsC_a, zsC_i, zsW_s, zsW_a, Int.add_zero, Int.zero_add, true_and, false_and, and_false, Bool.false_eq_true, decide_true, decide_false, Bool.true_and, Bool.false_and, Bool.true_or, Bool.false_or, sub1, if_pos, if_neg, e_Model_left, m_isIn, ib_0]
      · rw [if_neg (fun z => c3 z.2.2.1)]
        simp (disch := omega) only [if_true, if_false, not_true_eq_false, not_false_eq_true, zoI_s, zoR_s, zoH_s, zoL_s, zbI_s, zbV_s, zbR_s, zbL_s, zif_dec, i32_0, ne_eq, i32_lt, i32_le, i32_eq, i32_add, i32_mul, i32_sub, i32_neg, zrz_0, zrz_1, zif_t, zif_f, zsF_s, zsF_k, zsF_a, zsC_s, zsC_a, zsC_i, zsW_s, zsW_a, Int.add_zero, Int.zero_add, true_and, false_and, and_false, Bool.false_eq_true, decide_true, decide_false, Bool.true_and, Bool.false_and, Bool.true_or, Bool.false_or, sub1, if_pos, if_neg, e_Model_left, m_isIn, ib_0]
    · rw [if_neg (fun z => c2 z.2.1)]
      simp (disch := omega) only [if_true, if_false, not_true_eq_false, not_false_eq_true, zoI_s, zoR_s, zoH_s, zoL_s, zbI_s, zbV_s, zbR_s, zbL_s, zif_dec, i32_0, ne_eq, i32_lt, i32_le, i32_eq, i32_add, i32_mul, i32_sub, i32_neg, zrz_0, zrz_1, zif_t, zif_f, zsF_s, zsF_k, zsF_a, zsC_s, zsC_a, zsC_i, zsW_s, zsW_a, Int.add_zero, Int.zero_add, true_and, false_and, and_false, Bool.false_eq_true, decide_true, decide_false, Bool.true_and, Bool.false_and, Bool.true_or, Bool.false_or, sub1, if_pos, if_neg, e_Model_left, m_isIn, ib_0]
  · rw [if_neg (fun z => c1 z.1)]
    simp (disch := omega) only [if_true, if_false, not_true_eq_false, not_false_eq_true, zoI_s, zoR_s, zoH_s, zoL_s, zbI_s, zbV_s, zbR_s, zbL_s, zif_dec, i32_0, ne_eq, i32_lt, i32_le, i32_eq, i32_add, i32_mul, i32_sub, i32_neg, zrz_0, zrz_1, zif_t, zif_f, zsF_s, zsF_k, zsF_a, zsC_s, zsC_a, zsC_i, zsW_s, zsW_a, Int.add_zero, Int.zero_add, true_and, false_and, and_false, Bool.false_eq_true, decide_true, decide_false, Bool.true_and, Bool.false_and, Bool.true_or, Bool.false_or, sub1, if_pos, if_neg, e_Model_left, m_isIn, ib_0]
