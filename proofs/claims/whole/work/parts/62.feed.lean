/-! bytes; feed, end -/
theorem toI_U (x : Int32) : (x.toInt = (x.toBitVec.toNat : Int) ∨ x.toInt = (x.toBitVec.toNat : Int) - 4294967296) ∧ x.toBitVec.toNat < 4294967296 := by
  refine ⟨?_, x.toBitVec.isLt⟩
  have e := BitVec.toInt_eq_toNat_cond x.toBitVec
  show x.toBitVec.toInt = _ ∨ x.toBitVec.toInt = _
  rw [e]
  split
  · left; rfl
  · right; rfl
theorem bmod_sgn (z : Int) : z.bmod (2 ^ 8) = sgn (z % 256) := by
  unfold sgn
  show (if z % 256 < (256 + 1) / 2 then z % 256 else z % 256 - 256) = _
  rfl
theorem c_byteS (x y : Int32) (c : UInt32) (s : Nat) (hy : y.toUInt32 &&& Int32.toUInt32 31 = c) (hc : c.toNat % 32 = s) : (znar 1 (zi2b (zushr x y))).toInt = sgn (((x.toBitVec.toNat / 2 ^ s : Nat) : Int) % 256) := by
  unfold znar zi2b zushr
  rw [if_pos rfl, hy, Int8.toInt_toInt32, Int32.toInt_toInt8, Int8.toInt_toInt32, Int32.toInt_toInt8]
  have e : (x.toUInt32 >>> c).toInt32.toInt = (((x.toBitVec.toNat / 2 ^ s : Nat) : Int)).bmod (2 ^ 32) := by
    show (x.toUInt32 >>> c).toBitVec.toInt = _
    rw [BitVec.toInt_eq_toNat_bmod]
    have e2 : (x.toUInt32 >>> c).toBitVec.toNat = x.toBitVec.toNat / 2 ^ s := by
      show (x.toUInt32 >>> c).toNat = _
      rw [UInt32.toNat_shiftRight, Nat.shiftRight_eq_div_pow, hc]
      rfl
    rw [e2]
  rw [e, Int.bmod_bmod_of_dvd (by decide), Int.bmod_bmod_of_dvd (by decide), bmod_sgn]
/-- of a number the k-th byte, the highest first -/
def byt (w k : Int) : Int := if k = 0 then w / 16777216 % 256 else if k = 1 then w / 65536 % 256 else if k = 2 then w / 256 % 256 else w % 256
theorem byt_rng (w k : Int) : 0 ≤ byt w k ∧ byt w k ≤ 255 := by
  unfold byt
  split
  · omega
  · split
    · omega
    · split <;> omega
theorem sgn_rng {x : Int} (h0 : 0 ≤ x) (h1 : x ≤ 255) : -128 ≤ sgn x ∧ sgn x ≤ 127 := by
  unfold sgn
  split <;> omega
theorem c_byte0 {w : Int} (h1 : -2147483648 ≤ w) (h2 : w < 2147483648) : znar 1 (zi2b (zushr (i32 w) (i32 24))) = i32 (sgn (byt w 0)) := by
  have u := toI_U (i32 w)
  rw [i32_int h1 h2] at u
  have r := byt_rng w 0
  have r2 := sgn_rng r.1 r.2
  rw [← Int32.toInt_inj, c_byteS (i32 w) (i32 24) 24 24 (by decide) (by decide), i32_int (by omega) (by omega)]
  congr 1
  show _ = w / 16777216 % 256
  omega
theorem c_byte1 {w : Int} (h1 : -2147483648 ≤ w) (h2 : w < 2147483648) : znar 1 (zi2b (zushr (i32 w) (i32 16))) = i32 (sgn (byt w 1)) := by
  have u := toI_U (i32 w)
  rw [i32_int h1 h2] at u
  have r := byt_rng w 1
  have r2 := sgn_rng r.1 r.2
  rw [← Int32.toInt_inj, c_byteS (i32 w) (i32 16) 16 16 (by decide) (by decide), i32_int (by omega) (by omega)]
  congr 1
  show _ = w / 65536 % 256
  omega
theorem c_byte2 {w : Int} (h1 : -2147483648 ≤ w) (h2 : w < 2147483648) : znar 1 (zi2b (zushr (i32 w) (i32 8))) = i32 (sgn (byt w 2)) := by
  have u := toI_U (i32 w)
  rw [i32_int h1 h2] at u
  have r := byt_rng w 2
  have r2 := sgn_rng r.1 r.2
  rw [← Int32.toInt_inj, c_byteS (i32 w) (i32 8) 8 8 (by decide) (by decide), i32_int (by omega) (by omega)]
  congr 1
  show _ = w / 256 % 256
  omega
theorem c_byte3 {w : Int} (h1 : -2147483648 ≤ w) (h2 : w < 2147483648) : znar 1 (zi2b (zushr (i32 w) (i32 0))) = i32 (sgn (byt w 3)) := by
  have u := toI_U (i32 w)
  rw [i32_int h1 h2] at u
  have r := byt_rng w 3
  have r2 := sgn_rng r.1 r.2
  rw [← Int32.toInt_inj, c_byteS (i32 w) (i32 0) 0 0 (by decide) (by decide), i32_int (by omega) (by omega)]
  congr 1
  show _ = w % 256
  omega
theorem m_and255 (v : Int32) : v &&& i32 255 = i32 (v.toInt % 256) := by
  have u := toI_U v
  rw [← Int32.toInt_inj, i32_int (by omega) (by omega)]
  have e : (v &&& i32 255).toBitVec.toNat = v.toBitVec.toNat % 256 := by
    rw [Int32.toBitVec_and, BitVec.toNat_and]
    show v.toBitVec.toNat &&& (2 ^ 8 - 1) = _
    rw [Nat.and_two_pow_sub_one_eq_mod]
  have u2 := toI_U (v &&& i32 255)
  rw [e] at u2
  have u3 := BitVec.toInt_eq_toNat_cond (v &&& i32 255).toBitVec
  show (v &&& i32 255).toBitVec.toInt = _
  rw [u3, e]
  split
  · omega
  · omega
theorem m_shr (x y : Int32) (s : Nat) (hy : ((y &&& 31).toBitVec.smod 32).toNat = s) : (zshr x y).toInt = x.toInt / ((2 ^ s : Nat) : Int) := by
  unfold zshr
  show (x >>> (y &&& 31)).toBitVec.toInt = _
  rw [Int32.toBitVec_shiftRight, BitVec.toInt_sshiftRight', hy, Int.shiftRight_eq_div_pow]
  rfl
theorem m_byte {w k : Int} (h1 : -2147483648 ≤ w) (h2 : w < 2147483648) (k0 : 0 ≤ k) (k1 : k ≤ 3) : zshr (i32 w) (i32 (24 - 8 * k)) &&& i32 255 = i32 (byt w k) := by
  rw [m_and255]
  rcases (show k = 0 ∨ k = 1 ∨ k = 2 ∨ k = 3 by omega) with rfl | rfl | rfl | rfl
  · rw [show (24 : Int) - 8 * 0 = 24 from rfl, m_shr (i32 w) (i32 24) 24 (by decide), i32_int h1 h2]; rfl
  · rw [show (24 : Int) - 8 * 1 = 16 from rfl, m_shr (i32 w) (i32 16) 16 (by decide), i32_int h1 h2]; rfl
  · rw [show (24 : Int) - 8 * 2 = 8 from rfl, m_shr (i32 w) (i32 8) 8 (by decide), i32_int h1 h2]; rfl
  · rw [show (24 : Int) - 8 * 3 = 0 from rfl, m_shr (i32 w) (i32 0) 0 (by decide), i32_int h1 h2]
    show i32 (w / 1 % 256) = i32 (w % 256)
    rw [Int.ediv_one]
/-- four bytes from n on -/
def ap4 (f : Int → Int) (n w : Int) : Int → Int := fun j => if n ≤ j ∧ j < n + 4 then sgn (byt w (j - n)) else f j
theorem ap4_eq (f : Int → Int) (n w : Int) : up1 (up1 (up1 (up1 f n (sgn (byt w 0))) (n + 1) (sgn (byt w 1))) (n + 2) (sgn (byt w 2))) (n + 3) (sgn (byt w 3)) = ap4 f n w := by
  funext j
  unfold up1 ap4
  by_cases c3 : j = n + 3
  · rw [if_pos c3, if_pos (by omega), show j - n = 3 by omega]
  · rw [if_neg c3]
    by_cases c2 : j = n + 2
    · rw [if_pos c2, if_pos (by omega), show j - n = 2 by omega]
    · rw [if_neg c2]
      by_cases c1 : j = n + 1
      · rw [if_pos c1, if_pos (by omega), show j - n = 1 by omega]
      · rw [if_neg c1]
        by_cases c0 : j = n
        · rw [if_pos c0, if_pos (by omega), show j - n = 0 by omega]
        · rw [if_neg c0, if_neg (by omega)]
section FE
variable {h : zHeap} {F : Nat → Nat → Int} {C : Nat → Int → Int}
theorem c_append (S : St h) {n w : Int} (hn : F 513 2 = n) (n0 : 0 ≤ n) (n1 : n ≤ 596) (h1 : -2147483648 ≤ w) (h2 : w < 2147483648) : zc 135 [zR (some 2), zI (i32 w)] (zw h F C) = some (zI 0, zw h (zsF F 513 2 (n + 4)) (zsW C 3 (ap4 (C 3) n w))) := by
  have z0 := fun F C (i : Int) (i0 : 0 ≤ i) (i1 : i < 600) => ps_3 (F := F) (C := C) S i0 i1 (c_byte0 h1 h2)
  have z1 := fun F C (i : Int) (i0 : 0 ≤ i) (i1 : i < 600) => ps_3 (F := F) (C := C) S i0 i1 (c_byte1 h1 h2)
  have z2 := fun F C (i : Int) (i0 : 0 ≤ i) (i1 : i < 600) => ps_3 (F := F) (C := C) S i0 i1 (c_byte2 h1 h2)
  have z3 := fun F C (i : Int) (i0 : 0 ≤ i) (i1 : i < 600) => ps_3 (F := F) (C := C) S i0 i1 (c_byte3 h1 h2)
  rw [e_Tape_append, e_Tape_append_2]
  simp (disch := omega) only [if_true, if_false, not_true_eq_false, not_false_eq_true, zoI_s, zoR_s, zoH_s, zoL_s, zbI_s, zbV_s, zbR_s, zbL_s, zif_dec, i32_0, ne_eq, i32_lt, i32_le, i32_eq, i32_add, i32_mul, i32_sub, i32_neg, zrz_0, zrz_1, zif_t, zif_f, zsF_s, zsF_k, zsF_a, zsC_s, zsC_a, zsC_i, zsW_s, zsW_a, Int.add_zero, Int.zero_add, true_and, false_and, and_false, Bool.false_eq_true, decide_true, decide_false, Bool.true_and, Bool.false_and, Bool.true_or, Bool.false_or, sub1, and_true, if_pos, if_neg, pg_513 S, pr_512 S, pp_513 S, hn, z0]
  rw [show (24 : Int) + -8 = 16 from rfl, e_Tape_append_2]
  simp (disch := omega) only [if_true, if_false, not_true_eq_false, not_false_eq_true, zoI_s, zoR_s, zoH_s, zoL_s, zbI_s, zbV_s, zbR_s, zbL_s, zif_dec, i32_0, ne_eq, i32_lt, i32_le, i32_eq, i32_add, i32_mul, i32_sub, i32_neg, zrz_0, zrz_1, zif_t, zif_f, zsF_s, zsF_k, zsF_a, zsC_s, zsC_a, zsC_i, zsW_s, zsW_a, Int.add_zero, Int.zero_add, true_and, false_and, and_false, Bool.false_eq_true, decide_true, decide_false, Bool.true_and, Bool.false_and, Bool.true_or, Bool.false_or, sub1, and_true, if_pos, if_neg, pg_513 S, pr_512 S, pp_513 S, z1, zsF_ss]
  rw [show (16 : Int) + -8 = 8 from rfl, e_Tape_append_2]
  simp (disch := omega) only [if_true, if_false, not_true_eq_false, not_false_eq_true, zoI_s, zoR_s, zoH_s, zoL_s, zbI_s, zbV_s, zbR_s, zbL_s, zif_dec, i32_0, ne_eq, i32_lt, i32_le, i32_eq, i32_add, i32_mul, i32_sub, i32_neg, zrz_0, zrz_1, zif_t, zif_f, zsF_s, zsF_k, zsF_a, zsC_s, zsC_a, zsC_i, zsW_s, zsW_a, Int.add_zero, Int.zero_add, true_and, false_and, and_false, Bool.false_eq_true, decide_true, decide_false, Bool.true_and, Bool.false_and, Bool.true_or, Bool.false_or, sub1, and_true, if_pos, if_neg, pg_513 S, pr_512 S, pp_513 S, z2, zsF_ss]
  rw [show (8 : Int) + -8 = 0 from rfl, e_Tape_append_2]
  simp (disch := omega) only [if_true, if_false, not_true_eq_false, not_false_eq_true, zoI_s, zoR_s, zoH_s, zoL_s, zbI_s, zbV_s, zbR_s, zbL_s, zif_dec, i32_0, ne_eq, i32_lt, i32_le, i32_eq, i32_add, i32_mul, i32_sub, i32_neg, zrz_0, zrz_1, zif_t, zif_f, zsF_s, zsF_k, zsF_a, zsC_s, zsC_a, zsC_i, zsW_s, zsW_a, Int.add_zero, Int.zero_add, true_and, false_and, and_false, Bool.false_eq_true, decide_true, decide_false, Bool.true_and, Bool.false_and, Bool.true_or, Bool.false_or, sub1, and_true, if_pos, if_neg, pg_513 S, pr_512 S, pp_513 S, z3, zsF_ss]
  rw [e_Tape_append_2]
  simp (disch := omega) only [if_true, if_false, not_true_eq_false, not_false_eq_true, zoI_s, zoR_s, zoH_s, zoL_s, zbI_s, zbV_s, zbR_s, zbL_s, zif_dec, i32_0, ne_eq, i32_lt, i32_le, i32_eq, i32_add, i32_mul, i32_sub, i32_neg, zrz_0, zrz_1, zif_t, zif_f, zsF_s, zsF_k, zsF_a, zsC_s, zsC_a, zsC_i, zsW_s, zsW_a, Int.add_zero, Int.zero_add, true_and, false_and, and_false, Bool.false_eq_true, decide_true, decide_false, Bool.true_and, Bool.false_and, Bool.true_or, Bool.false_or, sub1, and_true, if_pos, if_neg, zsC_W, zsW_W]
  rw [show n + 1 + 1 = n + 2 by omega, show n + 2 + 1 = n + 3 by omega, show n + 3 + 1 = n + 4 by omega, ap4_eq]
end FE
def fdw (a b c d e i : Int) : Int := if i < 4 then a else if i < 8 then b else if i < 12 then c else if i < 16 then d else e
def fdb (a b c d e i : Int) : Int := byt (fdw a b c d e i) (i % 4)
def fdC (f : Int → Int) (n a b c d e : Int) : Int → Int := fun j => if n ≤ j ∧ j < n + 20 then sgn (fdb a b c d e (j - n)) else f j
theorem fdC_eq (f : Int → Int) (n a b c d e : Int) : ap4 (ap4 (ap4 (ap4 (ap4 f n a) (n + 4) b) (n + 8) c) (n + 12) d) (n + 16) e = fdC f n a b c d e := by
  funext j
  unfold ap4 fdC fdb fdw
  by_cases c5 : n + 16 ≤ j ∧ j < n + 16 + 4
  · rw [if_pos c5, if_pos (by omega), if_neg (by omega), if_neg (by omega), if_neg (by omega), if_neg (by omega), show j - (n + 16) = (j - n) % 4 by omega]
  · rw [if_neg c5]
    by_cases c4 : n + 12 ≤ j ∧ j < n + 12 + 4
    · rw [if_pos c4, if_pos (by omega), if_neg (by omega), if_neg (by omega), if_neg (by omega), if_pos (by omega), show j - (n + 12) = (j - n) % 4 by omega]
    · rw [if_neg c4]
      by_cases c3 : n + 8 ≤ j ∧ j < n + 8 + 4
      · rw [if_pos c3, if_pos (by omega), if_neg (by omega), if_neg (by omega), if_pos (by omega), show j - (n + 8) = (j - n) % 4 by omega]
      · rw [if_neg c3]
        by_cases c2 : n + 4 ≤ j ∧ j < n + 4 + 4
        · rw [if_pos c2, if_pos (by omega), if_neg (by omega), if_pos (by omega), show j - (n + 4) = (j - n) % 4 by omega]
        · rw [if_neg c2]
          by_cases c1 : n ≤ j ∧ j < n + 4
          · rw [if_pos c1, if_pos (by omega), if_pos (by omega), show j - n = (j - n) % 4 by omega, show (j - n) % 4 % 4 = (j - n) % 4 by omega]
          · rw [if_neg c1, if_neg (by omega)]
section FE2
variable {h : zHeap} {F : Nat → Nat → Int} {C : Nat → Int → Int}
theorem c_feed (S : St h) {n a b c d e : Int} (hn : F 513 2 = n) (n0 : 0 ≤ n) (n1 : n ≤ 580) (ha : inI a) (hb : inI b) (hc : inI c) (hd : inI d) (he : inI e) : zc 150 [zR (some 0), zI (i32 a), zI (i32 b), zI (i32 c), zI (i32 d), zI (i32 e)] (zw h F C) = some (zI (i32 (n + 20)), zw h (zsF F 513 2 (n + 20)) (zsW C 3 (fdC (C 3) n a b c d e))) := by
  unfold inI at ha hb hc hd he
  have z1 := c_append (F := F) (C := C) S hn n0 (by omega) ha.1 ha.2
  have z2 := c_append (F := zsF F 513 2 (n + 4)) (C := zsW C 3 (ap4 (C 3) n a)) S (n := n + 4) rfl (by omega) (by omega) hb.1 hb.2
  rw [zsF_ss, zsW_W, zsW_s] at z2
  have z3 := c_append (F := zsF F 513 2 (n + 4 + 4)) (C := zsW C 3 (ap4 (ap4 (C 3) n a) (n + 4) b)) S (n := n + 4 + 4) rfl (by omega) (by omega) hc.1 hc.2
  rw [zsF_ss, zsW_W, zsW_s] at z3
  have z4 := c_append (F := zsF F 513 2 (n + 4 + 4 + 4)) (C := zsW C 3 (ap4 (ap4 (ap4 (C 3) n a) (n + 4) b) (n + 4 + 4) c)) S (n := n + 4 + 4 + 4) rfl (by omega) (by omega) hd.1 hd.2
  rw [zsF_ss, zsW_W, zsW_s] at z4
  have z5 := c_append (F := zsF F 513 2 (n + 4 + 4 + 4 + 4)) (C := zsW C 3 (ap4 (ap4 (ap4 (ap4 (C 3) n a) (n + 4) b) (n + 4 + 4) c) (n + 4 + 4 + 4) d)) S (n := n + 4 + 4 + 4 + 4) rfl (by omega) (by omega) he.1 he.2
  rw [zsF_ss, zsW_W, zsW_s] at z5
  rw [e_Main_feed]
  simp (disch := omega) only [if_true, if_false, not_true_eq_false, not_false_eq_true, zoI_s, zoR_s, zoH_s, zoL_s, zbI_s, zbV_s, zbR_s, zbL_s, zif_dec, i32_0, ne_eq, i32_lt, i32_le, i32_eq, i32_add, i32_mul, i32_sub, i32_neg, zrz_0, zrz_1, zif_t, zif_f, zsF_s, zsF_k, zsF_a, zsC_s, zsC_a, zsC_i, zsW_s, zsW_a, Int.add_zero, Int.zero_add, true_and, false_and, and_false, Bool.false_eq_true, decide_true, decide_false, Bool.true_and, Bool.false_and, Bool.true_or, Bool.false_or, sub1, and_true, if_pos, if_neg, wv_0 S, wr_704 S, wr_705 S, wr_706 S, wr_707 S, wr_708 S, wr_709 S, wr_710 S, wr_711 S, tr_576 S, pg_513 S, pv_2 S, hn, z1, z2, z3, z4, z5]
  rw [← fdC_eq, show n + 4 + 4 + 4 + 4 + 4 = n + 20 by omega, show n + 4 + 4 = n + 8 by omega, show n + 8 + 4 = n + 12 by omega, show n + 12 + 4 = n + 16 by omega]
theorem c_feed0 (S : St h) {n a b c d e : Int} (hn : F 513 2 = n) (n0 : 580 < n) (n1 : n ≤ 600) : zc 150 [zR (some 0), zI (i32 a), zI (i32 b), zI (i32 c), zI (i32 d), zI (i32 e)] (zw h F C) = some (zI (i32 (-1)), zw h F C) := by
  rw [e_Main_feed]
  simp (disch := omega) only [if_true, if_false, not_true_eq_false, not_false_eq_true, zoI_s, zoR_s, zoH_s, zoL_s, zbI_s, zbV_s, zbR_s, zbL_s, zif_dec, i32_0, ne_eq, i32_lt, i32_le, i32_eq, i32_add, i32_mul, i32_sub, i32_neg, zrz_0, zrz_1, zif_t, zif_f, zsF_s, zsF_k, zsF_a, zsC_s, zsC_a, zsC_i, zsW_s, zsW_a, Int.add_zero, Int.zero_add, true_and, false_and, and_false, Bool.false_eq_true, decide_true, decide_false, Bool.true_and, Bool.false_and, Bool.true_or, Bool.false_or, sub1, and_true, if_pos, if_neg, wv_0 S, wr_704 S, wr_705 S, wr_706 S, wr_707 S, wr_708 S, wr_709 S, wr_710 S, wr_711 S, tr_576 S, pg_513 S, hn]
def fdM (f : Int → Int) (n a b c d e i : Int) : Int → Int := fun j => if j = 4 then n + i else if 10 + n ≤ j ∧ j < 10 + n + i then fdb a b c d e (j - 10 - n) else f j
theorem m_feed (S : St h) {n a b c d e : Int} (hn : C 73 4 = n) (n0 : 0 ≤ n) (n1 : n ≤ 580) (ha : inI a) (hb : inI b) (hc : inI c) (hd : inI d) (he : inI e) : zc 201 [zR (some 72), zI (i32 a), zI (i32 b), zI (i32 c), zI (i32 d), zI (i32 e)] (zw h F C) = some (zI (i32 (n + 20)), zw h F (zsW C 73 (fdM (C 73) n a b c d e 20))) := by
  unfold inI at ha hb hc hd he
  have wr : ∀ i, -2147483648 ≤ fdw a b c d e i ∧ fdw a b c d e i < 2147483648 := by
    intro i
    unfold fdw
    split
    · exact ha
    · split
      · exact hb
      · split
        · exact hc
        · split
          · exact hd
          · exact he
  obtain ⟨⟨w7, f⟩, e1, I⟩ := zinv (fun i (q : Option zVal × (Int → Int)) => zr 201 12 [yR (some 72), yI (i32 a), yI (i32 b), yI (i32 c), yI (i32 d), yI (i32 e), yI (i32 i), q.1] [] (zw h F (zsW C 73 q.2))) (fun i q => q.2 = fdM (C 73) n a b c d e i) 0 20 (by omega) (fun i q i0 i1 I => by
    obtain ⟨w7, f⟩ := q
    dsimp only at I ⊢
    subst I
    have e4 : fdM (C 73) n a b c d e i 4 = n + i := if_pos rfl
    have go : zr 201 12 [yR (some 72), yI (i32 a), yI (i32 b), yI (i32 c), yI (i32 d), yI (i32 e), yI (i32 i), w7] [] (zw h F (zsW C 73 (fdM (C 73) n a b c d e i))) = zr 201 36 [yR (some 72), yI (i32 a), yI (i32 b), yI (i32 c), yI (i32 d), yI (i32 e), yI (i32 i), w7] [zI (i32 (fdw a b c d e i))] (zw h F (zsW C 73 (fdM (C 73) n a b c d e i))) := by
      rw [e_Model_feed_12]
      unfold fdw
      by_cases c1 : i < 4
      · simp (disch := omega) only [if_true, if_false, not_true_eq_false, not_false_eq_true, zoI_s, zoR_s, zoH_s, zoL_s, zbI_s, zbV_s, zbR_s, zbL_s, zif_dec, i32_0, ne_eq, i32_lt, i32_le, i32_eq, i32_add, i32_mul, i32_sub, i32_neg, zrz_0, zrz_1, zif_t, zif_f, zsF_s, zsF_k, zsF_a, zsC_s, zsC_a, zsC_i, zsW_s, zsW_a, Int.add_zero, Int.zero_add, true_and, false_and, and_false, Bool.false_eq_true, decide_true, decide_false, Bool.true_and, Bool.false_and, Bool.true_or, Bool.false_or, sub1, and_true, if_pos, if_neg]
      · by_cases c2 : i < 8
        · simp (disch := omega) only [if_true, if_false, not_true_eq_false, not_false_eq_true, zoI_s, zoR_s, zoH_s, zoL_s, zbI_s, zbV_s, zbR_s, zbL_s, zif_dec, i32_0, ne_eq, i32_lt, i32_le, i32_eq, i32_add, i32_mul, i32_sub, i32_neg, zrz_0, zrz_1, zif_t, zif_f, zsF_s, zsF_k, zsF_a, zsC_s, zsC_a, zsC_i, zsW_s, zsW_a, Int.add_zero, Int.zero_add, true_and, false_and, and_false, Bool.false_eq_true, decide_true, decide_false, Bool.true_and, Bool.false_and, Bool.true_or, Bool.false_or, sub1, and_true, if_pos, if_neg]
        · by_cases c3 : i < 12
          · simp (disch := omega) only [if_true, if_false, not_true_eq_false, not_false_eq_true, zoI_s, zoR_s, zoH_s, zoL_s, zbI_s, zbV_s, zbR_s, zbL_s, zif_dec, i32_0, ne_eq, i32_lt, i32_le, i32_eq, i32_add, i32_mul, i32_sub, i32_neg, zrz_0, zrz_1, zif_t, zif_f, zsF_s, zsF_k, zsF_a, zsC_s, zsC_a, zsC_i, zsW_s, zsW_a, Int.add_zero, Int.zero_add, true_and, false_and, and_false, Bool.false_eq_true, decide_true, decide_false, Bool.true_and, Bool.false_and, Bool.true_or, Bool.false_or, sub1, and_true, if_pos, if_neg]
          · by_cases c4 : i < 16
            · simp (disch := omega) only [if_true, if_false, not_true_eq_false, not_false_eq_true, zoI_s, zoR_s, zoH_s, zoL_s, zbI_s, zbV_s, zbR_s, zbL_s, zif_dec, i32_0, ne_eq, i32_lt, i32_le, i32_eq, i32_add, i32_mul, i32_sub, i32_neg, zrz_0, zrz_1, zif_t, zif_f, zsF_s, zsF_k, zsF_a, zsC_s, zsC_a, zsC_i, zsW_s, zsW_a, Int.add_zero, Int.zero_add, true_and, false_and, and_false, Bool.false_eq_true, decide_true, decide_false, Bool.true_and, Bool.false_and, Bool.true_or, Bool.false_or, sub1, and_true, if_pos, if_neg]
            · simp (disch := omega) only [if_true, if_false, not_true_eq_false, not_false_eq_true, zoI_s, zoR_s, zoH_s, zoL_s, zbI_s, zbV_s, zbR_s, zbL_s, zif_dec, i32_0, ne_eq, i32_lt, i32_le, i32_eq, i32_add, i32_mul, i32_sub, i32_neg, zrz_0, zrz_1, zif_t, zif_f, zsF_s, zsF_k, zsF_a, zsC_s, zsC_a, zsC_i, zsW_s, zsW_a, Int.add_zero, Int.zero_add, true_and, false_and, and_false, Bool.false_eq_true, decide_true, decide_false, Bool.true_and, Bool.false_and, Bool.true_or, Bool.false_or, sub1, and_true, if_pos, if_neg]
    have mb := m_byte (k := i % 4) (wr i).1 (wr i).2 (by omega) (by omega)
    refine ⟨(yI (i32 (fdw a b c d e i)), up1 (up1 (fdM (C 73) n a b c d e i) (10 + (n + i)) (fdb a b c d e i)) 4 (n + i + 1)), ?_, ?_⟩
    · rw [go, e_Model_feed_36]
      have e5 : up1 (fdM (C 73) n a b c d e i) (10 + (n + i)) (fdb a b c d e i) 4 = n + i := by rw [up1_n (by omega), e4]
      simp (disch := omega) only [if_true, if_false, not_true_eq_false, not_false_eq_true, zoI_s, zoR_s, zoH_s, zoL_s, zbI_s, zbV_s, zbR_s, zbL_s, zif_dec, i32_0, ne_eq, i32_lt, i32_le, i32_eq, i32_add, i32_mul, i32_sub, i32_neg, zrz_0, zrz_1, zif_t, zif_f, zsF_s, zsF_k, zsF_a, zsC_s, zsC_a, zsC_i, zsW_s, zsW_a, Int.add_zero, Int.zero_add, true_and, false_and, and_false, Bool.false_eq_true, decide_true, decide_false, Bool.true_and, Bool.false_and, Bool.true_or, Bool.false_or, sub1, and_true, if_pos, if_neg, wv_72 S, wr_768 S, wr_769 S, wr_777 S, wr_785 S, wr_786 S, wr_787 S, wr_789 S, wr_790 S, wr_791 S, wr_802 S, wr_803 S, wr_804 S, wr_805 S, wr_806 S, wr_807 S, wr_809 S, wg_770 S, wp_770 S, wg_771 S, wp_771 S, wg_772 S, wp_772 S, wg_773 S, wp_773 S, wg_774 S, wp_774 S, wg_775 S, wp_775 S, wg_776 S, wp_776 S, wg_778 S, wp_778 S, wg_779 S, wp_779 S, wg_780 S, wp_780 S, wg_781 S, wp_781 S, wg_782 S, wp_782 S, wg_783 S, wp_783 S, wg_784 S, wp_784 S, wg_788 S, wp_788 S, wg_792 S, wp_792 S, wg_793 S, wp_793 S, wg_794 S, wp_794 S, wg_795 S, wp_795 S, wg_796 S, wp_796 S, wg_797 S, wp_797 S, wg_798 S, wp_798 S, wg_799 S, wp_799 S, wg_800 S, wp_800 S, wg_801 S, wp_801 S, wg_808 S, wp_808 S, wg_810 S, wp_810 S, wa_73 S, ws_73 S, e4, i32_rem, mb, zsC_W, zsW_W]
      rw [show byt (fdw a b c d e i) (i % 4) = fdb a b c d e i from rfl, e5]
    · dsimp only
      funext j
      unfold up1 fdM
      by_cases c1 : j = 4
      · rw [if_pos c1, if_pos c1]; omega
      · rw [if_neg c1, if_neg c1, if_neg c1]
        by_cases c2 : j = 10 + (n + i)
        · rw [if_pos c2, if_pos (by omega), show j - 10 - n = i by omega]
        · rw [if_neg c2]
          by_cases c3 : 10 + n ≤ j ∧ j < 10 + n + i
          · rw [if_pos c3, if_pos (by omega)]
          · rw [if_neg c3, if_neg (by omega)]) (none, C 73) (by
      dsimp only
      funext j
      unfold fdM
      by_cases c1 : j = 4
      · rw [if_pos c1, c1, hn]; omega
      · rw [if_neg c1, if_neg (by omega)])
  dsimp only at e1 I
  rw [zsW_id] at e1
  subst I
  have e4 : fdM (C 73) n a b c d e 20 4 = n + 20 := if_pos rfl
  rw [e_Model_feed]
  simp (disch := omega) only [if_true, if_false, not_true_eq_false, not_false_eq_true, zoI_s, zoR_s, zoH_s, zoL_s, zbI_s, zbV_s, zbR_s, zbL_s, zif_dec, i32_0, ne_eq, i32_lt, i32_le, i32_eq, i32_add, i32_mul, i32_sub, i32_neg, zrz_0, zrz_1, zif_t, zif_f, zsF_s, zsF_k, zsF_a, zsC_s, zsC_a, zsC_i, zsW_s, zsW_a, Int.add_zero, Int.zero_add, true_and, false_and, and_false, Bool.false_eq_true, decide_true, decide_false, Bool.true_and, Bool.false_and, Bool.true_or, Bool.false_or, sub1, and_true, if_pos, if_neg, wv_72 S, wr_768 S, wr_769 S, wr_777 S, wr_785 S, wr_786 S, wr_787 S, wr_789 S, wr_790 S, wr_791 S, wr_802 S, wr_803 S, wr_804 S, wr_805 S, wr_806 S, wr_807 S, wr_809 S, wg_770 S, wp_770 S, wg_771 S, wp_771 S, wg_772 S, wp_772 S, wg_773 S, wp_773 S, wg_774 S, wp_774 S, wg_775 S, wp_775 S, wg_776 S, wp_776 S, wg_778 S, wp_778 S, wg_779 S, wp_779 S, wg_780 S, wp_780 S, wg_781 S, wp_781 S, wg_782 S, wp_782 S, wg_783 S, wp_783 S, wg_784 S, wp_784 S, wg_788 S, wp_788 S, wg_792 S, wp_792 S, wg_793 S, wp_793 S, wg_794 S, wp_794 S, wg_795 S, wp_795 S, wg_796 S, wp_796 S, wg_797 S, wp_797 S, wg_798 S, wp_798 S, wg_799 S, wp_799 S, wg_800 S, wp_800 S, wg_801 S, wp_801 S, wg_808 S, wp_808 S, wg_810 S, wp_810 S, wa_73 S, ws_73 S, hn]
  rw [e1, e_Model_feed_12]
  simp (disch := omega) only [if_true, if_false, not_true_eq_false, not_false_eq_true, zoI_s, zoR_s, zoH_s, zoL_s, zbI_s, zbV_s, zbR_s, zbL_s, zif_dec, i32_0, ne_eq, i32_lt, i32_le, i32_eq, i32_add, i32_mul, i32_sub, i32_neg, zrz_0, zrz_1, zif_t, zif_f, zsF_s, zsF_k, zsF_a, zsC_s, zsC_a, zsC_i, zsW_s, zsW_a, Int.add_zero, Int.zero_add, true_and, false_and, and_false, Bool.false_eq_true, decide_true, decide_false, Bool.true_and, Bool.false_and, Bool.true_or, Bool.false_or, sub1, and_true, if_pos, if_neg, wv_72 S, wr_768 S, wr_769 S, wr_777 S, wr_785 S, wr_786 S, wr_787 S, wr_789 S, wr_790 S, wr_791 S, wr_802 S, wr_803 S, wr_804 S, wr_805 S, wr_806 S, wr_807 S, wr_809 S, wg_770 S, wp_770 S, wg_771 S, wp_771 S, wg_772 S, wp_772 S, wg_773 S, wp_773 S, wg_774 S, wp_774 S, wg_775 S, wp_775 S, wg_776 S, wp_776 S, wg_778 S, wp_778 S, wg_779 S, wp_779 S, wg_780 S, wp_780 S, wg_781 S, wp_781 S, wg_782 S, wp_782 S, wg_783 S, wp_783 S, wg_784 S, wp_784 S, wg_788 S, wp_788 S, wg_792 S, wp_792 S, wg_793 S, wp_793 S, wg_794 S, wp_794 S, wg_795 S, wp_795 S, wg_796 S, wp_796 S, wg_797 S, wp_797 S, wg_798 S, wp_798 S, wg_799 S, wp_799 S, wg_800 S, wp_800 S, wg_801 S, wp_801 S, wg_808 S, wp_808 S, wg_810 S, wp_810 S, wa_73 S, ws_73 S, e4]
theorem m_feed0 (S : St h) {n a b c d e : Int} (hn : C 73 4 = n) (n0 : 580 < n) (n1 : n ≤ 600) : zc 201 [zR (some 72), zI (i32 a), zI (i32 b), zI (i32 c), zI (i32 d), zI (i32 e)] (zw h F C) = some (zI (i32 (-1)), zw h F C) := by
  rw [e_Model_feed]
  simp (disch := omega) only [if_true, if_false, not_true_eq_false, not_false_eq_true, zoI_s, zoR_s, zoH_s, zoL_s, zbI_s, zbV_s, zbR_s, zbL_s, zif_dec, i32_0, ne_eq, i32_lt, i32_le, i32_eq, i32_add, i32_mul, i32_sub, i32_neg, zrz_0, zrz_1, zif_t, zif_f, zsF_s, zsF_k, zsF_a, zsC_s, zsC_a, zsC_i, zsW_s, zsW_a, Int.add_zero, Int.zero_add, true_and, false_and, and_false, Bool.false_eq_true, decide_true, decide_false, Bool.true_and, Bool.false_and, Bool.true_or, Bool.false_or, sub1, and_true, if_pos, if_neg, wv_72 S, wr_768 S, wr_769 S, wr_777 S, wr_785 S, wr_786 S, wr_787 S, wr_789 S, wr_790 S, wr_791 S, wr_802 S, wr_803 S, wr_804 S, wr_805 S, wr_806 S, wr_807 S, wr_809 S, wg_770 S, wp_770 S, wg_771 S, wp_771 S, wg_772 S, wp_772 S, wg_773 S, wp_773 S, wg_774 S, wp_774 S, wg_775 S, wp_775 S, wg_776 S, wp_776 S, wg_778 S, wp_778 S, wg_779 S, wp_779 S, wg_780 S, wp_780 S, wg_781 S, wp_781 S, wg_782 S, wp_782 S, wg_783 S, wp_783 S, wg_784 S, wp_784 S, wg_788 S, wp_788 S, wg_792 S, wp_792 S, wg_793 S, wp_793 S, wg_794 S, wp_794 S, wg_795 S, wp_795 S, wg_796 S, wp_796 S, wg_797 S, wp_797 S, wg_798 S, wp_798 S, wg_799 S, wp_799 S, wg_800 S, wp_800 S, wg_801 S, wp_801 S, wg_808 S, wp_808 S, wg_810 S, wp_810 S, wa_73 S, ws_73 S, hn]
theorem c_end (S : St h) {n x : Int} (hn : F 513 2 = n) (x0 : 0 ≤ x) (x1 : x ≤ n) (n1 : n ≤ 600) : zc 151 [zR (some 0), zI (i32 x)] (zw h F C) = some (zI (i32 x), zw h (zsF F 513 2 x) C) := by
  rw [e_Main_end]
  simp (disch := omega) only [if_true, if_false, not_true_eq_false, not_false_eq_true, zoI_s, zoR_s, zoH_s, zoL_s, zbI_s, zbV_s, zbR_s, zbL_s, zif_dec, i32_0, ne_eq, i32_lt, i32_le, i32_eq, i32_add, i32_mul, i32_sub, i32_neg, zrz_0, zrz_1, zif_t, zif_f, zsF_s, zsF_k, zsF_a, zsC_s, zsC_a, zsC_i, zsW_s, zsW_a, Int.add_zero, Int.zero_add, true_and, false_and, and_false, Bool.false_eq_true, decide_true, decide_false, Bool.true_and, Bool.false_and, Bool.true_or, Bool.false_or, sub1, and_true, if_pos, if_neg, wv_0 S, wr_704 S, wr_705 S, wr_706 S, wr_707 S, wr_708 S, wr_709 S, wr_710 S, wr_711 S, tr_576 S, pg_513 S, pp_513 S, hn]
theorem c_end0 (S : St h) {n x : Int} (hn : F 513 2 = n) (hx : inI x) (n0 : 0 ≤ n) (n1 : n ≤ 600) (hc : ¬ (0 ≤ x ∧ x ≤ n)) : zc 151 [zR (some 0), zI (i32 x)] (zw h F C) = some (zI (i32 (-1)), zw h F C) := by
  unfold inI at hx
  rw [e_Main_end]
  by_cases c : x < 0
  · simp (disch := omega) only [if_true, if_false, not_true_eq_false, not_false_eq_true, zoI_s, zoR_s, zoH_s, zoL_s, zbI_s, zbV_s, zbR_s, zbL_s, zif_dec, i32_0, ne_eq, i32_lt, i32_le, i32_eq, i32_add, i32_mul, i32_sub, i32_neg, zrz_0, zrz_1, zif_t, zif_f, zsF_s, zsF_k, zsF_a, zsC_s, zsC_a, zsC_i, zsW_s, zsW_a, Int.add_zero, Int.zero_add, true_and, false_and, and_false, Bool.false_eq_true, decide_true, decide_false, Bool.true_and, Bool.false_and, Bool.true_or, Bool.false_or, sub1, and_true, if_pos, if_neg]
  · simp (disch := omega) only [if_true, if_false, not_true_eq_false, not_false_eq_true, zoI_s, zoR_s, zoH_s, zoL_s, zbI_s, zbV_s, zbR_s, zbL_s, zif_dec, i32_0, ne_eq, i32_lt, i32_le, i32_eq, i32_add, i32_mul, i32_sub, i32_neg, zrz_0, zrz_1, zif_t, zif_f, zsF_s, zsF_k, zsF_a, zsC_s, zsC_a, zsC_i, zsW_s, zsW_a, Int.add_zero, Int.zero_add, true_and, false_and, and_false, Bool.false_eq_true, decide_true, decide_false, Bool.true_and, Bool.false_and, Bool.true_or, Bool.false_or, sub1, and_true, if_pos, if_neg, wv_0 S, wr_704 S, wr_705 S, wr_706 S, wr_707 S, wr_708 S, wr_709 S, wr_710 S, wr_711 S, tr_576 S, pg_513 S, hn]
theorem m_end (S : St h) {n x : Int} (hn : C 73 4 = n) (x0 : 0 ≤ x) (x1 : x ≤ n) (n1 : n ≤ 600) : zc 202 [zR (some 72), zI (i32 x)] (zw h F C) = some (zI (i32 x), zw h F (zsW C 73 (up1 (C 73) 4 x))) := by
  rw [e_Model_end]
  simp (disch := omega) only [if_true, if_false, not_true_eq_false, not_false_eq_true, zoI_s, zoR_s, zoH_s, zoL_s, zbI_s, zbV_s, zbR_s, zbL_s, zif_dec, i32_0, ne_eq, i32_lt, i32_le, i32_eq, i32_add, i32_mul, i32_sub, i32_neg, zrz_0, zrz_1, zif_t, zif_f, zsF_s, zsF_k, zsF_a, zsC_s, zsC_a, zsC_i, zsW_s, zsW_a, Int.add_zero, Int.zero_add, true_and, false_and, and_false, Bool.false_eq_true, decide_true, decide_false, Bool.true_and, Bool.false_and, Bool.true_or, Bool.false_or, sub1, and_true, if_pos, if_neg, wv_72 S, wr_768 S, wr_769 S, wr_777 S, wr_785 S, wr_786 S, wr_787 S, wr_789 S, wr_790 S, wr_791 S, wr_802 S, wr_803 S, wr_804 S, wr_805 S, wr_806 S, wr_807 S, wr_809 S, wg_770 S, wp_770 S, wg_771 S, wp_771 S, wg_772 S, wp_772 S, wg_773 S, wp_773 S, wg_774 S, wp_774 S, wg_775 S, wp_775 S, wg_776 S, wp_776 S, wg_778 S, wp_778 S, wg_779 S, wp_779 S, wg_780 S, wp_780 S, wg_781 S, wp_781 S, wg_782 S, wp_782 S, wg_783 S, wp_783 S, wg_784 S, wp_784 S, wg_788 S, wp_788 S, wg_792 S, wp_792 S, wg_793 S, wp_793 S, wg_794 S, wp_794 S, wg_795 S, wp_795 S, wg_796 S, wp_796 S, wg_797 S, wp_797 S, wg_798 S, wp_798 S, wg_799 S, wp_799 S, wg_800 S, wp_800 S, wg_801 S, wp_801 S, wg_808 S, wp_808 S, wg_810 S, wp_810 S, wa_73 S, ws_73 S, hn, zsC_W]
theorem m_end0 (S : St h) {n x : Int} (hn : C 73 4 = n) (hx : inI x) (n0 : 0 ≤ n) (n1 : n ≤ 600) (hc : ¬ (0 ≤ x ∧ x ≤ n)) : zc 202 [zR (some 72), zI (i32 x)] (zw h F C) = some (zI (i32 (-1)), zw h F C) := by
  unfold inI at hx
  rw [e_Model_end]
  by_cases c : x < 0
  · simp (disch := omega) only [if_true, if_false, not_true_eq_false, not_false_eq_true, zoI_s, zoR_s, zoH_s, zoL_s, zbI_s, zbV_s, zbR_s, zbL_s, zif_dec, i32_0, ne_eq, i32_lt, i32_le, i32_eq, i32_add, i32_mul, i32_sub, i32_neg, zrz_0, zrz_1, zif_t, zif_f, zsF_s, zsF_k, zsF_a, zsC_s, zsC_a, zsC_i, zsW_s, zsW_a, Int.add_zero, Int.zero_add, true_and, false_and, and_false, Bool.false_eq_true, decide_true, decide_false, Bool.true_and, Bool.false_and, Bool.true_or, Bool.false_or, sub1, and_true, if_pos, if_neg]
  · simp (disch := omega) only [if_true, if_false, not_true_eq_false, not_false_eq_true, zoI_s, zoR_s, zoH_s, zoL_s, zbI_s, zbV_s, zbR_s, zbL_s, zif_dec, i32_0, ne_eq, i32_lt, i32_le, i32_eq, i32_add, i32_mul, i32_sub, i32_neg, zrz_0, zrz_1, zif_t, zif_f, zsF_s, zsF_k, zsF_a, zsC_s, zsC_a, zsC_i, zsW_s, zsW_a, Int.add_zero, Int.zero_add, true_and, false_and, and_false, Bool.false_eq_true, decide_true, decide_false, Bool.true_and, Bool.false_and, Bool.true_or, Bool.false_or, sub1, and_true, if_pos, if_neg, wv_72 S, wr_768 S, wr_769 S, wr_777 S, wr_785 S, wr_786 S, wr_787 S, wr_789 S, wr_790 S, wr_791 S, wr_802 S, wr_803 S, wr_804 S, wr_805 S, wr_806 S, wr_807 S, wr_809 S, wg_770 S, wp_770 S, wg_771 S, wp_771 S, wg_772 S, wp_772 S, wg_773 S, wp_773 S, wg_774 S, wp_774 S, wg_775 S, wp_775 S, wg_776 S, wp_776 S, wg_778 S, wp_778 S, wg_779 S, wp_779 S, wg_780 S, wp_780 S, wg_781 S, wp_781 S, wg_782 S, wp_782 S, wg_783 S, wp_783 S, wg_784 S, wp_784 S, wg_788 S, wp_788 S, wg_792 S, wp_792 S, wg_793 S, wp_793 S, wg_794 S, wp_794 S, wg_795 S, wp_795 S, wg_796 S, wp_796 S, wg_797 S, wp_797 S, wg_798 S, wp_798 S, wg_799 S, wp_799 S, wg_800 S, wp_800 S, wg_801 S, wp_801 S, wg_808 S, wp_808 S, wg_810 S, wp_810 S, wa_73 S, ws_73 S, hn]
end FE2
