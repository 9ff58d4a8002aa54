/-! tokens of a tape B of n bytes -/
def bL (x : Int) : Bool := decide (97 ≤ x ∧ x ≤ 122)
def bG (x : Int) : Bool := decide (48 ≤ x ∧ x ≤ 57)
def bB (x : Int) : Bool := decide (x = 10 ∨ x = 32)
/-- how far those go that are so, from p on -/
def runE (P : Int → Bool) (B : Int → Int) (n : Int) : Nat → Int → Int
  | 0, p => p
  | j + 1, p => if p < n ∧ P (B p) = true then runE P B n j (p + 1) else p
def rnE (P : Int → Bool) (B : Int → Int) (n p : Int) : Int := runE P B n (n - p).toNat p
theorem rnE_t {P : Int → Bool} {B : Int → Int} {n p : Int} (h : p < n) (hp : P (B p) = true) : rnE P B n p = rnE P B n (p + 1) := by
  unfold rnE
  rw [show (n - p).toNat = (n - (p + 1)).toNat + 1 by omega, runE, if_pos ⟨h, hp⟩]
theorem rnE_f {P : Int → Bool} {B : Int → Int} {n p : Int} (h : ¬ (p < n ∧ P (B p) = true)) : rnE P B n p = p := by
  unfold rnE
  cases (n - p).toNat with
  | zero => rfl
  | succ j => rw [runE, if_neg h]
theorem rnE_rng (P : Int → Bool) (B : Int → Int) (n : Int) : ∀ (j : Nat) (p : Int), n - p ≤ j → p ≤ n → p ≤ rnE P B n p ∧ rnE P B n p ≤ n := by
  intro j
  induction j with
  | zero => intro p h1 h2; rw [rnE_f (by omega)]; omega
  | succ j ih =>
    intro p h1 h2
    by_cases c : p < n ∧ P (B p) = true
    · rw [rnE_t c.1 c.2]
      have := ih (p + 1) (by omega) (by omega)
      omega
    · rw [rnE_f c]; omega
theorem rnE_le {P : Int → Bool} {B : Int → Int} {n p : Int} (h : p ≤ n) : p ≤ rnE P B n p ∧ rnE P B n p ≤ n := rnE_rng P B n (n - p).toNat p (by omega) h
theorem rnE_all {P : Int → Bool} {B : Int → Int} {n : Int} : ∀ (j : Nat) (p : Int), n - p ≤ j → p ≤ n → ∀ i, p ≤ i → i < rnE P B n p → P (B i) = true := by
  intro j
  induction j with
  | zero => intro p h1 h2 i i0 i1; rw [rnE_f (by omega)] at i1; omega
  | succ j ih =>
    intro p h1 h2 i i0 i1
    by_cases c : p < n ∧ P (B p) = true
    · rw [rnE_t c.1 c.2] at i1
      by_cases ci : i = p
      · rw [ci]; exact c.2
      · exact ih (p + 1) (by omega) (by omega) i (by omega) i1
    · rw [rnE_f c] at i1; omega
/-- where the token begins, ends; what it is: 0 a word, 1 a number, 2 ';', 3 the end, 4 none -/
def tS (B : Int → Int) (n p : Int) : Int := rnE bB B n p
def tE (B : Int → Int) (n s : Int) : Int := if n ≤ s then s else if bL (B s) = true then rnE bL B n s else if bG (B s) = true then rnE bG B n s else s + 1
def tK (B : Int → Int) (n s : Int) : Int := if n ≤ s then 3 else if bL (B s) = true then 0 else if bG (B s) = true then (if tE B n s - s ≤ 2 then 1 else 4) else if B s = 59 then 2 else 4
/-- a number's value -/
def runV (B : Int → Int) (n : Int) : Nat → Int → Int → Int
  | 0, _, v => v
  | j + 1, p, v => if p < n ∧ bG (B p) = true then runV B n j (p + 1) (10 * v + (B p - 48)) else v
def tN (B : Int → Int) (n s : Int) : Int := runV B n (n - s).toNat s 0
theorem tS_le {B : Int → Int} {n p : Int} (h : p ≤ n) : p ≤ tS B n p ∧ tS B n p ≤ n := rnE_le h
theorem tE_le {B : Int → Int} {n s : Int} (h : s ≤ n) : s ≤ tE B n s ∧ tE B n s ≤ n ∧ (s < n → s < tE B n s) := by
  unfold tE
  split
  · omega
  · split
    · rename_i c1 c2
      rw [rnE_t (by omega) c2]
      have := rnE_le (P := bL) (B := B) (n := n) (p := s + 1) (by omega)
      omega
    · split
      · rename_i c1 c2 c3
        rw [rnE_t (by omega) c3]
        have := rnE_le (P := bG) (B := B) (n := n) (p := s + 1) (by omega)
        omega
      · omega
theorem tK_rng (B : Int → Int) (n s : Int) : 0 ≤ tK B n s ∧ tK B n s ≤ 4 := by
  unfold tK
  split
  · omega
  · split
    · omega
    · split
      · split <;> omega
      · split <;> omega
theorem sgn_eq {x c : Int} (h0 : 0 ≤ x) (h1 : x ≤ 255) (c0 : 0 ≤ c) (c1 : c < 128) : (sgn x = c) = (x = c) := by
  unfold sgn
  split
  · rfl
  · rw [eq_iff_iff]; omega
theorem sgn_in {x a b : Int} (h0 : 0 ≤ x) (h1 : x ≤ 255) (a0 : 0 ≤ a) (b1 : b < 128) : (a ≤ sgn x ∧ sgn x ≤ b) = (a ≤ x ∧ x ≤ b) := by
  unfold sgn
  split
  · rfl
  · rw [eq_iff_iff]; omega
/-- fields of the reader that a token changes -/
def rdE (F F' : Nat → Nat → Int) : Prop := ∀ k a, ¬ (a = 35 ∧ 327 ≤ k ∧ k ≤ 330) → F' k a = F k a
theorem rdE.rfl (F : Nat → Nat → Int) : rdE F F := fun _ _ _ => Eq.refl _
theorem rdE.trans {F F1 F2 : Nat → Nat → Int} (h1 : rdE F F1) (h2 : rdE F1 F2) : rdE F F2 := fun k a c => (h2 k a c).trans (h1 k a c)
theorem rdE.sF {F F1 : Nat → Nat → Int} (h1 : rdE F F1) {k : Nat} {x : Int} (h0 : 327 ≤ k) (h2 : k ≤ 330) : rdE F (zsF F1 k 35 x) := fun k' a' c => (if_neg (by omega)).trans (h1 k' a' c)
theorem rdE.tq {F F1 : Nat → Nat → Int} {C : Nat → Int → Int} (h1 : rdE F F1) : tq F C F1 C := fun a ha => ⟨fun k => h1 k a (by omega), Eq.refl _⟩
/-- the tape as the class has it -/
def tpC (F : Nat → Nat → Int) (C : Nat → Int → Int) (B : Int → Int) (n : Int) : Prop := F 513 2 = n ∧ (0 ≤ n ∧ n ≤ 600) ∧ ∀ i, 0 ≤ i → i < n → (0 ≤ B i ∧ B i ≤ 255) ∧ C 3 i = sgn (B i)
theorem tpC.rd {F F' : Nat → Nat → Int} {C : Nat → Int → Int} {B : Int → Int} {n : Int} (T : tpC F C B n) (h : rdE F F') : tpC F' C B n := ⟨(h 513 2 (by omega)).trans T.1, T.2⟩
/-- the token at s lies in the reader -/
def tkC (F : Nat → Nat → Int) (B : Int → Int) (n s : Int) : Prop := F 328 35 = s ∧ F 327 35 = tE B n s ∧ F 329 35 = tK B n s ∧ (tK B n s = 1 → F 330 35 = tN B n s)
section RD
variable {h : zHeap} {F : Nat → Nat → Int} {C : Nat → Int → Int} {B : Int → Int} {n : Int}
theorem c_isLetter {x : Int} (h0 : 0 ≤ x) (h1 : x ≤ 255) : zc 90 [zI (i32 (sgn x))] h = some (zI (i32 (if bL x = true then 1 else 0)), h) := by
  have r := sgn_rng h0 h1
  have e := sgn_in (a := 97) (b := 122) h0 h1 (by omega) (by omega)
  have eb : bL x = true ↔ (97 ≤ x ∧ x ≤ 122) := by unfold bL; rw [decide_eq_true_eq]
  rw [eq_iff_iff] at e
  rw [e_Reader_isLetter]
  by_cases cb : bL x = true
  · have q := eb.mp cb
    rw [if_pos cb]
    simp (disch := omega) only [if_true, if_false, not_true_eq_false, not_false_eq_true, zoI_s, zoR_s, zoH_s, zoL_s, zbI_s, zbV_s, zbR_s, zbL_s, zif_dec, i32_0, ne_eq, i32_lt, i32_le, i32_eq, i32_add, i32_mul, i32_sub, i32_neg, zrz_0, zrz_1, zif_t, zif_f, zsF_s, zsF_k, zsF_a, zsC_s, zsC_a, zsC_i, zsW_s, zsW_a, Int.add_zero, Int.zero_add, true_and, false_and, and_false, Bool.false_eq_true, decide_true, decide_false, Bool.true_and, Bool.false_and, Bool.true_or, Bool.false_or, sub1, and_true, if_pos, if_neg]
  · have q : ¬ (97 ≤ x ∧ x ≤ 122) := fun z => cb (eb.mpr z)
    rw [if_neg cb]
    by_cases c1 : sgn x < 97
    · simp (disch := omega) only [if_true, if_false, not_true_eq_false, not_false_eq_true, zoI_s, zoR_s, zoH_s, zoL_s, zbI_s, zbV_s, zbR_s, zbL_s, zif_dec, i32_0, ne_eq, i32_lt, i32_le, i32_eq, i32_add, i32_mul, i32_sub, i32_neg, zrz_0, zrz_1, zif_t, zif_f, zsF_s, zsF_k, zsF_a, zsC_s, zsC_a, zsC_i, zsW_s, zsW_a, Int.add_zero, Int.zero_add, true_and, false_and, and_false, Bool.false_eq_true, decide_true, decide_false, Bool.true_and, Bool.false_and, Bool.true_or, Bool.false_or, sub1, and_true, if_pos, if_neg]
    · simp (disch := omega) only [if_true, if_false, not_true_eq_false, not_false_eq_true, zoI_s, zoR_s, zoH_s, zoL_s, zbI_s, zbV_s, zbR_s, zbL_s, zif_dec, i32_0, ne_eq, i32_lt, i32_le, i32_eq, i32_add, i32_mul, i32_sub, i32_neg, zrz_0, zrz_1, zif_t, zif_f, zsF_s, zsF_k, zsF_a, zsC_s, zsC_a, zsC_i, zsW_s, zsW_a, Int.add_zero, Int.zero_add, true_and, false_and, and_false, Bool.false_eq_true, decide_true, decide_false, Bool.true_and, Bool.false_and, Bool.true_or, Bool.false_or, sub1, and_true, if_pos, if_neg]
theorem c_isDigit {x : Int} (h0 : 0 ≤ x) (h1 : x ≤ 255) : zc 91 [zI (i32 (sgn x))] h = some (zI (i32 (if bG x = true then 1 else 0)), h) := by
  have r := sgn_rng h0 h1
  have e := sgn_in (a := 48) (b := 57) h0 h1 (by omega) (by omega)
  have eb : bG x = true ↔ (48 ≤ x ∧ x ≤ 57) := by unfold bG; rw [decide_eq_true_eq]
  rw [eq_iff_iff] at e
  rw [e_Reader_isDigit]
  by_cases cb : bG x = true
  · have q := eb.mp cb
    rw [if_pos cb]
    simp (disch := omega) only [if_true, if_false, not_true_eq_false, not_false_eq_true, zoI_s, zoR_s, zoH_s, zoL_s, zbI_s, zbV_s, zbR_s, zbL_s, zif_dec, i32_0, ne_eq, i32_lt, i32_le, i32_eq, i32_add, i32_mul, i32_sub, i32_neg, zrz_0, zrz_1, zif_t, zif_f, zsF_s, zsF_k, zsF_a, zsC_s, zsC_a, zsC_i, zsW_s, zsW_a, Int.add_zero, Int.zero_add, true_and, false_and, and_false, Bool.false_eq_true, decide_true, decide_false, Bool.true_and, Bool.false_and, Bool.true_or, Bool.false_or, sub1, and_true, if_pos, if_neg]
  · have q : ¬ (48 ≤ x ∧ x ≤ 57) := fun z => cb (eb.mpr z)
    rw [if_neg cb]
    by_cases c1 : sgn x < 48
    · simp (disch := omega) only [if_true, if_false, not_true_eq_false, not_false_eq_true, zoI_s, zoR_s, zoH_s, zoL_s, zbI_s, zbV_s, zbR_s, zbL_s, zif_dec, i32_0, ne_eq, i32_lt, i32_le, i32_eq, i32_add, i32_mul, i32_sub, i32_neg, zrz_0, zrz_1, zif_t, zif_f, zsF_s, zsF_k, zsF_a, zsC_s, zsC_a, zsC_i, zsW_s, zsW_a, Int.add_zero, Int.zero_add, true_and, false_and, and_false, Bool.false_eq_true, decide_true, decide_false, Bool.true_and, Bool.false_and, Bool.true_or, Bool.false_or, sub1, and_true, if_pos, if_neg]
    · simp (disch := omega) only [if_true, if_false, not_true_eq_false, not_false_eq_true, zoI_s, zoR_s, zoH_s, zoL_s, zbI_s, zbV_s, zbR_s, zbL_s, zif_dec, i32_0, ne_eq, i32_lt, i32_le, i32_eq, i32_add, i32_mul, i32_sub, i32_neg, zrz_0, zrz_1, zif_t, zif_f, zsF_s, zsF_k, zsF_a, zsC_s, zsC_a, zsC_i, zsW_s, zsW_a, Int.add_zero, Int.zero_add, true_and, false_and, and_false, Bool.false_eq_true, decide_true, decide_false, Bool.true_and, Bool.false_and, Bool.true_or, Bool.false_or, sub1, and_true, if_pos, if_neg]
theorem c_adv0 (S : St h) (T : tpC F C B n) : ∀ (j : Nat) (p : Int), n - p ≤ j → 0 ≤ p → p ≤ n → zr 87 0 [yR (some 35)] [] (zw h (zsF F 327 35 p) C) = zr 87 29 [yR (some 35)] [] (zw h (zsF F 327 35 (rnE bB B n p)) C) := by
  obtain ⟨t1, t2, t3⟩ := T
  intro j
  induction j with
  | zero =>
    intro p h1 p0 p1
    rw [rnE_f (by omega), e_Reader_advance_0]
    simp (disch := omega) only [if_true, if_false, not_true_eq_false, not_false_eq_true, zoI_s, zoR_s, zoH_s, zoL_s, zbI_s, zbV_s, zbR_s, zbL_s, zif_dec, i32_0, ne_eq, i32_lt, i32_le, i32_eq, i32_add, i32_mul, i32_sub, i32_neg, zrz_0, zrz_1, zif_t, zif_f, zsF_s, zsF_k, zsF_a, zsC_s, zsC_a, zsC_i, zsW_s, zsW_a, Int.add_zero, Int.zero_add, true_and, false_and, and_false, Bool.false_eq_true, decide_true, decide_false, Bool.true_and, Bool.false_and, Bool.true_or, Bool.false_or, sub1, and_true, if_pos, if_neg, wv_35 S, wr_320 S, wr_321 S, wr_322 S, wr_325 S, wr_326 S, wg_323 S, wp_323 S, wg_324 S, wp_324 S, wg_327 S, wp_327 S, wg_328 S, wp_328 S, wg_329 S, wp_329 S, wg_330 S, wp_330 S, pg_513 S, t1]
  | succ j ih =>
    intro p h1 p0 p1
    rw [e_Reader_advance_0]
    by_cases c : p < n
    · have tb := t3 p p0 c
      have r := sgn_rng tb.1.1 tb.1.2
      have e10 := sgn_eq (c := 10) tb.1.1 tb.1.2 (by omega) (by omega)
      have e32 := sgn_eq (c := 32) tb.1.1 tb.1.2 (by omega) (by omega)
      rw [eq_iff_iff] at e10 e32
      by_cases c1 : B p = 10
      · rw [rnE_t c (by unfold bB; rw [decide_eq_true_eq]; exact Or.inl c1), ← ih (p + 1) (by omega) (by omega) (by omega)]
        simp (disch := omega) only [if_true, if_false, not_true_eq_false, not_false_eq_true, zoI_s, zoR_s, zoH_s, zoL_s, zbI_s, zbV_s, zbR_s, zbL_s, zif_dec, i32_0, ne_eq, i32_lt, i32_le, i32_eq, i32_add, i32_mul, i32_sub, i32_neg, zrz_0, zrz_1, zif_t, zif_f, zsF_s, zsF_k, zsF_a, zsC_s, zsC_a, zsC_i, zsW_s, zsW_a, Int.add_zero, Int.zero_add, true_and, false_and, and_false, Bool.false_eq_true, decide_true, decide_false, Bool.true_and, Bool.false_and, Bool.true_or, Bool.false_or, sub1, and_true, if_pos, if_neg, wv_35 S, wr_320 S, wr_321 S, wr_322 S, wr_325 S, wr_326 S, wg_323 S, wp_323 S, wg_324 S, wp_324 S, wg_327 S, wp_327 S, wg_328 S, wp_328 S, wg_329 S, wp_329 S, wg_330 S, wp_330 S, pg_513 S, pr_512 S, pa_3 S, t1, tb.2, zsF_ss]
      · by_cases c2 : B p = 32
        · rw [rnE_t c (by unfold bB; rw [decide_eq_true_eq]; exact Or.inr c2), ← ih (p + 1) (by omega) (by omega) (by omega)]
          simp (disch := omega) only [if_true, if_false, not_true_eq_false, not_false_eq_true, zoI_s, zoR_s, zoH_s, zoL_s, zbI_s, zbV_s, zbR_s, zbL_s, zif_dec, i32_0, ne_eq, i32_lt, i32_le, i32_eq, i32_add, i32_mul, i32_sub, i32_neg, zrz_0, zrz_1, zif_t, zif_f, zsF_s, zsF_k, zsF_a, zsC_s, zsC_a, zsC_i, zsW_s, zsW_a, Int.add_zero, Int.zero_add, true_and, false_and, and_false, Bool.false_eq_true, decide_true, decide_false, Bool.true_and, Bool.false_and, Bool.true_or, Bool.false_or, sub1, and_true, if_pos, if_neg, wv_35 S, wr_320 S, wr_321 S, wr_322 S, wr_325 S, wr_326 S, wg_323 S, wp_323 S, wg_324 S, wp_324 S, wg_327 S, wp_327 S, wg_328 S, wp_328 S, wg_329 S, wp_329 S, wg_330 S, wp_330 S, pg_513 S, pr_512 S, pa_3 S, t1, tb.2, zsF_ss]
        · rw [rnE_f (by unfold bB; rw [decide_eq_true_eq]; omega)]
          simp (disch := omega) only [if_true, if_false, not_true_eq_false, not_false_eq_true, zoI_s, zoR_s, zoH_s, zoL_s, zbI_s, zbV_s, zbR_s, zbL_s, zif_dec, i32_0, ne_eq, i32_lt, i32_le, i32_eq, i32_add, i32_mul, i32_sub, i32_neg, zrz_0, zrz_1, zif_t, zif_f, zsF_s, zsF_k, zsF_a, zsC_s, zsC_a, zsC_i, zsW_s, zsW_a, Int.add_zero, Int.zero_add, true_and, false_and, and_false, Bool.false_eq_true, decide_true, decide_false, Bool.true_and, Bool.false_and, Bool.true_or, Bool.false_or, sub1, and_true, if_pos, if_neg, wv_35 S, wr_320 S, wr_321 S, wr_322 S, wr_325 S, wr_326 S, wg_323 S, wp_323 S, wg_324 S, wp_324 S, wg_327 S, wp_327 S, wg_328 S, wp_328 S, wg_329 S, wp_329 S, wg_330 S, wp_330 S, pg_513 S, pr_512 S, pa_3 S, t1, tb.2]
    · rw [rnE_f (by omega)]
      simp (disch := omega) only [if_true, if_false, not_true_eq_false, not_false_eq_true, zoI_s, zoR_s, zoH_s, zoL_s, zbI_s, zbV_s, zbR_s, zbL_s, zif_dec, i32_0, ne_eq, i32_lt, i32_le, i32_eq, i32_add, i32_mul, i32_sub, i32_neg, zrz_0, zrz_1, zif_t, zif_f, zsF_s, zsF_k, zsF_a, zsC_s, zsC_a, zsC_i, zsW_s, zsW_a, Int.add_zero, Int.zero_add, true_and, false_and, and_false, Bool.false_eq_true, decide_true, decide_false, Bool.true_and, Bool.false_and, Bool.true_or, Bool.false_or, sub1, and_true, if_pos, if_neg, wv_35 S, wr_320 S, wr_321 S, wr_322 S, wr_325 S, wr_326 S, wg_323 S, wp_323 S, wg_324 S, wp_324 S, wg_327 S, wp_327 S, wg_328 S, wp_328 S, wg_329 S, wp_329 S, wg_330 S, wp_330 S, pg_513 S, t1]
theorem c_passW (S : St h) (T : tpC F C B n) : ∀ (j : Nat) (p : Int), n - p ≤ j → 0 ≤ p → p ≤ n → zr 88 3 [yR (some 35)] [] (zw h (zsF F 327 35 p) C) = some (zI 0, zw h (zsF F 327 35 (rnE bL B n p)) C) := by
  obtain ⟨t1, t2, t3⟩ := T
  intro j
  induction j with
  | zero =>
    intro p h1 p0 p1
    rw [rnE_f (by omega), e_Reader_passWord_3]
    simp (disch := omega) only [if_true, if_false, not_true_eq_false, not_false_eq_true, zoI_s, zoR_s, zoH_s, zoL_s, zbI_s, zbV_s, zbR_s, zbL_s, zif_dec, i32_0, ne_eq, i32_lt, i32_le, i32_eq, i32_add, i32_mul, i32_sub, i32_neg, zrz_0, zrz_1, zif_t, zif_f, zsF_s, zsF_k, zsF_a, zsC_s, zsC_a, zsC_i, zsW_s, zsW_a, Int.add_zero, Int.zero_add, true_and, false_and, and_false, Bool.false_eq_true, decide_true, decide_false, Bool.true_and, Bool.false_and, Bool.true_or, Bool.false_or, sub1, and_true, if_pos, if_neg, wv_35 S, wr_320 S, wr_321 S, wr_322 S, wr_325 S, wr_326 S, wg_323 S, wp_323 S, wg_324 S, wp_324 S, wg_327 S, wp_327 S, wg_328 S, wp_328 S, wg_329 S, wp_329 S, wg_330 S, wp_330 S, pg_513 S, t1]
  | succ j ih =>
    intro p h1 p0 p1
    rw [e_Reader_passWord_3]
    by_cases c : p < n
    · have tb := t3 p p0 c
      have el := c_isLetter (h := zw h (zsF F 327 35 p) C) tb.1.1 tb.1.2
      by_cases c1 : bL (B p) = true
      · rw [rnE_t c c1, ← ih (p + 1) (by omega) (by omega) (by omega)]
        rw [if_pos c1] at el
        simp (disch := omega) only [if_true, if_false, not_true_eq_false, not_false_eq_true, zoI_s, zoR_s, zoH_s, zoL_s, zbI_s, zbV_s, zbR_s, zbL_s, zif_dec, i32_0, ne_eq, i32_lt, i32_le, i32_eq, i32_add, i32_mul, i32_sub, i32_neg, zrz_0, zrz_1, zif_t, zif_f, zsF_s, zsF_k, zsF_a, zsC_s, zsC_a, zsC_i, zsW_s, zsW_a, Int.add_zero, Int.zero_add, true_and, false_and, and_false, Bool.false_eq_true, decide_true, decide_false, Bool.true_and, Bool.false_and, Bool.true_or, Bool.false_or, sub1, and_true, if_pos, if_neg, wv_35 S, wr_320 S, wr_321 S, wr_322 S, wr_325 S, wr_326 S, wg_323 S, wp_323 S, wg_324 S, wp_324 S, wg_327 S, wp_327 S, wg_328 S, wp_328 S, wg_329 S, wp_329 S, wg_330 S, wp_330 S, pg_513 S, pr_512 S, pa_3 S, t1, tb.2, el, zsF_ss]
      · rw [rnE_f (fun z => c1 z.2)]
        rw [if_neg c1] at el
        simp (disch := omega) only [if_true, if_false, not_true_eq_false, not_false_eq_true, zoI_s, zoR_s, zoH_s, zoL_s, zbI_s, zbV_s, zbR_s, zbL_s, zif_dec, i32_0, ne_eq, i32_lt, i32_le, i32_eq, i32_add, i32_mul, i32_sub, i32_neg, zrz_0, zrz_1, zif_t, zif_f, zsF_s, zsF_k, zsF_a, zsC_s, zsC_a, zsC_i, zsW_s, zsW_a, Int.add_zero, Int.zero_add, true_and, false_and, and_false, Bool.false_eq_true, decide_true, decide_false, Bool.true_and, Bool.false_and, Bool.true_or, Bool.false_or, sub1, and_true, if_pos, if_neg, wv_35 S, wr_320 S, wr_321 S, wr_322 S, wr_325 S, wr_326 S, wg_323 S, wp_323 S, wg_324 S, wp_324 S, wg_327 S, wp_327 S, wg_328 S, wp_328 S, wg_329 S, wp_329 S, wg_330 S, wp_330 S, pg_513 S, pr_512 S, pa_3 S, t1, tb.2, el]
    · rw [rnE_f (by omega)]
      simp (disch := omega) only [if_true, if_false, not_true_eq_false, not_false_eq_true, zoI_s, zoR_s, zoH_s, zoL_s, zbI_s, zbV_s, zbR_s, zbL_s, zif_dec, i32_0, ne_eq, i32_lt, i32_le, i32_eq, i32_add, i32_mul, i32_sub, i32_neg, zrz_0, zrz_1, zif_t, zif_f, zsF_s, zsF_k, zsF_a, zsC_s, zsC_a, zsC_i, zsW_s, zsW_a, Int.add_zero, Int.zero_add, true_and, false_and, and_false, Bool.false_eq_true, decide_true, decide_false, Bool.true_and, Bool.false_and, Bool.true_or, Bool.false_or, sub1, and_true, if_pos, if_neg, wv_35 S, wr_320 S, wr_321 S, wr_322 S, wr_325 S, wr_326 S, wg_323 S, wp_323 S, wg_324 S, wp_324 S, wg_327 S, wp_327 S, wg_328 S, wp_328 S, wg_329 S, wp_329 S, wg_330 S, wp_330 S, pg_513 S, t1]
theorem c_passN (S : St h) (T : tpC F C B n) {s : Int} (hs : F 328 35 = s) (s0 : 0 ≤ s) : ∀ (j : Nat) (p v : Int), n - p = j → s ≤ p → p ≤ n → zr 89 3 [yR (some 35)] [] (zw h (zsF (zsF F 330 35 v) 327 35 p) C) = some (zI 0, zw h (zsF (zsF (zsF F 330 35 (runV B n j p v)) 327 35 (rnE bG B n p)) 329 35 (if rnE bG B n p - s ≤ 2 then 1 else 4)) C) := by
  obtain ⟨t1, t2, t3⟩ := T
  intro j
  induction j with
  | zero =>
    intro p v h1 p0 p1
    rw [rnE_f (by omega), e_Reader_passNumber_3]
    by_cases c : p - s ≤ 2
    · simp (disch := omega) only [if_true, if_false, not_true_eq_false, not_false_eq_true, zoI_s, zoR_s, zoH_s, zoL_s, zbI_s, zbV_s, zbR_s, zbL_s, zif_dec, i32_0, ne_eq, i32_lt, i32_le, i32_eq, i32_add, i32_mul, i32_sub, i32_neg, zrz_0, zrz_1, zif_t, zif_f, zsF_s, zsF_k, zsF_a, zsC_s, zsC_a, zsC_i, zsW_s, zsW_a, Int.add_zero, Int.zero_add, true_and, false_and, and_false, Bool.false_eq_true, decide_true, decide_false, Bool.true_and, Bool.false_and, Bool.true_or, Bool.false_or, sub1, and_true, if_pos, if_neg, wv_35 S, wr_320 S, wr_321 S, wr_322 S, wr_325 S, wr_326 S, wg_323 S, wp_323 S, wg_324 S, wp_324 S, wg_327 S, wp_327 S, wg_328 S, wp_328 S, wg_329 S, wp_329 S, wg_330 S, wp_330 S, pg_513 S, t1, hs, runV]
    · simp (disch := omega) only [if_true, if_false, not_true_eq_false, not_false_eq_true, zoI_s, zoR_s, zoH_s, zoL_s, zbI_s, zbV_s, zbR_s, zbL_s, zif_dec, i32_0, ne_eq, i32_lt, i32_le, i32_eq, i32_add, i32_mul, i32_sub, i32_neg, zrz_0, zrz_1, zif_t, zif_f, zsF_s, zsF_k, zsF_a, zsC_s, zsC_a, zsC_i, zsW_s, zsW_a, Int.add_zero, Int.zero_add, true_and, false_and, and_false, Bool.false_eq_true, decide_true, decide_false, Bool.true_and, Bool.false_and, Bool.true_or, Bool.false_or, sub1, and_true, if_pos, if_neg, wv_35 S, wr_320 S, wr_321 S, wr_322 S, wr_325 S, wr_326 S, wg_323 S, wp_323 S, wg_324 S, wp_324 S, wg_327 S, wp_327 S, wg_328 S, wp_328 S, wg_329 S, wp_329 S, wg_330 S, wp_330 S, pg_513 S, t1, hs, runV]
  | succ j ih =>
    intro p v h1 p0 p1
    rw [e_Reader_passNumber_3]
    have c : p < n := by omega
    have tb := t3 p (by omega) c
    have el := c_isDigit (h := zw h (zsF (zsF F 330 35 v) 327 35 p) C) tb.1.1 tb.1.2
    by_cases c1 : bG (B p) = true
    · have c2 : 48 ≤ B p ∧ B p ≤ 57 := by unfold bG at c1; rwa [decide_eq_true_eq] at c1
      have es : sgn (B p) = B p := by unfold sgn; rw [if_pos (by omega)]
      rw [rnE_t c c1, runV, if_pos ⟨c, c1⟩, ← ih (p + 1) (10 * v + (B p - 48)) (by omega) (by omega) (by omega)]
      rw [if_pos c1] at el
      rw [es] at tb el
      simp (disch := omega) only [if_true, if_false, not_true_eq_false, not_false_eq_true, zoI_s, zoR_s, zoH_s, zoL_s, zbI_s, zbV_s, zbR_s, zbL_s, zif_dec, i32_0, ne_eq, i32_lt, i32_le, i32_eq, i32_add, i32_mul, i32_sub, i32_neg, zrz_0, zrz_1, zif_t, zif_f, zsF_s, zsF_k, zsF_a, zsC_s, zsC_a, zsC_i, zsW_s, zsW_a, Int.add_zero, Int.zero_add, true_and, false_and, and_false, Bool.false_eq_true, decide_true, decide_false, Bool.true_and, Bool.false_and, Bool.true_or, Bool.false_or, sub1, and_true, if_pos, if_neg, wv_35 S, wr_320 S, wr_321 S, wr_322 S, wr_325 S, wr_326 S, wg_323 S, wp_323 S, wg_324 S, wp_324 S, wg_327 S, wp_327 S, wg_328 S, wp_328 S, wg_329 S, wp_329 S, wg_330 S, wp_330 S, pg_513 S, pr_512 S, pa_3 S, t1, tb.2, el]
      rw [show zsF (zsF (zsF (zsF F 330 35 v) 327 35 p) 330 35 (10 * v + (B p - 48))) 327 35 (p + 1) = zsF (zsF F 330 35 (10 * v + (B p - 48))) 327 35 (p + 1) from by rw [zsF_sw (zsF F 330 35 v) _ _ (by omega), zsF_ss, zsF_ss]]
    · rw [rnE_f (fun z => c1 z.2), runV, if_neg (fun z => c1 z.2)]
      rw [if_neg c1] at el
      by_cases c2 : p - s ≤ 2
      · simp (disch := omega) only [if_true, if_false, not_true_eq_false, not_false_eq_true, zoI_s, zoR_s, zoH_s, zoL_s, zbI_s, zbV_s, zbR_s, zbL_s, zif_dec, i32_0, ne_eq, i32_lt, i32_le, i32_eq, i32_add, i32_mul, i32_sub, i32_neg, zrz_0, zrz_1, zif_t, zif_f, zsF_s, zsF_k, zsF_a, zsC_s, zsC_a, zsC_i, zsW_s, zsW_a, Int.add_zero, Int.zero_add, true_and, false_and, and_false, Bool.false_eq_true, decide_true, decide_false, Bool.true_and, Bool.false_and, Bool.true_or, Bool.false_or, sub1, and_true, if_pos, if_neg, wv_35 S, wr_320 S, wr_321 S, wr_322 S, wr_325 S, wr_326 S, wg_323 S, wp_323 S, wg_324 S, wp_324 S, wg_327 S, wp_327 S, wg_328 S, wp_328 S, wg_329 S, wp_329 S, wg_330 S, wp_330 S, pg_513 S, pr_512 S, pa_3 S, t1, tb.2, el, hs]
      · simp (disch := omega) only [if_true, if_false, not_true_eq_false, not_false_eq_true, zoI_s, zoR_s, zoH_s, zoL_s, zbI_s, zbV_s, zbR_s, zbL_s, zif_dec, i32_0, ne_eq, i32_lt, i32_le, i32_eq, i32_add, i32_mul, i32_sub, i32_neg, zrz_0, zrz_1, zif_t, zif_f, zsF_s, zsF_k, zsF_a, zsC_s, zsC_a, zsC_i, zsW_s, zsW_a, Int.add_zero, Int.zero_add, true_and, false_and, and_false, Bool.false_eq_true, decide_true, decide_false, Bool.true_and, Bool.false_and, Bool.true_or, Bool.false_or, sub1, and_true, if_pos, if_neg, wv_35 S, wr_320 S, wr_321 S, wr_322 S, wr_325 S, wr_326 S, wg_323 S, wp_323 S, wg_324 S, wp_324 S, wg_327 S, wp_327 S, wg_328 S, wp_328 S, wg_329 S, wp_329 S, wg_330 S, wp_330 S, pg_513 S, pr_512 S, pa_3 S, t1, tb.2, el, hs]
theorem c_advance (S : St h) (T : tpC F C B n) {p : Int} (hp : F 327 35 = p) (p0 : 0 ≤ p) (p1 : p ≤ n) : ∃ F', zc 87 [zR (some 35)] (zw h F C) = some (zI 0, zw h F' C) ∧ rdE F F' ∧ tkC F' B n (tS B n p) := by
  have e0 := c_adv0 S T (n - p).toNat p (by omega) p0 p1
  rw [← hp, zsF_id, hp] at e0
  rw [e_Reader_advance, e0, e_Reader_advance_29]
  have sl := tS_le (B := B) p1
  show ∃ F', _ = _ ∧ rdE F F' ∧ tkC F' B n (tS B n p)
  rw [show rnE bB B n p = tS B n p from rfl]
  generalize tS B n p = s at *
  obtain ⟨t1, t2, t3⟩ := id T
  have T2 : tpC (zsF (zsF F 327 35 s) 328 35 s) C B n := T.rd (((rdE.rfl F).sF (by omega) (by omega)).sF (by omega) (by omega))
  have kn : ∀ v : Int, v ≠ 1 → tK B n s = v → tK B n s = 1 → F 330 35 = tN B n s := fun v h1 h2 h3 => by omega
  by_cases c : s < n
  · have tb := t3 s (by omega) c
    have r := sgn_rng tb.1.1 tb.1.2
    have el := c_isLetter (h := zw h (zsF (zsF F 327 35 s) 328 35 s) C) tb.1.1 tb.1.2
    have eg := c_isDigit (h := zw h (zsF (zsF F 327 35 s) 328 35 s) C) tb.1.1 tb.1.2
    have cn : ¬ (n ≤ s) := by omega
    by_cases cl : bL (B s) = true
    · rw [if_pos cl] at el
      have T3 : tpC (zsF (zsF (zsF F 327 35 s) 328 35 s) 329 35 0) C B n := T2.rd ((rdE.rfl _).sF (by omega) (by omega))
      have ew := c_passW S T3 (n - s).toNat s (by omega) (by omega) (by omega)
      rw [show zsF (zsF (zsF (zsF F 327 35 s) 328 35 s) 329 35 0) 327 35 s = zsF (zsF (zsF F 327 35 s) 328 35 s) 329 35 0 from by rw [zsF_sw (zsF (zsF F 327 35 s) 328 35 s) _ _ (by omega), zsF_sw (zsF F 327 35 s) _ _ (by omega), zsF_ss]] at ew
      have hE : tE B n s = rnE bL B n s := by unfold tE; rw [if_neg cn, if_pos cl]
      have hK : tK B n s = 0 := by unfold tK; rw [if_neg cn, if_pos cl]
      refine ⟨zsF (zsF (zsF (zsF F 327 35 s) 328 35 s) 329 35 0) 327 35 (rnE bL B n s), ?_, ((((rdE.rfl F).sF (by omega) (by omega)).sF (by omega) (by omega)).sF (by omega) (by omega)).sF (by omega) (by omega), rfl, hE.symm, hK.symm, kn 0 (by omega) hK⟩
      simp (disch := omega) only [if_true, if_false, not_true_eq_false, not_false_eq_true, zoI_s, zoR_s, zoH_s, zoL_s, zbI_s, zbV_s, zbR_s, zbL_s, zif_dec, i32_0, ne_eq, i32_lt, i32_le, i32_eq, i32_add, i32_mul, i32_sub, i32_neg, zrz_0, zrz_1, zif_t, zif_f, zsF_s, zsF_k, zsF_a, zsC_s, zsC_a, zsC_i, zsW_s, zsW_a, Int.add_zero, Int.zero_add, true_and, false_and, and_false, Bool.false_eq_true, decide_true, decide_false, Bool.true_and, Bool.false_and, Bool.true_or, Bool.false_or, sub1, and_true, if_pos, if_neg, wv_35 S, wr_320 S, wr_321 S, wr_322 S, wr_325 S, wr_326 S, wg_323 S, wp_323 S, wg_324 S, wp_324 S, wg_327 S, wp_327 S, wg_328 S, wp_328 S, wg_329 S, wp_329 S, wg_330 S, wp_330 S, pg_513 S, pr_512 S, pa_3 S, t1, tb.2, el, e_Reader_passWord, ew]
    · rw [if_neg cl] at el
      by_cases cg : bG (B s) = true
      · rw [if_pos cg] at eg
        have ew := c_passN (F := zsF (zsF F 327 35 s) 328 35 s) S T2 (s := s) rfl (by omega) (n - s).toNat s 0 (by omega) (by omega) (by omega)
        rw [show zsF (zsF (zsF (zsF F 327 35 s) 328 35 s) 330 35 0) 327 35 s = zsF (zsF (zsF F 327 35 s) 328 35 s) 330 35 0 from by rw [zsF_sw (zsF (zsF F 327 35 s) 328 35 s) _ _ (by omega), zsF_sw (zsF F 327 35 s) _ _ (by omega), zsF_ss]] at ew
        have hE : tE B n s = rnE bG B n s := by unfold tE; rw [if_neg cn, if_neg cl, if_pos cg]
        have hK : tK B n s = if rnE bG B n s - s ≤ 2 then 1 else 4 := by unfold tK; rw [if_neg cn, if_neg cl, if_pos cg, hE]
        refine ⟨zsF (zsF (zsF (zsF (zsF F 327 35 s) 328 35 s) 330 35 (runV B n (n - s).toNat s 0)) 327 35 (rnE bG B n s)) 329 35 (if rnE bG B n s - s ≤ 2 then 1 else 4), ?_, (((((rdE.rfl F).sF (by omega) (by omega)).sF (by omega) (by omega)).sF (by omega) (by omega)).sF (by omega) (by omega)).sF (by omega) (by omega), rfl, hE.symm, hK.symm, fun _ => rfl⟩
        simp (disch := omega) only [if_true, if_false, not_true_eq_false, not_false_eq_true, zoI_s, zoR_s, zoH_s, zoL_s, zbI_s, zbV_s, zbR_s, zbL_s, zif_dec, i32_0, ne_eq, i32_lt, i32_le, i32_eq, i32_add, i32_mul, i32_sub, i32_neg, zrz_0, zrz_1, zif_t, zif_f, zsF_s, zsF_k, zsF_a, zsC_s, zsC_a, zsC_i, zsW_s, zsW_a, Int.add_zero, Int.zero_add, true_and, false_and, and_false, Bool.false_eq_true, decide_true, decide_false, Bool.true_and, Bool.false_and, Bool.true_or, Bool.false_or, sub1, and_true, if_pos, if_neg, wv_35 S, wr_320 S, wr_321 S, wr_322 S, wr_325 S, wr_326 S, wg_323 S, wp_323 S, wg_324 S, wp_324 S, wg_327 S, wp_327 S, wg_328 S, wp_328 S, wg_329 S, wp_329 S, wg_330 S, wp_330 S, pg_513 S, pr_512 S, pa_3 S, t1, tb.2, el, eg, e_Reader_passNumber, ew]
      · rw [if_neg cg] at eg
        have e59 := sgn_eq (c := 59) tb.1.1 tb.1.2 (by omega) (by omega)
        rw [eq_iff_iff] at e59
        have hE : tE B n s = s + 1 := by unfold tE; rw [if_neg cn, if_neg cl, if_neg cg]
        by_cases c5 : B s = 59
        · have hK : tK B n s = 2 := by unfold tK; rw [if_neg cn, if_neg cl, if_neg cg, if_pos c5]
          refine ⟨zsF (zsF (zsF (zsF F 327 35 s) 328 35 s) 329 35 2) 327 35 (s + 1), ?_, ((((rdE.rfl F).sF (by omega) (by omega)).sF (by omega) (by omega)).sF (by omega) (by omega)).sF (by omega) (by omega), rfl, hE.symm, hK.symm, kn 2 (by omega) hK⟩
          simp (disch := omega) only [if_true, if_false, not_true_eq_false, not_false_eq_true, zoI_s, zoR_s, zoH_s, zoL_s, zbI_s, zbV_s, zbR_s, zbL_s, zif_dec, i32_0, ne_eq, i32_lt, i32_le, i32_eq, i32_add, i32_mul, i32_sub, i32_neg, zrz_0, zrz_1, zif_t, zif_f, zsF_s, zsF_k, zsF_a, zsC_s, zsC_a, zsC_i, zsW_s, zsW_a, Int.add_zero, Int.zero_add, true_and, false_and, and_false, Bool.false_eq_true, decide_true, decide_false, Bool.true_and, Bool.false_and, Bool.true_or, Bool.false_or, sub1, and_true, if_pos, if_neg, wv_35 S, wr_320 S, wr_321 S, wr_322 S, wr_325 S, wr_326 S, wg_323 S, wp_323 S, wg_324 S, wp_324 S, wg_327 S, wp_327 S, wg_328 S, wp_328 S, wg_329 S, wp_329 S, wg_330 S, wp_330 S, pg_513 S, pr_512 S, pa_3 S, t1, tb.2, el, eg]
        · have hK : tK B n s = 4 := by unfold tK; rw [if_neg cn, if_neg cl, if_neg cg, if_neg c5]
          refine ⟨zsF (zsF (zsF (zsF F 327 35 s) 328 35 s) 329 35 4) 327 35 (s + 1), ?_, ((((rdE.rfl F).sF (by omega) (by omega)).sF (by omega) (by omega)).sF (by omega) (by omega)).sF (by omega) (by omega), rfl, hE.symm, hK.symm, kn 4 (by omega) hK⟩
          simp (disch := omega) only [if_true, if_false, not_true_eq_false, not_false_eq_true, zoI_s, zoR_s, zoH_s, zoL_s, zbI_s, zbV_s, zbR_s, zbL_s, zif_dec, i32_0, ne_eq, i32_lt, i32_le, i32_eq, i32_add, i32_mul, i32_sub, i32_neg, zrz_0, zrz_1, zif_t, zif_f, zsF_s, zsF_k, zsF_a, zsC_s, zsC_a, zsC_i, zsW_s, zsW_a, Int.add_zero, Int.zero_add, true_and, false_and, and_false, Bool.false_eq_true, decide_true, decide_false, Bool.true_and, Bool.false_and, Bool.true_or, Bool.false_or, sub1, and_true, if_pos, if_neg, wv_35 S, wr_320 S, wr_321 S, wr_322 S, wr_325 S, wr_326 S, wg_323 S, wp_323 S, wg_324 S, wp_324 S, wg_327 S, wp_327 S, wg_328 S, wp_328 S, wg_329 S, wp_329 S, wg_330 S, wp_330 S, pg_513 S, pr_512 S, pa_3 S, t1, tb.2, el, eg]
  · have cn : n ≤ s := by omega
    have hE : tE B n s = s := by unfold tE; rw [if_pos cn]
    have hK : tK B n s = 3 := by unfold tK; rw [if_pos cn]
    refine ⟨zsF (zsF (zsF F 327 35 s) 328 35 s) 329 35 3, ?_, (((rdE.rfl F).sF (by omega) (by omega)).sF (by omega) (by omega)).sF (by omega) (by omega), rfl, hE.symm, hK.symm, kn 3 (by omega) hK⟩
    simp (disch := omega) only [if_true, if_false, not_true_eq_false, not_false_eq_true, zoI_s, zoR_s, zoH_s, zoL_s, zbI_s, zbV_s, zbR_s, zbL_s, zif_dec, i32_0, ne_eq, i32_lt, i32_le, i32_eq, i32_add, i32_mul, i32_sub, i32_neg, zrz_0, zrz_1, zif_t, zif_f, zsF_s, zsF_k, zsF_a, zsC_s, zsC_a, zsC_i, zsW_s, zsW_a, Int.add_zero, Int.zero_add, true_and, false_and, and_false, Bool.false_eq_true, decide_true, decide_false, Bool.true_and, Bool.false_and, Bool.true_or, Bool.false_or, sub1, and_true, if_pos, if_neg, wv_35 S, wr_320 S, wr_321 S, wr_322 S, wr_325 S, wr_326 S, wg_323 S, wp_323 S, wg_324 S, wp_324 S, wg_327 S, wp_327 S, wg_328 S, wp_328 S, wg_329 S, wp_329 S, wg_330 S, wp_330 S, pg_513 S, t1]
end RD
