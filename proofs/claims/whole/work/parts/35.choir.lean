/-! sets of bits: unions -/
def ors (s t : Int) : Int := ((s.toNat ||| t.toNat : Nat) : Int)
def ands (s t : Int) : Int := ((s.toNat &&& t.toNat : Nat) : Int)
theorem b_ors {s t : Int} (h0 : 0 ≤ s) (h1 : s < 512) (h2 : 0 ≤ t) (h3 : t < 512) : i32 s ||| i32 t = i32 (ors s t) := by
  obtain ⟨n, rfl⟩ := Int.eq_ofNat_of_zero_le h0
  obtain ⟨m, rfl⟩ := Int.eq_ofNat_of_zero_le h2
  rw [i32_lor n m (by omega) (by omega)]
  rfl
theorem b_ands {s t : Int} (h0 : 0 ≤ s) (h1 : s < 512) (h2 : 0 ≤ t) (h3 : t < 512) : i32 s &&& i32 t = i32 (ands s t) := by
  obtain ⟨n, rfl⟩ := Int.eq_ofNat_of_zero_le h0
  obtain ⟨m, rfl⟩ := Int.eq_ofNat_of_zero_le h2
  rw [i32_land n m (by omega) (by omega)]
  rfl
theorem bitI_tb (s r : Nat) : bitI (s : Int) (r : Int) = if s.testBit r = true then 1 else 0 := by
  rw [bitI_nat, Nat.testBit_eq_decide_div_mod_eq]
  by_cases c : s / 2 ^ r % 2 = 1
  · rw [decide_eq_true c, if_pos rfl, c]; rfl
  · rw [decide_eq_false c, if_neg (by simp)]
    omega
theorem bitI_ors {s t r : Int} (h0 : 0 ≤ s) (h2 : 0 ≤ t) (h4 : 0 ≤ r) : bitI (ors s t) r = if bitI s r = 1 ∨ bitI t r = 1 then 1 else 0 := by
  obtain ⟨n, rfl⟩ := Int.eq_ofNat_of_zero_le h0
  obtain ⟨m, rfl⟩ := Int.eq_ofNat_of_zero_le h2
  obtain ⟨k, rfl⟩ := Int.eq_ofNat_of_zero_le h4
  unfold ors
  rw [Int.toNat_natCast, Int.toNat_natCast, bitI_tb, bitI_tb, bitI_tb, Nat.testBit_or]
  cases n.testBit k <;> cases m.testBit k <;> simp
theorem bitI_ands {s t r : Int} (h0 : 0 ≤ s) (h2 : 0 ≤ t) (h4 : 0 ≤ r) : bitI (ands s t) r = if bitI s r = 1 ∧ bitI t r = 1 then 1 else 0 := by
  obtain ⟨n, rfl⟩ := Int.eq_ofNat_of_zero_le h0
  obtain ⟨m, rfl⟩ := Int.eq_ofNat_of_zero_le h2
  obtain ⟨k, rfl⟩ := Int.eq_ofNat_of_zero_le h4
  unfold ands
  rw [Int.toNat_natCast, Int.toNat_natCast, bitI_tb, bitI_tb, bitI_tb, Nat.testBit_and]
  cases n.testBit k <;> cases m.testBit k <;> simp
theorem ors_lt {s t : Int} (h0 : 0 ≤ s) (h1 : s < 256) (h2 : 0 ≤ t) (h3 : t < 256) : 0 ≤ ors s t ∧ ors s t < 256 := by
  have : s.toNat ||| t.toNat < 2 ^ 8 := Nat.or_lt_two_pow (by omega) (by omega)
  unfold ors
  omega
theorem ands_lt {s t : Int} (h0 : 0 ≤ s) (h1 : s < 256) : 0 ≤ ands s t ∧ ands s t < 256 := by
  have : s.toNat &&& t.toNat ≤ s.toNat := Nat.and_le_left
  unfold ands
  omega
/-- the bits of s are as P says -/
def bN (b : Bool) : Int := match b with
  | true => 1
  | false => 0
def setB (s : Int) (P : Int → Bool) : Prop := 0 ≤ s ∧ s < 256 ∧ ∀ t, 0 ≤ t → t < 8 → bitI s t = bN (P t)
theorem setB.b8 {s : Int} {P : Int → Bool} (h : setB s P) : bitI s 8 = 0 := bitI_hi (n := 8) h.1 h.2.1 (by omega) (by omega) (by omega) (by omega)
theorem setB.ext {s t : Int} {P Q : Int → Bool} (h : setB s P) (g : setB t Q) (e : ∀ r, 0 ≤ r → r < 8 → P r = Q r) : s = t := by
  refine bits_ext h.1 (by have := h.2.1; omega) g.1 (by have := g.2.1; omega) (fun r r0 r1 => ?_)
  by_cases c : r = 8
  · rw [c, h.b8, g.b8]
  · rw [h.2.2 r r0 (by omega), g.2.2 r r0 (by omega), e r r0 (by omega)]
theorem setB.iff {s t : Int} {P Q : Int → Bool} (h : setB s P) (g : setB t Q) : s = t ↔ ∀ r, 0 ≤ r → r < 8 → P r = Q r := by
  refine ⟨fun e r r0 r1 => ?_, h.ext g⟩
  have h1 := h.2.2 r r0 r1
  have h2 := g.2.2 r r0 r1
  rw [e, h2] at h1
  revert h1
  cases P r <;> cases Q r <;> intro h1 <;> first | rfl | (cases h1)
theorem setB.zero : setB 0 (fun _ => false) := ⟨by omega, by omega, fun t _ _ => by rw [bitI_0]; rfl⟩
theorem setB.full {n : Int} (h0 : 0 ≤ n) (h1 : n ≤ 8) : setB (2 ^ n.toNat - 1) (fun t => decide (t < n)) := by
  have p1 := pw_8 h1
  have p2 := pw_le (n := n) (by omega)
  refine ⟨by omega, by omega, fun t t0 t1 => ?_⟩
  show _ = bN (decide (t < n))
  by_cases c : t < n
  · rw [bitI_full t0 c (by omega), decide_eq_true c]; rfl
  · rw [bitI_hi (n := n) (by omega) (by omega) h0 (by omega) (by omega) (by omega), decide_eq_false c]; rfl
theorem setB.or1 {s r : Int} {P : Int → Bool} (h : setB s P) (r0 : 0 ≤ r) (r1 : r < 8) : setB (orI s r) (fun t => P t || decide (t = r)) := by
  have o := orI_lt (s := s) (r := r) (n := 8) h.1 r0 r1 (by omega) h.2.1
  refine ⟨o.1, o.2.2, fun t t0 t1 => ?_⟩
  rw [bitI_or h.1 (by have := h.2.1; omega) r0 (by omega) t0 (by omega), h.2.2 t t0 t1]
  show _ = bN (P t || decide (t = r))
  by_cases c : t = r
  · rw [if_pos c, decide_eq_true c, Bool.or_true]; rfl
  · rw [if_neg c, decide_eq_false c, Bool.or_false]
theorem setB.or {s u : Int} {P Q : Int → Bool} (h : setB s P) (g : setB u Q) : setB (ors s u) (fun t => P t || Q t) := by
  have o := ors_lt h.1 h.2.1 g.1 g.2.1
  refine ⟨o.1, o.2, fun t t0 t1 => ?_⟩
  rw [bitI_ors h.1 g.1 t0, h.2.2 t t0 t1, g.2.2 t t0 t1]
  show _ = bN (P t || Q t)
  cases P t <;> cases Q t <;> rfl
theorem setB.and {s u : Int} {P Q : Int → Bool} (h : setB s P) (g : setB u Q) : setB (ands s u) (fun t => P t && Q t) := by
  have o := ands_lt (t := u) h.1 h.2.1
  refine ⟨o.1, o.2, fun t t0 t1 => ?_⟩
  rw [bitI_ands h.1 g.1 t0, h.2.2 t t0 t1, g.2.2 t t0 t1]
  show _ = bN (P t && Q t)
  cases P t <;> cases Q t <;> rfl
theorem setB.cg {s : Int} {P Q : Int → Bool} (h : setB s P) (e : ∀ t, 0 ≤ t → t < 8 → P t = Q t) : setB s Q := ⟨h.1, h.2.1, fun t t0 t1 => by rw [h.2.2 t t0 t1, e t t0 t1]⟩
theorem setB.self {s : Int} (h0 : 0 ≤ s) (h1 : s < 256) : setB s (fun t => decide (bitI s t = 1)) := ⟨h0, h1, fun t _ _ => by
  show _ = bN (decide (bitI s t = 1))
  rcases bitI_01 s t with c | c
  · rw [c]; rfl
  · rw [c]; rfl⟩
theorem b_shr2_t : ∀ s : Nat, s < 64 → ∀ r : Nat, r < 6 → ∀ t : Nat, t < 6 → (zshr (i32 (s : Int)) (i32 (r : Int)) &&& zshr (i32 (s : Int)) (i32 (t : Int))) &&& i32 1 = i32 ((s / 2 ^ r % 2 * (s / 2 ^ t % 2) : Nat) : Int) := by decide +kernel
theorem b_shr2 {s r t : Int} (h0 : 0 ≤ s) (h1 : s < 64) (h2 : 0 ≤ r) (h3 : r < 6) (h4 : 0 ≤ t) (h5 : t < 6) : (zshr (i32 s) (i32 r) &&& zshr (i32 s) (i32 t)) &&& i32 1 = i32 (bitI s r * bitI s t) := by
  obtain ⟨n, rfl⟩ := Int.eq_ofNat_of_zero_le h0
  obtain ⟨m, rfl⟩ := Int.eq_ofNat_of_zero_le h2
  obtain ⟨k, rfl⟩ := Int.eq_ofNat_of_zero_le h4
  rw [bitI_nat, bitI_nat, b_shr2_t n (by omega) m (by omega) k (by omega), Int.natCast_mul]
/-! choir -/
def sndB (D : Int → Int) (p s : Int) : Bool := alB (fun q => exB (fun r => decide (bitI s r = 1) && decide (nteS D r p q ≠ -1)) (D 0)) (D 2)
def choF (D : Int → Int) (p : Int) (s b : Int) : Int := if (b = -1 ∨ bitsS s < bitsS b) ∧ sndB D p s = true then s else b
def choS (D : Int → Int) (p : Int) : Int := foldF (choF D p) 0 (2 ^ (D 0).toNat : Int).toNat (-1)
def choirQ (A : Int → Int) (d p b : Int) : Int := if (0 ≤ d ∧ d < A 0) ∧ (0 ≤ p ∧ p < (dOf A d) 1) then (if choS (dOf A d) p = -1 then -1 else if b = 0 then bitsS (choS (dOf A d) p) else choS (dOf A d) p) else -1
section A12
variable {h : zHeap} {F : Nat → Nat → Int} {C : Nat → Int → Int} {a : Nat} {D : Int → Int}
theorem choF_I {p n : Int} : ∀ k s, 0 ≤ k → k < n → (-1 ≤ s ∧ s < k) → (-1 ≤ choF D p k s ∧ choF D p k s < k + 1) := by
  intro k s _ _ h2
  unfold choF
  split <;> omega
theorem choS_rng (O : dOK D) (p : Int) : -1 ≤ choS D p ∧ choS D p < 64 := by
  have b0 := O.1
  have p1 := pw_6 (n := D 0) (by omega)
  have p2 := pw_le (n := D 0) (by omega)
  have := foldI (choF D p) (fun k s => -1 ≤ s ∧ s < k) 0 (2 ^ (D 0).toNat) (by omega) choF_I (-1) (by omega)
  rw [show (2 : Int) ^ (D 0).toNat - 0 = 2 ^ (D 0).toNat by omega] at this
  have e : choS D p = foldF (choF D p) 0 (2 ^ (D 0).toNat : Int).toNat (-1) := rfl
  rw [← e] at this
  omega
theorem c_heardQuestions (H : duS h a) (V : duV F C a D) (O : dOK D) {r p : Int} (r0 : 0 ≤ r) (r1 : r < D 0) (p0 : 0 ≤ p) (p1 : p < D 1) : ∃ s, zc 102 [zR (some 68), zR (some a), zI (i32 r), zI (i32 p)] (zw h F C) = some (zI (i32 s), zw h F C) ∧ setB s (fun q => decide (q < D 2) && decide (nteS D r p q ≠ -1)) := by
  have b0 := O.1
  have b1 := O.2.2.2.2.1 r r0 r1
  have b2 := O.2.2.1
  obtain ⟨s, L1, i1⟩ := zinv (fun q s => zr 102 4 [yR (some 68), yR (some a), yI (i32 r), yI (i32 p), yI (i32 s), yI (i32 q)] [] (zw h F C)) (fun k s => setB s (fun q => decide (q < k) && decide (nteS D r p q ≠ -1))) 0 (D 2) (by omega) (fun q s q0 q1 hi => by
    have j1 := hi.1
    have j2 := hi.2.1
    have g := nteS_c (D := D) (r := r) (p := p) (q := q)
    by_cases c : nteS D r p q = -1
    · refine ⟨s, ?_, hi.cg (fun t _ _ => ?_)⟩
      · rw [e_Survey_heardQuestions_4]
        rw [g] at c
        simp (disch := omega) only [if_true, if_false, not_true_eq_false, not_false_eq_true, zoI_s, zoR_s, zoH_s, zoL_s, zbI_s, zbV_s, zbR_s, zbL_s, zif_dec, i32_0, ne_eq, i32_lt, i32_le, i32_eq, i32_add, i32_mul, i32_sub, i32_neg, zrz_0, zrz_1, zif_t, zif_f, zsF_s, zsF_k, zsF_a, zsC_s, zsC_a, zsC_i, zsW_s, zsW_a, Int.add_zero, Int.zero_add, true_and, false_and, and_false, Bool.false_eq_true, decide_true, decide_false, Bool.true_and, Bool.false_and, Bool.true_or, Bool.false_or, if_pos, if_neg, dv H, dg_128 H, dp_128 H, dg_129 H, dp_129 H, dg_130 H, dp_130 H, dg_131 H, dp_131 H, dr_132 H, da_132 H, dr_133 H, da_133 H, dr_134 H, da_134 H, dr_135 H, da_135 H, dr_136 H, da_136 H, dr_137 H, da_137 H, V.1.1, V.1.2.1, V.1.2.2.1, V.1.2.2.2, c_answerOf H V O, c_noteOf H V O, c_meaning H V, V.2.1, c_coughs H V O]
      · by_cases ct : t = q
        · rw [ct, decide_eq_false (show ¬ q < q by omega), decide_eq_false (show ¬ nteS D r p q ≠ -1 from fun h => h c), Bool.and_false, Bool.and_false]
        · by_cases c2 : t < q
          · rw [decide_eq_true c2, decide_eq_true (show t < q + 1 by omega)]
          · rw [decide_eq_false c2, decide_eq_false (show ¬ t < q + 1 by omega)]
    · refine ⟨orI s q, ?_, (hi.or1 q0 (by omega)).cg (fun t _ _ => ?_)⟩
      · rw [e_Survey_heardQuestions_4]
        rw [g] at c
        simp (disch := omega) only [if_true, if_false, not_true_eq_false, not_false_eq_true, zoI_s, zoR_s, zoH_s, zoL_s, zbI_s, zbV_s, zbR_s, zbL_s, zif_dec, i32_0, ne_eq, i32_lt, i32_le, i32_eq, i32_add, i32_mul, i32_sub, i32_neg, zrz_0, zrz_1, zif_t, zif_f, zsF_s, zsF_k, zsF_a, zsC_s, zsC_a, zsC_i, zsW_s, zsW_a, Int.add_zero, Int.zero_add, true_and, false_and, and_false, Bool.false_eq_true, decide_true, decide_false, Bool.true_and, Bool.false_and, Bool.true_or, Bool.false_or, if_pos, if_neg, dv H, dg_128 H, dp_128 H, dg_129 H, dp_129 H, dg_130 H, dp_130 H, dg_131 H, dp_131 H, dr_132 H, da_132 H, dr_133 H, da_133 H, dr_134 H, da_134 H, dr_135 H, da_135 H, dr_136 H, da_136 H, dr_137 H, da_137 H, V.1.1, V.1.2.1, V.1.2.2.1, V.1.2.2.2, c_answerOf H V O, c_noteOf H V O, c_meaning H V, V.2.1, c_coughs H V O, b_or]
      · by_cases ct : t = q
        · rw [ct, decide_eq_true (show q < q + 1 by omega), decide_eq_true (show nteS D r p q ≠ -1 from c), decide_eq_true (show q = q from rfl), Bool.or_true]; rfl
        · rw [decide_eq_false ct, Bool.or_false]
          by_cases c2 : t < q
          · rw [decide_eq_true c2, decide_eq_true (show t < q + 1 by omega)]
          · rw [decide_eq_false c2, decide_eq_false (show ¬ t < q + 1 by omega)]) 0 (setB.zero.cg (fun t t0 _ => by rw [decide_eq_false (show ¬ t < 0 by omega), Bool.false_and]))
  refine ⟨s, ?_, i1⟩
  rw [e_Survey_heardQuestions, L1, e_Survey_heardQuestions_4]
  simp (disch := omega) only [if_true, if_false, not_true_eq_false, not_false_eq_true, zoI_s, zoR_s, zoH_s, zoL_s, zbI_s, zbV_s, zbR_s, zbL_s, zif_dec, i32_0, ne_eq, i32_lt, i32_le, i32_eq, i32_add, i32_mul, i32_sub, i32_neg, zrz_0, zrz_1, zif_t, zif_f, zsF_s, zsF_k, zsF_a, zsC_s, zsC_a, zsC_i, zsW_s, zsW_a, Int.add_zero, Int.zero_add, true_and, false_and, and_false, Bool.false_eq_true, decide_true, decide_false, Bool.true_and, Bool.false_and, Bool.true_or, Bool.false_or, if_pos, if_neg, dv H, dg_128 H, dp_128 H, dg_129 H, dp_129 H, dg_130 H, dp_130 H, dg_131 H, dp_131 H, dr_132 H, da_132 H, dr_133 H, da_133 H, dr_134 H, da_134 H, dr_135 H, da_135 H, dr_136 H, da_136 H, dr_137 H, da_137 H, V.1.1, V.1.2.1, V.1.2.2.1, V.1.2.2.2, c_answerOf H V O, c_noteOf H V O, c_meaning H V]
theorem c_unionOf (S : St h) (H : duS h a) (V : duV F C a D) (O : dOK D) (ha : a ≤ 28) {s : Int} (s0 : 0 ≤ s) (s1 : s < 64) {f : Int → Int} {G : Int → Int → Bool} (hf : ∀ r, 0 ≤ r → r < D 0 → setB (f r) (G r)) : ∃ u, zc 103 [zR (some 68), zR (some a), zI (i32 s)] (zw h F (zsW C 71 f)) = some (zI (i32 u), zw h F (zsW C 71 f)) ∧ setB u (fun t => exB (fun r => decide (bitI s r = 1) && G r t) (D 0)) := by
  have b0 := O.1
  obtain ⟨u, L1, i1⟩ := zinv (fun r u => zr 103 4 [yR (some 68), yR (some a), yI (i32 s), yI (i32 u), yI (i32 r)] [] (zw h F (zsW C 71 f))) (fun k u => setB u (fun t => exB (fun r => decide (bitI s r = 1) && G r t) k)) 0 (D 0) (by omega) (fun r u r0 r1 hi => by
    have j1 := hi.1
    have j2 := hi.2.1
    have g := hf r r0 r1
    have g1 := g.1
    have g2 := g.2.1
    rcases bitI_01 s r with c | c
    · refine ⟨u, ?_, hi.cg (fun t _ _ => ?_)⟩
      · rw [e_Survey_unionOf_4]
        simp (disch := omega) only [if_true, if_false, not_true_eq_false, not_false_eq_true, zoI_s, zoR_s, zoH_s, zoL_s, zbI_s, zbV_s, zbR_s, zbL_s, zif_dec, i32_0, ne_eq, i32_lt, i32_le, i32_eq, i32_add, i32_mul, i32_sub, i32_neg, zrz_0, zrz_1, zif_t, zif_f, zsF_s, zsF_k, zsF_a, zsC_s, zsC_a, zsC_i, zsW_s, zsW_a, Int.add_zero, Int.zero_add, true_and, false_and, and_false, Bool.false_eq_true, decide_true, decide_false, Bool.true_and, Bool.false_and, Bool.true_or, Bool.false_or, if_pos, if_neg, dv H, dg_128 H, dp_128 H, dg_129 H, dp_129 H, dg_130 H, dp_130 H, dg_131 H, dp_131 H, dr_132 H, da_132 H, dr_133 H, da_133 H, dr_134 H, da_134 H, dr_135 H, da_135 H, dr_136 H, da_136 H, dr_137 H, da_137 H, V.1.1, b_shr, c]
      · rw [exB_succ _ r0, c, decide_eq_false (show ¬ (0 : Int) = 1 by omega), Bool.false_and, Bool.or_false]
    · refine ⟨ors u (f r), ?_, (hi.or g).cg (fun t _ _ => ?_)⟩
      · rw [e_Survey_unionOf_4]
        simp (disch := omega) only [if_true, if_false, not_true_eq_false, not_false_eq_true, zoI_s, zoR_s, zoH_s, zoL_s, zbI_s, zbV_s, zbR_s, zbL_s, zif_dec, i32_0, ne_eq, i32_lt, i32_le, i32_eq, i32_add, i32_mul, i32_sub, i32_neg, zrz_0, zrz_1, zif_t, zif_f, zsF_s, zsF_k, zsF_a, zsC_s, zsC_a, zsC_i, zsW_s, zsW_a, Int.add_zero, Int.zero_add, true_and, false_and, and_false, Bool.false_eq_true, decide_true, decide_false, Bool.true_and, Bool.false_and, Bool.true_or, Bool.false_or, if_pos, if_neg, dv H, dg_128 H, dp_128 H, dg_129 H, dp_129 H, dg_130 H, dp_130 H, dg_131 H, dp_131 H, dr_132 H, da_132 H, dr_133 H, da_133 H, dr_134 H, da_134 H, dr_135 H, da_135 H, dr_136 H, da_136 H, dr_137 H, da_137 H, V.1.1, b_shr, c, wv_68 S, wr_384 S, wr_385 S, wr_386 S, wa_71 S, ws_71 S, b_ors]
      · rw [exB_succ _ r0, c, decide_eq_true (show (1 : Int) = 1 from rfl), Bool.true_and]) 0 setB.zero
  refine ⟨u, ?_, i1⟩
  rw [e_Survey_unionOf, L1, e_Survey_unionOf_4]
  simp (disch := omega) only [if_true, if_false, not_true_eq_false, not_false_eq_true, zoI_s, zoR_s, zoH_s, zoL_s, zbI_s, zbV_s, zbR_s, zbL_s, zif_dec, i32_0, ne_eq, i32_lt, i32_le, i32_eq, i32_add, i32_mul, i32_sub, i32_neg, zrz_0, zrz_1, zif_t, zif_f, zsF_s, zsF_k, zsF_a, zsC_s, zsC_a, zsC_i, zsW_s, zsW_a, Int.add_zero, Int.zero_add, true_and, false_and, and_false, Bool.false_eq_true, decide_true, decide_false, Bool.true_and, Bool.false_and, Bool.true_or, Bool.false_or, if_pos, if_neg, dv H, dg_128 H, dp_128 H, dg_129 H, dp_129 H, dg_130 H, dp_130 H, dg_131 H, dp_131 H, dr_132 H, da_132 H, dr_133 H, da_133 H, dr_134 H, da_134 H, dr_135 H, da_135 H, dr_136 H, da_136 H, dr_137 H, da_137 H, V.1.1]
theorem c_leastChoir (S : St h) (H : duS h a) (V : duV F C a D) (O : dOK D) (ha : a ≤ 28) {p : Int} (p0 : 0 ≤ p) (p1 : p < D 1) : ∃ f, zc 101 [zR (some 68), zR (some a), zI (i32 p)] (zw h F C) = some (zI (i32 (choS D p)), zw h F (zsW C 71 f)) := by
  have b0 := O.1
  have b2 := O.2.2.1
  have q1 := pw_6 (n := D 0) (by omega)
  have q2 := pw_le (n := D 0) (by omega)
  have q3 := pw_8 (n := D 2) (by omega)
  have q4 := pw_le (n := D 2) (by omega)
  obtain ⟨f, L1, i1⟩ := zinv (fun r f => zr 101 2 [yR (some 68), yR (some a), yI (i32 p), yI (i32 r), none, none, none] [] (zw h F (zsW C 71 f))) (fun k f => ∀ r, 0 ≤ r → r < k → setB (f r) (fun q => decide (q < D 2) && decide (nteS D r p q ≠ -1))) 0 (D 0) (by omega) (fun r f r0 r1 hi => by
    obtain ⟨s, e, g⟩ := c_heardQuestions H (V.sW (b := 71) f ha (by omega)) O r0 r1 p0 p1
    refine ⟨up1 f r s, ?_, fun t t0 t1 => ?_⟩
    · rw [e_Survey_leastChoir_2]
      simp (disch := omega) only [if_true, if_false, not_true_eq_false, not_false_eq_true, zoI_s, zoR_s, zoH_s, zoL_s, zbI_s, zbV_s, zbR_s, zbL_s, zif_dec, i32_0, ne_eq, i32_lt, i32_le, i32_eq, i32_add, i32_mul, i32_sub, i32_neg, zrz_0, zrz_1, zif_t, zif_f, zsF_s, zsF_k, zsF_a, zsC_s, zsC_a, zsC_i, zsW_s, zsW_a, Int.add_zero, Int.zero_add, true_and, false_and, and_false, Bool.false_eq_true, decide_true, decide_false, Bool.true_and, Bool.false_and, Bool.true_or, Bool.false_or, if_pos, if_neg, dv H, dg_128 H, dp_128 H, dg_129 H, dp_129 H, dg_130 H, dp_130 H, dg_131 H, dp_131 H, dr_132 H, da_132 H, dr_133 H, da_133 H, dr_134 H, da_134 H, dr_135 H, da_135 H, dr_136 H, da_136 H, dr_137 H, da_137 H, V.1.1, wv_68 S, wr_384 S, wr_385 S, wr_386 S, e, wa_71 S, ws_71 S, zsC_W, zsW_W]
    · by_cases c : t = r
      · rw [c, up1_s]; exact g
      · rw [up1_n c]; exact hi t t0 (by omega)) (C 71) (fun r _ _ => by omega)
  rw [zsW_id] at L1
  have L2 := (zfoI (fun s b => zr 101 28 [yR (some 68), yR (some a), yI (i32 p), yI (i32 (2 ^ (D 2).toNat - 1)), yI (i32 b), yI (i32 s), none] [] (zw h F (zsW C 71 f))) (choF D p) (fun k s => -1 ≤ s ∧ s < k) 0 (2 ^ (D 0).toNat) (by omega) (fun s b s0 s1 hi => by
    obtain ⟨u, e, g⟩ := c_unionOf (F := F) (C := C) S H V O ha s0 (by omega) i1
    have j1 := g.1
    have j2 := g.2.1
    have g3 := bitsS_rng s
    have g4 := bitsS_rng b
    have hu : u = 2 ^ (D 2).toNat - 1 ↔ sndB D p s = true := by
      rw [g.iff (setB.full (by omega) (by omega))]
      unfold sndB
      rw [alB_iff]
      constructor
      · intro hh q h0 h1
        have := hh q h0 (by omega)
        rw [decide_eq_true h1] at this
        simp only [Bool.true_and] at this
        exact this
      · intro hh q h0 h1
        by_cases c : q < D 2
        · rw [decide_eq_true c]
          simp only [Bool.true_and]
          exact hh q h0 c
        · rw [decide_eq_false c]
          simp only [Bool.false_and, Bool.and_false]
          cases cc : exB (fun _ => false) (D 0) with
          | false => rfl
          | true => obtain ⟨i, _, _, h9⟩ := (exB_iff _ _).mp cc; cases h9
    rw [e_Survey_leastChoir_28]
    unfold choF
    by_cases cb : b = -1
    · by_cases cu : u = 2 ^ (D 2).toNat - 1
      · rw [if_pos ⟨Or.inl cb, hu.mp cu⟩]
        simp (disch := omega) only [if_true, if_false, not_true_eq_false, not_false_eq_true, zoI_s, zoR_s, zoH_s, zoL_s, zbI_s, zbV_s, zbR_s, zbL_s, zif_dec, i32_0, ne_eq, i32_lt, i32_le, i32_eq, i32_add, i32_mul, i32_sub, i32_neg, zrz_0, zrz_1, zif_t, zif_f, zsF_s, zsF_k, zsF_a, zsC_s, zsC_a, zsC_i, zsW_s, zsW_a, Int.add_zero, Int.zero_add, true_and, false_and, and_false, Bool.false_eq_true, decide_true, decide_false, Bool.true_and, Bool.false_and, Bool.true_or, Bool.false_or, if_pos, if_neg, dv H, dg_128 H, dp_128 H, dg_129 H, dp_129 H, dg_130 H, dp_130 H, dg_131 H, dp_131 H, dr_132 H, da_132 H, dr_133 H, da_133 H, dr_134 H, da_134 H, dr_135 H, da_135 H, dr_136 H, da_136 H, dr_137 H, da_137 H, V.1.1, b_pow, wv_68 S, wr_384 S, wr_385 S, wr_386 S, e, d_Survey_leastChoir_28_w6]
      · rw [if_neg (fun z => cu (hu.mpr z.2))]
        simp (disch := omega) only [if_true, if_false, not_true_eq_false, not_false_eq_true, zoI_s, zoR_s, zoH_s, zoL_s, zbI_s, zbV_s, zbR_s, zbL_s, zif_dec, i32_0, ne_eq, i32_lt, i32_le, i32_eq, i32_add, i32_mul, i32_sub, i32_neg, zrz_0, zrz_1, zif_t, zif_f, zsF_s, zsF_k, zsF_a, zsC_s, zsC_a, zsC_i, zsW_s, zsW_a, Int.add_zero, Int.zero_add, true_and, false_and, and_false, Bool.false_eq_true, decide_true, decide_false, Bool.true_and, Bool.false_and, Bool.true_or, Bool.false_or, if_pos, if_neg, dv H, dg_128 H, dp_128 H, dg_129 H, dp_129 H, dg_130 H, dp_130 H, dg_131 H, dp_131 H, dr_132 H, da_132 H, dr_133 H, da_133 H, dr_134 H, da_134 H, dr_135 H, da_135 H, dr_136 H, da_136 H, dr_137 H, da_137 H, V.1.1, b_pow, wv_68 S, wr_384 S, wr_385 S, wr_386 S, e, d_Survey_leastChoir_28_w6]
    · by_cases cc : bitsS s < bitsS b
      · by_cases cu : u = 2 ^ (D 2).toNat - 1
        · rw [if_pos ⟨Or.inr cc, hu.mp cu⟩]
          simp (disch := omega) only [if_true, if_false, not_true_eq_false, not_false_eq_true, zoI_s, zoR_s, zoH_s, zoL_s, zbI_s, zbV_s, zbR_s, zbL_s, zif_dec, i32_0, ne_eq, i32_lt, i32_le, i32_eq, i32_add, i32_mul, i32_sub, i32_neg, zrz_0, zrz_1, zif_t, zif_f, zsF_s, zsF_k, zsF_a, zsC_s, zsC_a, zsC_i, zsW_s, zsW_a, Int.add_zero, Int.zero_add, true_and, false_and, and_false, Bool.false_eq_true, decide_true, decide_false, Bool.true_and, Bool.false_and, Bool.true_or, Bool.false_or, if_pos, if_neg, dv H, dg_128 H, dp_128 H, dg_129 H, dp_129 H, dg_130 H, dp_130 H, dg_131 H, dp_131 H, dr_132 H, da_132 H, dr_133 H, da_133 H, dr_134 H, da_134 H, dr_135 H, da_135 H, dr_136 H, da_136 H, dr_137 H, da_137 H, V.1.1, b_pow, wv_68 S, wr_384 S, wr_385 S, wr_386 S, e, c_bitCount, d_Survey_leastChoir_28_w6]
        · rw [if_neg (fun z => cu (hu.mpr z.2))]
          simp (disch := omega) only [if_true, if_false, not_true_eq_false, not_false_eq_true, zoI_s, zoR_s, zoH_s, zoL_s, zbI_s, zbV_s, zbR_s, zbL_s, zif_dec, i32_0, ne_eq, i32_lt, i32_le, i32_eq, i32_add, i32_mul, i32_sub, i32_neg, zrz_0, zrz_1, zif_t, zif_f, zsF_s, zsF_k, zsF_a, zsC_s, zsC_a, zsC_i, zsW_s, zsW_a, Int.add_zero, Int.zero_add, true_and, false_and, and_false, Bool.false_eq_true, decide_true, decide_false, Bool.true_and, Bool.false_and, Bool.true_or, Bool.false_or, if_pos, if_neg, dv H, dg_128 H, dp_128 H, dg_129 H, dp_129 H, dg_130 H, dp_130 H, dg_131 H, dp_131 H, dr_132 H, da_132 H, dr_133 H, da_133 H, dr_134 H, da_134 H, dr_135 H, da_135 H, dr_136 H, da_136 H, dr_137 H, da_137 H, V.1.1, b_pow, wv_68 S, wr_384 S, wr_385 S, wr_386 S, e, c_bitCount, d_Survey_leastChoir_28_w6]
      · rw [if_neg (fun z => z.1.elim cb cc)]
        simp (disch := omega) only [if_true, if_false, not_true_eq_false, not_false_eq_true, zoI_s, zoR_s, zoH_s, zoL_s, zbI_s, zbV_s, zbR_s, zbL_s, zif_dec, i32_0, ne_eq, i32_lt, i32_le, i32_eq, i32_add, i32_mul, i32_sub, i32_neg, zrz_0, zrz_1, zif_t, zif_f, zsF_s, zsF_k, zsF_a, zsC_s, zsC_a, zsC_i, zsW_s, zsW_a, Int.add_zero, Int.zero_add, true_and, false_and, and_false, Bool.false_eq_true, decide_true, decide_false, Bool.true_and, Bool.false_and, Bool.true_or, Bool.false_or, if_pos, if_neg, dv H, dg_128 H, dp_128 H, dg_129 H, dp_129 H, dg_130 H, dp_130 H, dg_131 H, dp_131 H, dr_132 H, da_132 H, dr_133 H, da_133 H, dr_134 H, da_134 H, dr_135 H, da_135 H, dr_136 H, da_136 H, dr_137 H, da_137 H, V.1.1, b_pow, wv_68 S, wr_384 S, wr_385 S, wr_386 S, e, c_bitCount, d_Survey_leastChoir_28_w6]) choF_I (-1) (by omega)).1
  rw [show (2 : Int) ^ (D 0).toNat - 0 = 2 ^ (D 0).toNat by omega, show foldF (choF D p) 0 (2 ^ (D 0).toNat : Int).toNat (-1) = choS D p from rfl] at L2
  refine ⟨f, ?_⟩
  rw [e_Survey_leastChoir, L1, e_Survey_leastChoir_2]
  simp (disch := omega) only [if_true, if_false, not_true_eq_false, not_false_eq_true, zoI_s, zoR_s, zoH_s, zoL_s, zbI_s, zbV_s, zbR_s, zbL_s, zif_dec, i32_0, ne_eq, i32_lt, i32_le, i32_eq, i32_add, i32_mul, i32_sub, i32_neg, zrz_0, zrz_1, zif_t, zif_f, zsF_s, zsF_k, zsF_a, zsC_s, zsC_a, zsC_i, zsW_s, zsW_a, Int.add_zero, Int.zero_add, true_and, false_and, and_false, Bool.false_eq_true, decide_true, decide_false, Bool.true_and, Bool.false_and, Bool.true_or, Bool.false_or, if_pos, if_neg, dv H, dg_128 H, dp_128 H, dg_129 H, dp_129 H, dg_130 H, dp_130 H, dg_131 H, dp_131 H, dr_132 H, da_132 H, dr_133 H, da_133 H, dr_134 H, da_134 H, dr_135 H, da_135 H, dr_136 H, da_136 H, dr_137 H, da_137 H, V.1.1, V.1.2.2.1, b_pow, L2]
  rw [e_Survey_leastChoir_28]
  simp (disch := omega) only [if_true, if_false, not_true_eq_false, not_false_eq_true, zoI_s, zoR_s, zoH_s, zoL_s, zbI_s, zbV_s, zbR_s, zbL_s, zif_dec, i32_0, ne_eq, i32_lt, i32_le, i32_eq, i32_add, i32_mul, i32_sub, i32_neg, zrz_0, zrz_1, zif_t, zif_f, zsF_s, zsF_k, zsF_a, zsC_s, zsC_a, zsC_i, zsW_s, zsW_a, Int.add_zero, Int.zero_add, true_and, false_and, and_false, Bool.false_eq_true, decide_true, decide_false, Bool.true_and, Bool.false_and, Bool.true_or, Bool.false_or, if_pos, if_neg, dv H, dg_128 H, dp_128 H, dg_129 H, dp_129 H, dg_130 H, dp_130 H, dg_131 H, dp_131 H, dr_132 H, da_132 H, dr_133 H, da_133 H, dr_134 H, da_134 H, dr_135 H, da_135 H, dr_136 H, da_136 H, dr_137 H, da_137 H, V.1.1, b_pow]
theorem m_sounds (S : St h) (M : moV F C D) (O : dOK D) {p s : Int} (p0 : 0 ≤ p) (p1 : p < D 1) (s0 : 0 ≤ s) (s1 : s < 64) (w u v : Int) : ∃ w' u' v', zc 263 [zR (some 72), zI (i32 s), zI (i32 p)] (zw h (mlF F w u v) C) = some (zI (i32 (if sndB D p s = true then 1 else 0)), zw h (mlF F w' u' v') C) := by
  have b0 := O.1
  have b2 := O.2.2.1
  have L2 := fun q t (q0 : 0 ≤ q) (q1 : q < D 2) => zorJ (fun r b (t : Int × Int × Int) => zr 263 14 [yR (some 72), yI (i32 s), yI (i32 p), yI (i32 (if b = true then 1 else 0)), yI (i32 q), yI (i32 r)] [] (zw h (mlF F t.1 t.2.1 t.2.2) C)) (fun r => decide (bitI s r = 1) && decide (nteS D r p q ≠ -1)) (fun _ => True) (D 0) (by omega) (fun r b t r0 r1 _ => by
    have g1 := nteS_rng (D := D) r p q
    rw [e_Model_sounds_14]
    cases b with
    | true =>
      simp (disch := omega) only [if_true, if_false, not_true_eq_false, not_false_eq_true, zoI_s, zoR_s, zoH_s, zoL_s, zbI_s, zbV_s, zbR_s, zbL_s, zif_dec, i32_0, ne_eq, i32_lt, i32_le, i32_eq, i32_add, i32_mul, i32_sub, i32_neg, zrz_0, zrz_1, zif_t, zif_f, zsF_s, zsF_k, zsF_a, zsC_s, zsC_a, zsC_i, zsW_s, zsW_a, Int.add_zero, Int.zero_add, true_and, false_and, and_false, Bool.false_eq_true, decide_true, decide_false, Bool.true_and, Bool.false_and, Bool.true_or, Bool.false_or, if_pos, if_neg, wv_72 S, wr_768 S, wr_769 S, wr_777 S, wr_785 S, wr_786 S, wr_787 S, wr_789 S, wr_790 S, wr_791 S, wr_802 S, wr_803 S, wr_804 S, wr_805 S, wr_806 S, wr_807 S, wr_809 S, wg_770 S, wp_770 S, wg_771 S, wp_771 S, wg_772 S, wp_772 S, wg_773 S, wp_773 S, wg_774 S, wp_774 S, wg_775 S, wp_775 S, wg_776 S, wp_776 S, wg_778 S, wp_778 S, wg_779 S, wp_779 S, wg_780 S, wp_780 S, wg_781 S, wp_781 S, wg_782 S, wp_782 S, wg_783 S, wp_783 S, wg_784 S, wp_784 S, wg_788 S, wp_788 S, wg_792 S, wp_792 S, wg_793 S, wp_793 S, wg_794 S, wp_794 S, wg_795 S, wp_795 S, wg_796 S, wp_796 S, wg_797 S, wp_797 S, wg_798 S, wp_798 S, wg_799 S, wp_799 S, wg_800 S, wp_800 S, wg_801 S, wp_801 S, wg_808 S, wp_808 S, wg_810 S, wp_810 S, mlF_o, M.2.1.1, M.2.1.2.1, M.2.1.2.2, m_lays S (M.ml _ _ _) O, mlF_ml, m_ans S M O, m_nte S M O, m_meant S (M.ml _ _ _), mlF_0, mlF_1, mlF_2, mlF_w, mlF_k, mlF_c]
      exact ⟨(_, _, _), rfl, trivial⟩
    | false =>
      rcases bitI_01 s r with c | c
      · simp (disch := omega) only [if_true, if_false, not_true_eq_false, not_false_eq_true, zoI_s, zoR_s, zoH_s, zoL_s, zbI_s, zbV_s, zbR_s, zbL_s, zif_dec, i32_0, ne_eq, i32_lt, i32_le, i32_eq, i32_add, i32_mul, i32_sub, i32_neg, zrz_0, zrz_1, zif_t, zif_f, zsF_s, zsF_k, zsF_a, zsC_s, zsC_a, zsC_i, zsW_s, zsW_a, Int.add_zero, Int.zero_add, true_and, false_and, and_false, Bool.false_eq_true, decide_true, decide_false, Bool.true_and, Bool.false_and, Bool.true_or, Bool.false_or, if_pos, if_neg, wv_72 S, wr_768 S, wr_769 S, wr_777 S, wr_785 S, wr_786 S, wr_787 S, wr_789 S, wr_790 S, wr_791 S, wr_802 S, wr_803 S, wr_804 S, wr_805 S, wr_806 S, wr_807 S, wr_809 S, wg_770 S, wp_770 S, wg_771 S, wp_771 S, wg_772 S, wp_772 S, wg_773 S, wp_773 S, wg_774 S, wp_774 S, wg_775 S, wp_775 S, wg_776 S, wp_776 S, wg_778 S, wp_778 S, wg_779 S, wp_779 S, wg_780 S, wp_780 S, wg_781 S, wp_781 S, wg_782 S, wp_782 S, wg_783 S, wp_783 S, wg_784 S, wp_784 S, wg_788 S, wp_788 S, wg_792 S, wp_792 S, wg_793 S, wp_793 S, wg_794 S, wp_794 S, wg_795 S, wp_795 S, wg_796 S, wp_796 S, wg_797 S, wp_797 S, wg_798 S, wp_798 S, wg_799 S, wp_799 S, wg_800 S, wp_800 S, wg_801 S, wp_801 S, wg_808 S, wp_808 S, wg_810 S, wp_810 S, mlF_o, M.2.1.1, M.2.1.2.1, M.2.1.2.2, m_lays S (M.ml _ _ _) O, mlF_ml, m_ans S M O, m_nte S M O, m_meant S (M.ml _ _ _), mlF_0, mlF_1, mlF_2, mlF_w, mlF_k, mlF_c, b_shr, c]
        exact ⟨(_, _, _), rfl, trivial⟩
      · by_cases c2 : nteS D r p q = -1
        · simp (disch := omega) only [if_true, if_false, not_true_eq_false, not_false_eq_true, zoI_s, zoR_s, zoH_s, zoL_s, zbI_s, zbV_s, zbR_s, zbL_s, zif_dec, i32_0, ne_eq, i32_lt, i32_le, i32_eq, i32_add, i32_mul, i32_sub, i32_neg, zrz_0, zrz_1, zif_t, zif_f, zsF_s, zsF_k, zsF_a, zsC_s, zsC_a, zsC_i, zsW_s, zsW_a, Int.add_zero, Int.zero_add, true_and, false_and, and_false, Bool.false_eq_true, decide_true, decide_false, Bool.true_and, Bool.false_and, Bool.true_or, Bool.false_or, if_pos, if_neg, wv_72 S, wr_768 S, wr_769 S, wr_777 S, wr_785 S, wr_786 S, wr_787 S, wr_789 S, wr_790 S, wr_791 S, wr_802 S, wr_803 S, wr_804 S, wr_805 S, wr_806 S, wr_807 S, wr_809 S, wg_770 S, wp_770 S, wg_771 S, wp_771 S, wg_772 S, wp_772 S, wg_773 S, wp_773 S, wg_774 S, wp_774 S, wg_775 S, wp_775 S, wg_776 S, wp_776 S, wg_778 S, wp_778 S, wg_779 S, wp_779 S, wg_780 S, wp_780 S, wg_781 S, wp_781 S, wg_782 S, wp_782 S, wg_783 S, wp_783 S, wg_784 S, wp_784 S, wg_788 S, wp_788 S, wg_792 S, wp_792 S, wg_793 S, wp_793 S, wg_794 S, wp_794 S, wg_795 S, wp_795 S, wg_796 S, wp_796 S, wg_797 S, wp_797 S, wg_798 S, wp_798 S, wg_799 S, wp_799 S, wg_800 S, wp_800 S, wg_801 S, wp_801 S, wg_808 S, wp_808 S, wg_810 S, wp_810 S, mlF_o, M.2.1.1, M.2.1.2.1, M.2.1.2.2, m_lays S (M.ml _ _ _) O, mlF_ml, m_ans S M O, m_nte S M O, m_meant S (M.ml _ _ _), mlF_0, mlF_1, mlF_2, mlF_w, mlF_k, mlF_c, b_shr, c, c2]
          exact ⟨(_, _, _), rfl, trivial⟩
        · simp (disch := omega) only [if_true, if_false, not_true_eq_false, not_false_eq_true, zoI_s, zoR_s, zoH_s, zoL_s, zbI_s, zbV_s, zbR_s, zbL_s, zif_dec, i32_0, ne_eq, i32_lt, i32_le, i32_eq, i32_add, i32_mul, i32_sub, i32_neg, zrz_0, zrz_1, zif_t, zif_f, zsF_s, zsF_k, zsF_a, zsC_s, zsC_a, zsC_i, zsW_s, zsW_a, Int.add_zero, Int.zero_add, true_and, false_and, and_false, Bool.false_eq_true, decide_true, decide_false, Bool.true_and, Bool.false_and, Bool.true_or, Bool.false_or, if_pos, if_neg, wv_72 S, wr_768 S, wr_769 S, wr_777 S, wr_785 S, wr_786 S, wr_787 S, wr_789 S, wr_790 S, wr_791 S, wr_802 S, wr_803 S, wr_804 S, wr_805 S, wr_806 S, wr_807 S, wr_809 S, wg_770 S, wp_770 S, wg_771 S, wp_771 S, wg_772 S, wp_772 S, wg_773 S, wp_773 S, wg_774 S, wp_774 S, wg_775 S, wp_775 S, wg_776 S, wp_776 S, wg_778 S, wp_778 S, wg_779 S, wp_779 S, wg_780 S, wp_780 S, wg_781 S, wp_781 S, wg_782 S, wp_782 S, wg_783 S, wp_783 S, wg_784 S, wp_784 S, wg_788 S, wp_788 S, wg_792 S, wp_792 S, wg_793 S, wp_793 S, wg_794 S, wp_794 S, wg_795 S, wp_795 S, wg_796 S, wp_796 S, wg_797 S, wp_797 S, wg_798 S, wp_798 S, wg_799 S, wp_799 S, wg_800 S, wp_800 S, wg_801 S, wp_801 S, wg_808 S, wp_808 S, wg_810 S, wp_810 S, mlF_o, M.2.1.1, M.2.1.2.1, M.2.1.2.2, m_lays S (M.ml _ _ _) O, mlF_ml, m_ans S M O, m_nte S M O, m_meant S (M.ml _ _ _), mlF_0, mlF_1, mlF_2, mlF_w, mlF_k, mlF_c, b_shr, c, c2]
          exact ⟨(_, _, _), rfl, trivial⟩) false t trivial
  obtain ⟨t, L1, _⟩ := zandJ (fun q b (t : Int × Int × Int) => zr 263 4 [yR (some 72), yI (i32 s), yI (i32 p), yI (i32 (if b = true then 1 else 0)), yI (i32 q), none] [] (zw h (mlF F t.1 t.2.1 t.2.2) C)) (fun q => exB (fun r => decide (bitI s r = 1) && decide (nteS D r p q ≠ -1)) (D 0)) (fun _ => True) (D 2) (by omega) (fun q b t q0 q1 _ => by
    cases b with
    | false =>
      refine ⟨t, ?_, trivial⟩
      rw [e_Model_sounds_4, e_Model_sounds_4]
      by_cases c : D 2 ≤ q + 1
      · simp (disch := omega) only [if_true, if_false, not_true_eq_false, not_false_eq_true, zoI_s, zoR_s, zoH_s, zoL_s, zbI_s, zbV_s, zbR_s, zbL_s, zif_dec, i32_0, ne_eq, i32_lt, i32_le, i32_eq, i32_add, i32_mul, i32_sub, i32_neg, zrz_0, zrz_1, zif_t, zif_f, zsF_s, zsF_k, zsF_a, zsC_s, zsC_a, zsC_i, zsW_s, zsW_a, Int.add_zero, Int.zero_add, true_and, false_and, and_false, Bool.false_eq_true, decide_true, decide_false, Bool.true_and, Bool.false_and, Bool.true_or, Bool.false_or, if_pos, if_neg, wv_72 S, wr_768 S, wr_769 S, wr_777 S, wr_785 S, wr_786 S, wr_787 S, wr_789 S, wr_790 S, wr_791 S, wr_802 S, wr_803 S, wr_804 S, wr_805 S, wr_806 S, wr_807 S, wr_809 S, wg_770 S, wp_770 S, wg_771 S, wp_771 S, wg_772 S, wp_772 S, wg_773 S, wp_773 S, wg_774 S, wp_774 S, wg_775 S, wp_775 S, wg_776 S, wp_776 S, wg_778 S, wp_778 S, wg_779 S, wp_779 S, wg_780 S, wp_780 S, wg_781 S, wp_781 S, wg_782 S, wp_782 S, wg_783 S, wp_783 S, wg_784 S, wp_784 S, wg_788 S, wp_788 S, wg_792 S, wp_792 S, wg_793 S, wp_793 S, wg_794 S, wp_794 S, wg_795 S, wp_795 S, wg_796 S, wp_796 S, wg_797 S, wp_797 S, wg_798 S, wp_798 S, wg_799 S, wp_799 S, wg_800 S, wp_800 S, wg_801 S, wp_801 S, wg_808 S, wp_808 S, wg_810 S, wp_810 S, mlF_o, M.2.1.1, M.2.1.2.1, M.2.1.2.2, m_lays S (M.ml _ _ _) O, mlF_ml, m_ans S M O, m_nte S M O, m_meant S (M.ml _ _ _), mlF_0, mlF_1, mlF_2, mlF_w, mlF_k, mlF_c, zrz_0]
      · simp (disch := omega) only [if_true, if_false, not_true_eq_false, not_false_eq_true, zoI_s, zoR_s, zoH_s, zoL_s, zbI_s, zbV_s, zbR_s, zbL_s, zif_dec, i32_0, ne_eq, i32_lt, i32_le, i32_eq, i32_add, i32_mul, i32_sub, i32_neg, zrz_0, zrz_1, zif_t, zif_f, zsF_s, zsF_k, zsF_a, zsC_s, zsC_a, zsC_i, zsW_s, zsW_a, Int.add_zero, Int.zero_add, true_and, false_and, and_false, Bool.false_eq_true, decide_true, decide_false, Bool.true_and, Bool.false_and, Bool.true_or, Bool.false_or, if_pos, if_neg, wv_72 S, wr_768 S, wr_769 S, wr_777 S, wr_785 S, wr_786 S, wr_787 S, wr_789 S, wr_790 S, wr_791 S, wr_802 S, wr_803 S, wr_804 S, wr_805 S, wr_806 S, wr_807 S, wr_809 S, wg_770 S, wp_770 S, wg_771 S, wp_771 S, wg_772 S, wp_772 S, wg_773 S, wp_773 S, wg_774 S, wp_774 S, wg_775 S, wp_775 S, wg_776 S, wp_776 S, wg_778 S, wp_778 S, wg_779 S, wp_779 S, wg_780 S, wp_780 S, wg_781 S, wp_781 S, wg_782 S, wp_782 S, wg_783 S, wp_783 S, wg_784 S, wp_784 S, wg_788 S, wp_788 S, wg_792 S, wp_792 S, wg_793 S, wp_793 S, wg_794 S, wp_794 S, wg_795 S, wp_795 S, wg_796 S, wp_796 S, wg_797 S, wp_797 S, wg_798 S, wp_798 S, wg_799 S, wp_799 S, wg_800 S, wp_800 S, wg_801 S, wp_801 S, wg_808 S, wp_808 S, wg_810 S, wp_810 S, mlF_o, M.2.1.1, M.2.1.2.1, M.2.1.2.2, m_lays S (M.ml _ _ _) O, mlF_ml, m_ans S M O, m_nte S M O, m_meant S (M.ml _ _ _), mlF_0, mlF_1, mlF_2, mlF_w, mlF_k, mlF_c, zrz_0]
    | true =>
      obtain ⟨t', e, _⟩ := L2 q t q0 q1
      simp only [Bool.false_eq_true, if_false, Bool.false_or] at e
      rw [e_Model_sounds_4]
      simp (disch := omega) only [if_true, if_false, not_true_eq_false, not_false_eq_true, zoI_s, zoR_s, zoH_s, zoL_s, zbI_s, zbV_s, zbR_s, zbL_s, zif_dec, i32_0, ne_eq, i32_lt, i32_le, i32_eq, i32_add, i32_mul, i32_sub, i32_neg, zrz_0, zrz_1, zif_t, zif_f, zsF_s, zsF_k, zsF_a, zsC_s, zsC_a, zsC_i, zsW_s, zsW_a, Int.add_zero, Int.zero_add, true_and, false_and, and_false, Bool.false_eq_true, decide_true, decide_false, Bool.true_and, Bool.false_and, Bool.true_or, Bool.false_or, if_pos, if_neg, wv_72 S, wr_768 S, wr_769 S, wr_777 S, wr_785 S, wr_786 S, wr_787 S, wr_789 S, wr_790 S, wr_791 S, wr_802 S, wr_803 S, wr_804 S, wr_805 S, wr_806 S, wr_807 S, wr_809 S, wg_770 S, wp_770 S, wg_771 S, wp_771 S, wg_772 S, wp_772 S, wg_773 S, wp_773 S, wg_774 S, wp_774 S, wg_775 S, wp_775 S, wg_776 S, wp_776 S, wg_778 S, wp_778 S, wg_779 S, wp_779 S, wg_780 S, wp_780 S, wg_781 S, wp_781 S, wg_782 S, wp_782 S, wg_783 S, wp_783 S, wg_784 S, wp_784 S, wg_788 S, wp_788 S, wg_792 S, wp_792 S, wg_793 S, wp_793 S, wg_794 S, wp_794 S, wg_795 S, wp_795 S, wg_796 S, wp_796 S, wg_797 S, wp_797 S, wg_798 S, wp_798 S, wg_799 S, wp_799 S, wg_800 S, wp_800 S, wg_801 S, wp_801 S, wg_808 S, wp_808 S, wg_810 S, wp_810 S, mlF_o, M.2.1.1, M.2.1.2.1, M.2.1.2.2, m_lays S (M.ml _ _ _) O, mlF_ml, m_ans S M O, m_nte S M O, m_meant S (M.ml _ _ _), mlF_0, mlF_1, mlF_2, mlF_w, mlF_k, mlF_c, e]
      rw [e_Model_sounds_14]
      simp (disch := omega) only [if_true, if_false, not_true_eq_false, not_false_eq_true, zoI_s, zoR_s, zoH_s, zoL_s, zbI_s, zbV_s, zbR_s, zbL_s, zif_dec, i32_0, ne_eq, i32_lt, i32_le, i32_eq, i32_add, i32_mul, i32_sub, i32_neg, zrz_0, zrz_1, zif_t, zif_f, zsF_s, zsF_k, zsF_a, zsC_s, zsC_a, zsC_i, zsW_s, zsW_a, Int.add_zero, Int.zero_add, true_and, false_and, and_false, Bool.false_eq_true, decide_true, decide_false, Bool.true_and, Bool.false_and, Bool.true_or, Bool.false_or, if_pos, if_neg, wv_72 S, wr_768 S, wr_769 S, wr_777 S, wr_785 S, wr_786 S, wr_787 S, wr_789 S, wr_790 S, wr_791 S, wr_802 S, wr_803 S, wr_804 S, wr_805 S, wr_806 S, wr_807 S, wr_809 S, wg_770 S, wp_770 S, wg_771 S, wp_771 S, wg_772 S, wp_772 S, wg_773 S, wp_773 S, wg_774 S, wp_774 S, wg_775 S, wp_775 S, wg_776 S, wp_776 S, wg_778 S, wp_778 S, wg_779 S, wp_779 S, wg_780 S, wp_780 S, wg_781 S, wp_781 S, wg_782 S, wp_782 S, wg_783 S, wp_783 S, wg_784 S, wp_784 S, wg_788 S, wp_788 S, wg_792 S, wp_792 S, wg_793 S, wp_793 S, wg_794 S, wp_794 S, wg_795 S, wp_795 S, wg_796 S, wp_796 S, wg_797 S, wp_797 S, wg_798 S, wp_798 S, wg_799 S, wp_799 S, wg_800 S, wp_800 S, wg_801 S, wp_801 S, wg_808 S, wp_808 S, wg_810 S, wp_810 S, mlF_o, M.2.1.1, M.2.1.2.1, M.2.1.2.2, m_lays S (M.ml _ _ _) O, mlF_ml, m_ans S M O, m_nte S M O, m_meant S (M.ml _ _ _), mlF_0, mlF_1, mlF_2, mlF_w, mlF_k, mlF_c, d_Model_sounds_4_w5]
      exact ⟨(_, _, _), rfl, trivial⟩) true (w, u, v) trivial
  dsimp only at L1
  rw [if_pos rfl, Bool.true_and, show alB _ _ = sndB D p s from rfl] at L1
  refine ⟨t.1, t.2.1, t.2.2, ?_⟩
  rw [e_Model_sounds, L1, e_Model_sounds_4]
  simp (disch := omega) only [if_true, if_false, not_true_eq_false, not_false_eq_true, zoI_s, zoR_s, zoH_s, zoL_s, zbI_s, zbV_s, zbR_s, zbL_s, zif_dec, i32_0, ne_eq, i32_lt, i32_le, i32_eq, i32_add, i32_mul, i32_sub, i32_neg, zrz_0, zrz_1, zif_t, zif_f, zsF_s, zsF_k, zsF_a, zsC_s, zsC_a, zsC_i, zsW_s, zsW_a, Int.add_zero, Int.zero_add, true_and, false_and, and_false, Bool.false_eq_true, decide_true, decide_false, Bool.true_and, Bool.false_and, Bool.true_or, Bool.false_or, if_pos, if_neg, wv_72 S, wr_768 S, wr_769 S, wr_777 S, wr_785 S, wr_786 S, wr_787 S, wr_789 S, wr_790 S, wr_791 S, wr_802 S, wr_803 S, wr_804 S, wr_805 S, wr_806 S, wr_807 S, wr_809 S, wg_770 S, wp_770 S, wg_771 S, wp_771 S, wg_772 S, wp_772 S, wg_773 S, wp_773 S, wg_774 S, wp_774 S, wg_775 S, wp_775 S, wg_776 S, wp_776 S, wg_778 S, wp_778 S, wg_779 S, wp_779 S, wg_780 S, wp_780 S, wg_781 S, wp_781 S, wg_782 S, wp_782 S, wg_783 S, wp_783 S, wg_784 S, wp_784 S, wg_788 S, wp_788 S, wg_792 S, wp_792 S, wg_793 S, wp_793 S, wg_794 S, wp_794 S, wg_795 S, wp_795 S, wg_796 S, wp_796 S, wg_797 S, wp_797 S, wg_798 S, wp_798 S, wg_799 S, wp_799 S, wg_800 S, wp_800 S, wg_801 S, wp_801 S, wg_808 S, wp_808 S, wg_810 S, wp_810 S, mlF_o, M.2.1.1, M.2.1.2.1, M.2.1.2.2, m_lays S (M.ml _ _ _) O, mlF_ml, m_ans S M O, m_nte S M O, m_meant S (M.ml _ _ _), mlF_0, mlF_1, mlF_2, mlF_w, mlF_k, mlF_c, zrz_b]
theorem m_choirL (S : St h) (M : moV F C D) (O : dOK D) {d p b : Int} (p0 : 0 ≤ p) (p1 : p < D 1) (hb : inI b) : ∃ w u c, zr 264 14 [yR (some 72), yI (i32 d), yI (i32 p), yI (i32 b), yI (i32 (-1)), yI (i32 0)] [] (zw h F C) = some (zI (i32 (if choS D p = -1 then -1 else if b = 0 then bitsS (choS D p) else choS D p)), zw h (mlF F w u c) C) := by
  have b0 := O.1
  have q1 := pw_6 (n := D 0) (by omega)
  have q2 := pw_le (n := D 0) (by omega)
  unfold inI at hb
  obtain ⟨t, L1, _⟩ := zfoJ (fun s x (t : Int × Int × Int) => zr 264 14 [yR (some 72), yI (i32 d), yI (i32 p), yI (i32 b), yI (i32 x), yI (i32 s)] [] (zw h (mlF F t.1 t.2.1 t.2.2) C)) (choF D p) (fun k s _ => -1 ≤ s ∧ s < k) 0 (2 ^ (D 0).toNat) (by omega) (fun s x t s0 s1 hi => by
    obtain ⟨w', u', v', e⟩ := m_sounds S M O p0 p1 s0 (by omega) t.1 t.2.1 t.2.2
    have g3 := bitsS_rng s
    have g4 := bitsS_rng x
    by_cases cb : x = -1
    · refine ⟨(w', u', v'), ?_, choF_I s x s0 s1 hi⟩
      rw [e_Model_choir_14]
      unfold choF
      cases cs : sndB D p s with
      | true =>
        rw [if_pos ⟨Or.inl cb, rfl⟩]
        rw [cs] at e
        simp (disch := omega) only [if_true, if_false, not_true_eq_false, not_false_eq_true, zoI_s, zoR_s, zoH_s, zoL_s, zbI_s, zbV_s, zbR_s, zbL_s, zif_dec, i32_0, ne_eq, i32_lt, i32_le, i32_eq, i32_add, i32_mul, i32_sub, i32_neg, zrz_0, zrz_1, zif_t, zif_f, zsF_s, zsF_k, zsF_a, zsC_s, zsC_a, zsC_i, zsW_s, zsW_a, Int.add_zero, Int.zero_add, true_and, false_and, and_false, Bool.false_eq_true, decide_true, decide_false, Bool.true_and, Bool.false_and, Bool.true_or, Bool.false_or, if_pos, if_neg, wv_72 S, wr_768 S, wr_769 S, wr_777 S, wr_785 S, wr_786 S, wr_787 S, wr_789 S, wr_790 S, wr_791 S, wr_802 S, wr_803 S, wr_804 S, wr_805 S, wr_806 S, wr_807 S, wr_809 S, wg_770 S, wp_770 S, wg_771 S, wp_771 S, wg_772 S, wp_772 S, wg_773 S, wp_773 S, wg_774 S, wp_774 S, wg_775 S, wp_775 S, wg_776 S, wp_776 S, wg_778 S, wp_778 S, wg_779 S, wp_779 S, wg_780 S, wp_780 S, wg_781 S, wp_781 S, wg_782 S, wp_782 S, wg_783 S, wp_783 S, wg_784 S, wp_784 S, wg_788 S, wp_788 S, wg_792 S, wp_792 S, wg_793 S, wp_793 S, wg_794 S, wp_794 S, wg_795 S, wp_795 S, wg_796 S, wp_796 S, wg_797 S, wp_797 S, wg_798 S, wp_798 S, wg_799 S, wp_799 S, wg_800 S, wp_800 S, wg_801 S, wp_801 S, wg_808 S, wp_808 S, wg_810 S, wp_810 S, mlF_o, M.2.1.1, M.2.1.2.1, M.2.1.2.2, m_lays S (M.ml _ _ _) O, mlF_ml, m_ans S M O, m_nte S M O, m_meant S (M.ml _ _ _), mlF_0, mlF_1, mlF_2, mlF_w, mlF_k, mlF_c, b_pow, e]
      | false =>
        rw [if_neg (fun z => by cases z.2)]
        rw [cs] at e
        simp (disch := omega) only [if_true, if_false, not_true_eq_false, not_false_eq_true, zoI_s, zoR_s, zoH_s, zoL_s, zbI_s, zbV_s, zbR_s, zbL_s, zif_dec, i32_0, ne_eq, i32_lt, i32_le, i32_eq, i32_add, i32_mul, i32_sub, i32_neg, zrz_0, zrz_1, zif_t, zif_f, zsF_s, zsF_k, zsF_a, zsC_s, zsC_a, zsC_i, zsW_s, zsW_a, Int.add_zero, Int.zero_add, true_and, false_and, and_false, Bool.false_eq_true, decide_true, decide_false, Bool.true_and, Bool.false_and, Bool.true_or, Bool.false_or, if_pos, if_neg, wv_72 S, wr_768 S, wr_769 S, wr_777 S, wr_785 S, wr_786 S, wr_787 S, wr_789 S, wr_790 S, wr_791 S, wr_802 S, wr_803 S, wr_804 S, wr_805 S, wr_806 S, wr_807 S, wr_809 S, wg_770 S, wp_770 S, wg_771 S, wp_771 S, wg_772 S, wp_772 S, wg_773 S, wp_773 S, wg_774 S, wp_774 S, wg_775 S, wp_775 S, wg_776 S, wp_776 S, wg_778 S, wp_778 S, wg_779 S, wp_779 S, wg_780 S, wp_780 S, wg_781 S, wp_781 S, wg_782 S, wp_782 S, wg_783 S, wp_783 S, wg_784 S, wp_784 S, wg_788 S, wp_788 S, wg_792 S, wp_792 S, wg_793 S, wp_793 S, wg_794 S, wp_794 S, wg_795 S, wp_795 S, wg_796 S, wp_796 S, wg_797 S, wp_797 S, wg_798 S, wp_798 S, wg_799 S, wp_799 S, wg_800 S, wp_800 S, wg_801 S, wp_801 S, wg_808 S, wp_808 S, wg_810 S, wp_810 S, mlF_o, M.2.1.1, M.2.1.2.1, M.2.1.2.2, m_lays S (M.ml _ _ _) O, mlF_ml, m_ans S M O, m_nte S M O, m_meant S (M.ml _ _ _), mlF_0, mlF_1, mlF_2, mlF_w, mlF_k, mlF_c, b_pow, e]
    · by_cases cc : bitsS s < bitsS x
      · refine ⟨(w', u', v'), ?_, choF_I s x s0 s1 hi⟩
        rw [e_Model_choir_14]
        unfold choF
        cases cs : sndB D p s with
        | true =>
          rw [if_pos ⟨Or.inr cc, rfl⟩]
          rw [cs] at e
          simp (disch := omega) only [if_true, if_false, not_true_eq_false, not_false_eq_true, zoI_s, zoR_s, zoH_s, zoL_s, zbI_s, zbV_s, zbR_s, zbL_s, zif_dec, i32_0, ne_eq, i32_lt, i32_le, i32_eq, i32_add, i32_mul, i32_sub, i32_neg, zrz_0, zrz_1, zif_t, zif_f, zsF_s, zsF_k, zsF_a, zsC_s, zsC_a, zsC_i, zsW_s, zsW_a, Int.add_zero, Int.zero_add, true_and, false_and, and_false, Bool.false_eq_true, decide_true, decide_false, Bool.true_and, Bool.false_and, Bool.true_or, Bool.false_or, if_pos, if_neg, wv_72 S, wr_768 S, wr_769 S, wr_777 S, wr_785 S, wr_786 S, wr_787 S, wr_789 S, wr_790 S, wr_791 S, wr_802 S, wr_803 S, wr_804 S, wr_805 S, wr_806 S, wr_807 S, wr_809 S, wg_770 S, wp_770 S, wg_771 S, wp_771 S, wg_772 S, wp_772 S, wg_773 S, wp_773 S, wg_774 S, wp_774 S, wg_775 S, wp_775 S, wg_776 S, wp_776 S, wg_778 S, wp_778 S, wg_779 S, wp_779 S, wg_780 S, wp_780 S, wg_781 S, wp_781 S, wg_782 S, wp_782 S, wg_783 S, wp_783 S, wg_784 S, wp_784 S, wg_788 S, wp_788 S, wg_792 S, wp_792 S, wg_793 S, wp_793 S, wg_794 S, wp_794 S, wg_795 S, wp_795 S, wg_796 S, wp_796 S, wg_797 S, wp_797 S, wg_798 S, wp_798 S, wg_799 S, wp_799 S, wg_800 S, wp_800 S, wg_801 S, wp_801 S, wg_808 S, wp_808 S, wg_810 S, wp_810 S, mlF_o, M.2.1.1, M.2.1.2.1, M.2.1.2.2, m_lays S (M.ml _ _ _) O, mlF_ml, m_ans S M O, m_nte S M O, m_meant S (M.ml _ _ _), mlF_0, mlF_1, mlF_2, mlF_w, mlF_k, mlF_c, b_pow, e, m_bitsOf]
        | false =>
          rw [if_neg (fun z => by cases z.2)]
          rw [cs] at e
          simp (disch := omega) only [if_true, if_false, not_true_eq_false, not_false_eq_true, zoI_s, zoR_s, zoH_s, zoL_s, zbI_s, zbV_s, zbR_s, zbL_s, zif_dec, i32_0, ne_eq, i32_lt, i32_le, i32_eq, i32_add, i32_mul, i32_sub, i32_neg, zrz_0, zrz_1, zif_t, zif_f, zsF_s, zsF_k, zsF_a, zsC_s, zsC_a, zsC_i, zsW_s, zsW_a, Int.add_zero, Int.zero_add, true_and, false_and, and_false, Bool.false_eq_true, decide_true, decide_false, Bool.true_and, Bool.false_and, Bool.true_or, Bool.false_or, if_pos, if_neg, wv_72 S, wr_768 S, wr_769 S, wr_777 S, wr_785 S, wr_786 S, wr_787 S, wr_789 S, wr_790 S, wr_791 S, wr_802 S, wr_803 S, wr_804 S, wr_805 S, wr_806 S, wr_807 S, wr_809 S, wg_770 S, wp_770 S, wg_771 S, wp_771 S, wg_772 S, wp_772 S, wg_773 S, wp_773 S, wg_774 S, wp_774 S, wg_775 S, wp_775 S, wg_776 S, wp_776 S, wg_778 S, wp_778 S, wg_779 S, wp_779 S, wg_780 S, wp_780 S, wg_781 S, wp_781 S, wg_782 S, wp_782 S, wg_783 S, wp_783 S, wg_784 S, wp_784 S, wg_788 S, wp_788 S, wg_792 S, wp_792 S, wg_793 S, wp_793 S, wg_794 S, wp_794 S, wg_795 S, wp_795 S, wg_796 S, wp_796 S, wg_797 S, wp_797 S, wg_798 S, wp_798 S, wg_799 S, wp_799 S, wg_800 S, wp_800 S, wg_801 S, wp_801 S, wg_808 S, wp_808 S, wg_810 S, wp_810 S, mlF_o, M.2.1.1, M.2.1.2.1, M.2.1.2.2, m_lays S (M.ml _ _ _) O, mlF_ml, m_ans S M O, m_nte S M O, m_meant S (M.ml _ _ _), mlF_0, mlF_1, mlF_2, mlF_w, mlF_k, mlF_c, b_pow, e, m_bitsOf]
      · refine ⟨t, ?_, choF_I s x s0 s1 hi⟩
        rw [e_Model_choir_14]
        unfold choF
        rw [if_neg (fun z => z.1.elim cb cc)]
        simp (disch := omega) only [if_true, if_false, not_true_eq_false, not_false_eq_true, zoI_s, zoR_s, zoH_s, zoL_s, zbI_s, zbV_s, zbR_s, zbL_s, zif_dec, i32_0, ne_eq, i32_lt, i32_le, i32_eq, i32_add, i32_mul, i32_sub, i32_neg, zrz_0, zrz_1, zif_t, zif_f, zsF_s, zsF_k, zsF_a, zsC_s, zsC_a, zsC_i, zsW_s, zsW_a, Int.add_zero, Int.zero_add, true_and, false_and, and_false, Bool.false_eq_true, decide_true, decide_false, Bool.true_and, Bool.false_and, Bool.true_or, Bool.false_or, if_pos, if_neg, wv_72 S, wr_768 S, wr_769 S, wr_777 S, wr_785 S, wr_786 S, wr_787 S, wr_789 S, wr_790 S, wr_791 S, wr_802 S, wr_803 S, wr_804 S, wr_805 S, wr_806 S, wr_807 S, wr_809 S, wg_770 S, wp_770 S, wg_771 S, wp_771 S, wg_772 S, wp_772 S, wg_773 S, wp_773 S, wg_774 S, wp_774 S, wg_775 S, wp_775 S, wg_776 S, wp_776 S, wg_778 S, wp_778 S, wg_779 S, wp_779 S, wg_780 S, wp_780 S, wg_781 S, wp_781 S, wg_782 S, wp_782 S, wg_783 S, wp_783 S, wg_784 S, wp_784 S, wg_788 S, wp_788 S, wg_792 S, wp_792 S, wg_793 S, wp_793 S, wg_794 S, wp_794 S, wg_795 S, wp_795 S, wg_796 S, wp_796 S, wg_797 S, wp_797 S, wg_798 S, wp_798 S, wg_799 S, wp_799 S, wg_800 S, wp_800 S, wg_801 S, wp_801 S, wg_808 S, wp_808 S, wg_810 S, wp_810 S, mlF_o, M.2.1.1, M.2.1.2.1, M.2.1.2.2, m_lays S (M.ml _ _ _) O, mlF_ml, m_ans S M O, m_nte S M O, m_meant S (M.ml _ _ _), mlF_0, mlF_1, mlF_2, mlF_w, mlF_k, mlF_c, b_pow, m_bitsOf]) (-1) (F 782 72, F 783 72, F 784 72) (by omega)
  dsimp only at L1
  rw [mlF_id, show (2 : Int) ^ (D 0).toNat - 0 = 2 ^ (D 0).toNat by omega, show foldF (choF D p) 0 (2 ^ (D 0).toNat : Int).toNat (-1) = choS D p from rfl] at L1
  have g := choS_rng O p
  refine ⟨t.1, t.2.1, t.2.2, ?_⟩
  rw [L1, e_Model_choir_14]
  by_cases c1 : choS D p = -1
  · simp (disch := omega) only [if_true, if_false, not_true_eq_false, not_false_eq_true, zoI_s, zoR_s, zoH_s, zoL_s, zbI_s, zbV_s, zbR_s, zbL_s, zif_dec, i32_0, ne_eq, i32_lt, i32_le, i32_eq, i32_add, i32_mul, i32_sub, i32_neg, zrz_0, zrz_1, zif_t, zif_f, zsF_s, zsF_k, zsF_a, zsC_s, zsC_a, zsC_i, zsW_s, zsW_a, Int.add_zero, Int.zero_add, true_and, false_and, and_false, Bool.false_eq_true, decide_true, decide_false, Bool.true_and, Bool.false_and, Bool.true_or, Bool.false_or, if_pos, if_neg, wv_72 S, wr_768 S, wr_769 S, wr_777 S, wr_785 S, wr_786 S, wr_787 S, wr_789 S, wr_790 S, wr_791 S, wr_802 S, wr_803 S, wr_804 S, wr_805 S, wr_806 S, wr_807 S, wr_809 S, wg_770 S, wp_770 S, wg_771 S, wp_771 S, wg_772 S, wp_772 S, wg_773 S, wp_773 S, wg_774 S, wp_774 S, wg_775 S, wp_775 S, wg_776 S, wp_776 S, wg_778 S, wp_778 S, wg_779 S, wp_779 S, wg_780 S, wp_780 S, wg_781 S, wp_781 S, wg_782 S, wp_782 S, wg_783 S, wp_783 S, wg_784 S, wp_784 S, wg_788 S, wp_788 S, wg_792 S, wp_792 S, wg_793 S, wp_793 S, wg_794 S, wp_794 S, wg_795 S, wp_795 S, wg_796 S, wp_796 S, wg_797 S, wp_797 S, wg_798 S, wp_798 S, wg_799 S, wp_799 S, wg_800 S, wp_800 S, wg_801 S, wp_801 S, wg_808 S, wp_808 S, wg_810 S, wp_810 S, mlF_o, M.2.1.1, M.2.1.2.1, M.2.1.2.2, m_lays S (M.ml _ _ _) O, mlF_ml, m_ans S M O, m_nte S M O, m_meant S (M.ml _ _ _), mlF_0, mlF_1, mlF_2, mlF_w, mlF_k, mlF_c, b_pow, c1]
  · by_cases c2 : b = 0
    · simp (disch := omega) only [if_true, if_false, not_true_eq_false, not_false_eq_true, zoI_s, zoR_s, zoH_s, zoL_s, zbI_s, zbV_s, zbR_s, zbL_s, zif_dec, i32_0, ne_eq, i32_lt, i32_le, i32_eq, i32_add, i32_mul, i32_sub, i32_neg, zrz_0, zrz_1, zif_t, zif_f, zsF_s, zsF_k, zsF_a, zsC_s, zsC_a, zsC_i, zsW_s, zsW_a, Int.add_zero, Int.zero_add, true_and, false_and, and_false, Bool.false_eq_true, decide_true, decide_false, Bool.true_and, Bool.false_and, Bool.true_or, Bool.false_or, if_pos, if_neg, wv_72 S, wr_768 S, wr_769 S, wr_777 S, wr_785 S, wr_786 S, wr_787 S, wr_789 S, wr_790 S, wr_791 S, wr_802 S, wr_803 S, wr_804 S, wr_805 S, wr_806 S, wr_807 S, wr_809 S, wg_770 S, wp_770 S, wg_771 S, wp_771 S, wg_772 S, wp_772 S, wg_773 S, wp_773 S, wg_774 S, wp_774 S, wg_775 S, wp_775 S, wg_776 S, wp_776 S, wg_778 S, wp_778 S, wg_779 S, wp_779 S, wg_780 S, wp_780 S, wg_781 S, wp_781 S, wg_782 S, wp_782 S, wg_783 S, wp_783 S, wg_784 S, wp_784 S, wg_788 S, wp_788 S, wg_792 S, wp_792 S, wg_793 S, wp_793 S, wg_794 S, wp_794 S, wg_795 S, wp_795 S, wg_796 S, wp_796 S, wg_797 S, wp_797 S, wg_798 S, wp_798 S, wg_799 S, wp_799 S, wg_800 S, wp_800 S, wg_801 S, wp_801 S, wg_808 S, wp_808 S, wg_810 S, wp_810 S, mlF_o, M.2.1.1, M.2.1.2.1, M.2.1.2.2, m_lays S (M.ml _ _ _) O, mlF_ml, m_ans S M O, m_nte S M O, m_meant S (M.ml _ _ _), mlF_0, mlF_1, mlF_2, mlF_w, mlF_k, mlF_c, b_pow, m_bitsOf]
    · simp (disch := omega) only [if_true, if_false, not_true_eq_false, not_false_eq_true, zoI_s, zoR_s, zoH_s, zoL_s, zbI_s, zbV_s, zbR_s, zbL_s, zif_dec, i32_0, ne_eq, i32_lt, i32_le, i32_eq, i32_add, i32_mul, i32_sub, i32_neg, zrz_0, zrz_1, zif_t, zif_f, zsF_s, zsF_k, zsF_a, zsC_s, zsC_a, zsC_i, zsW_s, zsW_a, Int.add_zero, Int.zero_add, true_and, false_and, and_false, Bool.false_eq_true, decide_true, decide_false, Bool.true_and, Bool.false_and, Bool.true_or, Bool.false_or, if_pos, if_neg, wv_72 S, wr_768 S, wr_769 S, wr_777 S, wr_785 S, wr_786 S, wr_787 S, wr_789 S, wr_790 S, wr_791 S, wr_802 S, wr_803 S, wr_804 S, wr_805 S, wr_806 S, wr_807 S, wr_809 S, wg_770 S, wp_770 S, wg_771 S, wp_771 S, wg_772 S, wp_772 S, wg_773 S, wp_773 S, wg_774 S, wp_774 S, wg_775 S, wp_775 S, wg_776 S, wp_776 S, wg_778 S, wp_778 S, wg_779 S, wp_779 S, wg_780 S, wp_780 S, wg_781 S, wp_781 S, wg_782 S, wp_782 S, wg_783 S, wp_783 S, wg_784 S, wp_784 S, wg_788 S, wp_788 S, wg_792 S, wp_792 S, wg_793 S, wp_793 S, wg_794 S, wp_794 S, wg_795 S, wp_795 S, wg_796 S, wp_796 S, wg_797 S, wp_797 S, wg_798 S, wp_798 S, wg_799 S, wp_799 S, wg_800 S, wp_800 S, wg_801 S, wp_801 S, wg_808 S, wp_808 S, wg_810 S, wp_810 S, mlF_o, M.2.1.1, M.2.1.2.1, M.2.1.2.2, m_lays S (M.ml _ _ _) O, mlF_ml, m_ans S M O, m_nte S M O, m_meant S (M.ml _ _ _), mlF_0, mlF_1, mlF_2, mlF_w, mlF_k, mlF_c, b_pow, m_bitsOf]
end A12
theorem c_choir {d p b : Int} (hd : inI d) (hp : inI p) (hb : inI b) : ans1 175 0 [zI (i32 d), zI (i32 p), zI (i32 b)] (fun A => zI (i32 (choirQ A d p b))) := by
  intro h F C Q
  have S := Q.1
  unfold inI at hd hp hb
  unfold choirQ
  by_cases c1 : 0 ≤ d ∧ d < C 73 0
  · have H := Q.dS c1.1 c1.2
    have V := Q.dV c1.1 c1.2
    have O := Q.dO c1.1 c1.2
    have ha : 8 + 13 * d.toNat ≤ 28 := by have := Q.2.2.1.1; omega
    by_cases g1 : 0 ≤ p ∧ p < (dOf (C 73) d) 1
    · skip
      obtain ⟨f, e⟩ := c_leastChoir (F := F) (C := C) S H V O ha g1.1 g1.2
      have g := choS_rng O p
      refine ⟨F, _, ?_, tq.rfl.sW (a := 71) (f := f) (by omega) (by omega)⟩
      by_cases c2 : choS (dOf (C 73) d) p = -1
      · simp (disch := omega) only [if_true, if_false, not_true_eq_false, not_false_eq_true, zoI_s, zoR_s, zoH_s, zoL_s, zbI_s, zbV_s, zbR_s, zbL_s, zif_dec, i32_0, ne_eq, i32_lt, i32_le, i32_eq, i32_add, i32_mul, i32_sub, i32_neg, zrz_0, zrz_1, zif_t, zif_f, zsF_s, zsF_k, zsF_a, zsC_s, zsC_a, zsC_i, zsW_s, zsW_a, Int.add_zero, Int.zero_add, true_and, false_and, and_false, Bool.false_eq_true, decide_true, decide_false, Bool.true_and, Bool.false_and, Bool.true_or, Bool.false_or, if_pos, if_neg, wv_0 S, wr_704 S, wr_705 S, wr_706 S, wr_707 S, wr_708 S, wr_709 S, wr_710 S, wr_711 S, wv_68 S, wr_384 S, wr_385 S, wr_386 S, tv_1 S, dv H, dg_128 H, dp_128 H, dg_129 H, dp_129 H, dg_130 H, dp_130 H, dg_131 H, dp_131 H, dr_132 H, da_132 H, dr_133 H, da_133 H, dr_134 H, da_134 H, dr_135 H, da_135 H, dr_136 H, da_136 H, dr_137 H, da_137 H, c_dAt Q, Option.isNone_some, Option.isSome_some, c_hasReed H V O, c_hasPlayer H V O, c_hasQuestion H V O, c_hasAll H V O, c_isAnswer, c_within, ib_0, e_Main_choir, e, c_bitCount, c2]
      · by_cases c3 : b = 0
        · simp (disch := omega) only [if_true, if_false, not_true_eq_false, not_false_eq_true, zoI_s, zoR_s, zoH_s, zoL_s, zbI_s, zbV_s, zbR_s, zbL_s, zif_dec, i32_0, ne_eq, i32_lt, i32_le, i32_eq, i32_add, i32_mul, i32_sub, i32_neg, zrz_0, zrz_1, zif_t, zif_f, zsF_s, zsF_k, zsF_a, zsC_s, zsC_a, zsC_i, zsW_s, zsW_a, Int.add_zero, Int.zero_add, true_and, false_and, and_false, Bool.false_eq_true, decide_true, decide_false, Bool.true_and, Bool.false_and, Bool.true_or, Bool.false_or, if_pos, if_neg, wv_0 S, wr_704 S, wr_705 S, wr_706 S, wr_707 S, wr_708 S, wr_709 S, wr_710 S, wr_711 S, wv_68 S, wr_384 S, wr_385 S, wr_386 S, tv_1 S, dv H, dg_128 H, dp_128 H, dg_129 H, dp_129 H, dg_130 H, dp_130 H, dg_131 H, dp_131 H, dr_132 H, da_132 H, dr_133 H, da_133 H, dr_134 H, da_134 H, dr_135 H, da_135 H, dr_136 H, da_136 H, dr_137 H, da_137 H, c_dAt Q, Option.isNone_some, Option.isSome_some, c_hasReed H V O, c_hasPlayer H V O, c_hasQuestion H V O, c_hasAll H V O, c_isAnswer, c_within, ib_0, e_Main_choir, e, c_bitCount]
        · simp (disch := omega) only [if_true, if_false, not_true_eq_false, not_false_eq_true, zoI_s, zoR_s, zoH_s, zoL_s, zbI_s, zbV_s, zbR_s, zbL_s, zif_dec, i32_0, ne_eq, i32_lt, i32_le, i32_eq, i32_add, i32_mul, i32_sub, i32_neg, zrz_0, zrz_1, zif_t, zif_f, zsF_s, zsF_k, zsF_a, zsC_s, zsC_a, zsC_i, zsW_s, zsW_a, Int.add_zero, Int.zero_add, true_and, false_and, and_false, Bool.false_eq_true, decide_true, decide_false, Bool.true_and, Bool.false_and, Bool.true_or, Bool.false_or, if_pos, if_neg, wv_0 S, wr_704 S, wr_705 S, wr_706 S, wr_707 S, wr_708 S, wr_709 S, wr_710 S, wr_711 S, wv_68 S, wr_384 S, wr_385 S, wr_386 S, tv_1 S, dv H, dg_128 H, dp_128 H, dg_129 H, dp_129 H, dg_130 H, dp_130 H, dg_131 H, dp_131 H, dr_132 H, da_132 H, dr_133 H, da_133 H, dr_134 H, da_134 H, dr_135 H, da_135 H, dr_136 H, da_136 H, dr_137 H, da_137 H, c_dAt Q, Option.isNone_some, Option.isSome_some, c_hasReed H V O, c_hasPlayer H V O, c_hasQuestion H V O, c_hasAll H V O, c_isAnswer, c_within, ib_0, e_Main_choir, e, c_bitCount]
    · refine ⟨_, C, ?_, tq.rfl⟩
      simp (disch := omega) only [if_true, if_false, not_true_eq_false, not_false_eq_true, zoI_s, zoR_s, zoH_s, zoL_s, zbI_s, zbV_s, zbR_s, zbL_s, zif_dec, i32_0, ne_eq, i32_lt, i32_le, i32_eq, i32_add, i32_mul, i32_sub, i32_neg, zrz_0, zrz_1, zif_t, zif_f, zsF_s, zsF_k, zsF_a, zsC_s, zsC_a, zsC_i, zsW_s, zsW_a, Int.add_zero, Int.zero_add, true_and, false_and, and_false, Bool.false_eq_true, decide_true, decide_false, Bool.true_and, Bool.false_and, Bool.true_or, Bool.false_or, if_pos, if_neg, wv_0 S, wr_704 S, wr_705 S, wr_706 S, wr_707 S, wr_708 S, wr_709 S, wr_710 S, wr_711 S, wv_68 S, wr_384 S, wr_385 S, wr_386 S, tv_1 S, dv H, dg_128 H, dp_128 H, dg_129 H, dp_129 H, dg_130 H, dp_130 H, dg_131 H, dp_131 H, dr_132 H, da_132 H, dr_133 H, da_133 H, dr_134 H, da_134 H, dr_135 H, da_135 H, dr_136 H, da_136 H, dr_137 H, da_137 H, c_dAt Q, Option.isNone_some, Option.isSome_some, c_hasReed H V O, c_hasPlayer H V O, c_hasQuestion H V O, c_hasAll H V O, c_isAnswer, c_within, ib_0, e_Main_choir]
      all_goals (split <;> rfl)
  · refine ⟨_, C, ?_, tq.rfl⟩
    simp (disch := omega) only [if_true, if_false, not_true_eq_false, not_false_eq_true, zoI_s, zoR_s, zoH_s, zoL_s, zbI_s, zbV_s, zbR_s, zbL_s, zif_dec, i32_0, ne_eq, i32_lt, i32_le, i32_eq, i32_add, i32_mul, i32_sub, i32_neg, zrz_0, zrz_1, zif_t, zif_f, zsF_s, zsF_k, zsF_a, zsC_s, zsC_a, zsC_i, zsW_s, zsW_a, Int.add_zero, Int.zero_add, true_and, false_and, and_false, Bool.false_eq_true, decide_true, decide_false, Bool.true_and, Bool.false_and, Bool.true_or, Bool.false_or, if_pos, if_neg, wv_0 S, wr_704 S, wr_705 S, wr_706 S, wr_707 S, wr_708 S, wr_709 S, wr_710 S, wr_711 S, tv_1 S, c_dAt0 Q, Option.isNone_none, Option.isSome_none, e_Main_choir]
theorem m_choir {d p b : Int} (hd : inI d) (hp : inI p) (hb : inI b) : ans1 264 72 [zI (i32 d), zI (i32 p), zI (i32 b)] (fun A => zI (i32 (choirQ A d p b))) := by
  intro h F C Q
  have S := Q.1
  unfold inI at hd hp hb
  unfold choirQ
  by_cases c1 : 0 ≤ d ∧ d < C 73 0
  · have M := miF_V Q c1.1 c1.2
    have O := Q.dO c1.1 c1.2
    by_cases g1 : 0 ≤ p ∧ p < (dOf (C 73) d) 1
    · skip
      obtain ⟨w, u, c, e⟩ := m_choirL S M O (d := d) (b := b) g1.1 g1.2 hb
      refine ⟨_, C, ?_, (miF_tq d).ml w u c⟩
      simp (disch := omega) only [if_true, if_false, not_true_eq_false, not_false_eq_true, zoI_s, zoR_s, zoH_s, zoL_s, zbI_s, zbV_s, zbR_s, zbL_s, zif_dec, i32_0, ne_eq, i32_lt, i32_le, i32_eq, i32_add, i32_mul, i32_sub, i32_neg, zrz_0, zrz_1, zif_t, zif_f, zsF_s, zsF_k, zsF_a, zsC_s, zsC_a, zsC_i, zsW_s, zsW_a, Int.add_zero, Int.zero_add, true_and, false_and, and_false, Bool.false_eq_true, decide_true, decide_false, Bool.true_and, Bool.false_and, Bool.true_or, Bool.false_or, if_pos, if_neg, wv_72 S, wr_768 S, wr_769 S, wr_777 S, wr_785 S, wr_786 S, wr_787 S, wr_789 S, wr_790 S, wr_791 S, wr_802 S, wr_803 S, wr_804 S, wr_805 S, wr_806 S, wr_807 S, wr_809 S, wg_770 S, wp_770 S, wg_771 S, wp_771 S, wg_772 S, wp_772 S, wg_773 S, wp_773 S, wg_774 S, wp_774 S, wg_775 S, wp_775 S, wg_776 S, wp_776 S, wg_778 S, wp_778 S, wg_779 S, wp_779 S, wg_780 S, wp_780 S, wg_781 S, wp_781 S, wg_782 S, wp_782 S, wg_783 S, wp_783 S, wg_784 S, wp_784 S, wg_788 S, wp_788 S, wg_792 S, wp_792 S, wg_793 S, wp_793 S, wg_794 S, wp_794 S, wg_795 S, wp_795 S, wg_796 S, wp_796 S, wg_797 S, wp_797 S, wg_798 S, wp_798 S, wg_799 S, wp_799 S, wg_800 S, wp_800 S, wg_801 S, wp_801 S, wg_808 S, wp_808 S, wg_810 S, wp_810 S, m_isD Q, m_isReed S M O, m_isPlayer S M O, m_isQuestion S M O, m_isIn, m_are3 Q, ib_0, e_Model_choir, e]
    · refine ⟨_, C, ?_, miF_tq d⟩
      simp (disch := omega) only [if_true, if_false, not_true_eq_false, not_false_eq_true, zoI_s, zoR_s, zoH_s, zoL_s, zbI_s, zbV_s, zbR_s, zbL_s, zif_dec, i32_0, ne_eq, i32_lt, i32_le, i32_eq, i32_add, i32_mul, i32_sub, i32_neg, zrz_0, zrz_1, zif_t, zif_f, zsF_s, zsF_k, zsF_a, zsC_s, zsC_a, zsC_i, zsW_s, zsW_a, Int.add_zero, Int.zero_add, true_and, false_and, and_false, Bool.false_eq_true, decide_true, decide_false, Bool.true_and, Bool.false_and, Bool.true_or, Bool.false_or, if_pos, if_neg, wv_72 S, wr_768 S, wr_769 S, wr_777 S, wr_785 S, wr_786 S, wr_787 S, wr_789 S, wr_790 S, wr_791 S, wr_802 S, wr_803 S, wr_804 S, wr_805 S, wr_806 S, wr_807 S, wr_809 S, wg_770 S, wp_770 S, wg_771 S, wp_771 S, wg_772 S, wp_772 S, wg_773 S, wp_773 S, wg_774 S, wp_774 S, wg_775 S, wp_775 S, wg_776 S, wp_776 S, wg_778 S, wp_778 S, wg_779 S, wp_779 S, wg_780 S, wp_780 S, wg_781 S, wp_781 S, wg_782 S, wp_782 S, wg_783 S, wp_783 S, wg_784 S, wp_784 S, wg_788 S, wp_788 S, wg_792 S, wp_792 S, wg_793 S, wp_793 S, wg_794 S, wp_794 S, wg_795 S, wp_795 S, wg_796 S, wp_796 S, wg_797 S, wp_797 S, wg_798 S, wp_798 S, wg_799 S, wp_799 S, wg_800 S, wp_800 S, wg_801 S, wp_801 S, wg_808 S, wp_808 S, wg_810 S, wp_810 S, m_isD Q, m_isReed S M O, m_isPlayer S M O, m_isQuestion S M O, m_isIn, m_are3 Q, ib_0, e_Model_choir]
      all_goals (split <;> rfl)
  · refine ⟨_, C, ?_, tq.rfl⟩
    simp (disch := omega) only [if_true, if_false, not_true_eq_false, not_false_eq_true, zoI_s, zoR_s, zoH_s, zoL_s, zbI_s, zbV_s, zbR_s, zbL_s, zif_dec, i32_0, ne_eq, i32_lt, i32_le, i32_eq, i32_add, i32_mul, i32_sub, i32_neg, zrz_0, zrz_1, zif_t, zif_f, zsF_s, zsF_k, zsF_a, zsC_s, zsC_a, zsC_i, zsW_s, zsW_a, Int.add_zero, Int.zero_add, true_and, false_and, and_false, Bool.false_eq_true, decide_true, decide_false, Bool.true_and, Bool.false_and, Bool.true_or, Bool.false_or, if_pos, if_neg, wv_72 S, wr_768 S, wr_769 S, wr_777 S, wr_785 S, wr_786 S, wr_787 S, wr_789 S, wr_790 S, wr_791 S, wr_802 S, wr_803 S, wr_804 S, wr_805 S, wr_806 S, wr_807 S, wr_809 S, wg_770 S, wp_770 S, wg_771 S, wp_771 S, wg_772 S, wp_772 S, wg_773 S, wp_773 S, wg_774 S, wp_774 S, wg_775 S, wp_775 S, wg_776 S, wp_776 S, wg_778 S, wp_778 S, wg_779 S, wp_779 S, wg_780 S, wp_780 S, wg_781 S, wp_781 S, wg_782 S, wp_782 S, wg_783 S, wp_783 S, wg_784 S, wp_784 S, wg_788 S, wp_788 S, wg_792 S, wp_792 S, wg_793 S, wp_793 S, wg_794 S, wp_794 S, wg_795 S, wp_795 S, wg_796 S, wp_796 S, wg_797 S, wp_797 S, wg_798 S, wp_798 S, wg_799 S, wp_799 S, wg_800 S, wp_800 S, wg_801 S, wp_801 S, wg_808 S, wp_808 S, wg_810 S, wp_810 S, m_isD0 Q, m_are30 Q, e_Model_choir]
