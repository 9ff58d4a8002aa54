/-! peace -/
def oppB (x y : Int) : Bool := decide (0 ≤ x ∧ x ≤ 1 ∧ y = 1 - x)
def apaB (D : Int → Int) (p a b : Int) : Bool := exB (fun q => oppB (ansS D a p q) (ansS D b p q)) (D 2)
def peaB (D : Int → Int) (p s : Int) : Bool := alB (fun a => alB (fun b => !(decide (bitI s a * bitI s b = 1) && apaB D p a b)) a) (D 0)
def peaF (D : Int → Int) (p : Int) (s b : Int) : Int := if bitsS b < bitsS s ∧ peaB D p s = true then s else b
def peaS (D : Int → Int) (p : Int) : Int := foldF (peaF D p) 0 (2 ^ (D 0).toNat : Int).toNat 0
def peaceQ (A : Int → Int) (d p b : Int) : Int := if (0 ≤ d ∧ d < A 0) ∧ (0 ≤ p ∧ p < (dOf A d) 1) then (if b = 0 then bitsS (peaS (dOf A d) p) else peaS (dOf A d) p) else -1
theorem oppB_sym (x y : Int) : oppB x y = oppB y x := by
  unfold oppB
  by_cases c : 0 ≤ x ∧ x ≤ 1 ∧ y = 1 - x
  · rw [decide_eq_true c, decide_eq_true (by omega)]
  · rw [decide_eq_false c, decide_eq_false (by omega)]
theorem oppB_irr (x : Int) : oppB x x = false := by unfold oppB; rw [decide_eq_false (by omega)]
theorem exB_congr {P Q : Int → Bool} {n : Int} (h : ∀ k, 0 ≤ k → k < n → P k = Q k) : exB P n = exB Q n := by
  cases c : exB Q n with
  | true =>
    obtain ⟨i, a, b, e⟩ := (exB_iff _ _).mp c
    exact (exB_iff _ _).mpr ⟨i, a, b, (h i a b).trans e⟩
  | false =>
    cases c2 : exB P n with
    | false => rfl
    | true =>
      obtain ⟨i, a, b, e⟩ := (exB_iff _ _).mp c2
      rw [(exB_iff _ _).mpr ⟨i, a, b, (h i a b).symm.trans e⟩] at c
      cases c
theorem exB_false {P : Int → Bool} {n : Int} : exB P n = false ↔ ∀ i, 0 ≤ i → i < n → P i = false := by
  constructor
  · intro h i a b
    cases c : P i with
    | false => rfl
    | true => rw [(exB_iff _ _).mpr ⟨i, a, b, c⟩] at h; cases h
  · intro h
    cases c : exB P n with
    | false => rfl
    | true =>
      obtain ⟨i, a, b, e⟩ := (exB_iff _ _).mp c
      rw [h i a b] at e
      cases e
theorem apaB_sym (D : Int → Int) (p a b : Int) : apaB D p a b = apaB D p b a := exB_congr (fun q _ _ => oppB_sym _ _)
theorem apaB_irr (D : Int → Int) (p a : Int) : apaB D p a a = false := exB_false.mpr (fun q _ _ => oppB_irr _)
theorem peaB_iff {D : Int → Int} {p s : Int} : peaB D p s = true ↔ ∀ a b, 0 ≤ a → a < D 0 → 0 ≤ b → b < D 0 → bitI s a = 1 → bitI s b = 1 → apaB D p a b = false := by
  unfold peaB
  rw [alB_iff]
  constructor
  · intro h
    have k : ∀ a b, 0 ≤ b → b < a → a < D 0 → bitI s a = 1 → bitI s b = 1 → apaB D p a b = false := by
      intro a b b0 b1 a1 ea eb
      have := (alB_iff _ _).mp (h a (by omega) a1) b b0 b1
      rw [ea, eb, decide_eq_true (show (1 : Int) * 1 = 1 from rfl), Bool.true_and] at this
      simpa using this
    intro a b a0 a1 b0 b1 ea eb
    rcases (show a < b ∨ a = b ∨ b < a by omega) with c | c | c
    · rw [apaB_sym]; exact k b a a0 c b1 eb ea
    · rw [c]; exact apaB_irr D p b
    · exact k a b b0 c a1 ea eb
  · intro h a a0 a1
    rw [alB_iff]
    intro b b0 b1
    by_cases c : bitI s a * bitI s b = 1
    · have ea : bitI s a = 1 := by
        rcases bitI_01 s a with e | e
        · rw [e, Int.zero_mul] at c; omega
        · exact e
      have eb : bitI s b = 1 := by
        rcases bitI_01 s b with e | e
        · rw [e, Int.mul_zero] at c; omega
        · exact e
      rw [h a b a0 a1 b0 (by omega) ea eb, Bool.and_false]; rfl
    · rw [decide_eq_false c, Bool.false_and]; rfl
section A13
variable {h : zHeap} {F : Nat → Nat → Int} {C : Nat → Int → Int} {a : Nat} {D : Int → Int}
theorem peaF_I {p n : Int} : ∀ k s, 0 ≤ k → k < n → (0 ≤ s ∧ s ≤ k ∧ s < n) → (0 ≤ peaF D p k s ∧ peaF D p k s ≤ k + 1 ∧ peaF D p k s < n) := by
  intro k s _ _ h2
  unfold peaF
  split <;> omega
theorem peaS_rng (O : dOK D) (p : Int) : 0 ≤ peaS D p ∧ peaS D p < 64 := by
  have b0 := O.1
  have p1 := pw_6 (n := D 0) (by omega)
  have p2 := pw_le (n := D 0) (by omega)
  have := foldI (peaF D p) (fun k s => 0 ≤ s ∧ s ≤ k ∧ s < 2 ^ (D 0).toNat) 0 (2 ^ (D 0).toNat) (by omega) peaF_I 0 (by omega)
  rw [show (2 : Int) ^ (D 0).toNat - 0 = 2 ^ (D 0).toNat by omega] at this
  have e : peaS D p = foldF (peaF D p) 0 (2 ^ (D 0).toNat : Int).toNat 0 := rfl
  rw [← e] at this
  omega
theorem c_foes (H : duS h a) (V : duV F C a D) (O : dOK D) {r p : Int} (r0 : 0 ≤ r) (r1 : r < D 0) (p0 : 0 ≤ p) (p1 : p < D 1) : ∃ s, zc 105 [zR (some 68), zR (some a), zI (i32 r), zI (i32 p)] (zw h F C) = some (zI (i32 s), zw h F C) ∧ setB s (fun t => decide (t < D 0) && apaB D p r t) := by
  have b0 := O.1
  have b2 := O.2.2.1
  have L2 := fun q s (q0 : 0 ≤ q) (q1 : q < D 2) (hs : setB s (fun t => decide (t < D 0) && exB (fun q => oppB (ansS D r p q) (ansS D t p q)) q)) => zinv (fun t s => zr 105 16 [yR (some 68), yR (some a), yI (i32 r), yI (i32 p), yI (i32 s), yI (i32 q), yI (i32 (ansS D r p q)), yI (i32 t)] [] (zw h F C)) (fun k s => setB s (fun t => decide (t < D 0) && exB (fun q => oppB (ansS D r p q) (ansS D t p q)) q || decide (t < k) && oppB (ansS D r p q) (ansS D t p q))) 0 (D 0) (by omega) (fun t s t0 t1 hi => by
    have j1 := hi.1
    have j2 := hi.2.1
    have g1 := ansS_rng O r p q
    have g2 := ansS_rng O t p q
    by_cases c : oppB (ansS D r p q) (ansS D t p q) = true
    · refine ⟨orI s t, ?_, (hi.or1 t0 (by omega)).cg (fun i _ _ => ?_)⟩
      · have c' := of_decide_eq_true c
        rw [e_Survey_foes_16]
        simp (disch := omega) only [if_true, if_false, not_true_eq_false, not_false_eq_true, zoI_s, zoR_s, zoH_s, zoL_s, zbI_s, zbV_s, zbR_s, zbL_s, zif_dec, i32_0, ne_eq, i32_lt, i32_le, i32_eq, i32_add, i32_mul, i32_sub, i32_neg, zrz_0, zrz_1, zif_t, zif_f, zsF_s, zsF_k, zsF_a, zsC_s, zsC_a, zsC_i, zsW_s, zsW_a, Int.add_zero, Int.zero_add, true_and, false_and, and_false, Bool.false_eq_true, decide_true, decide_false, Bool.true_and, Bool.false_and, Bool.true_or, Bool.false_or, if_pos, if_neg, dv H, dg_128 H, dp_128 H, dg_129 H, dp_129 H, dg_130 H, dp_130 H, dg_131 H, dp_131 H, dr_132 H, da_132 H, dr_133 H, da_133 H, dr_134 H, da_134 H, dr_135 H, da_135 H, dr_136 H, da_136 H, dr_137 H, da_137 H, V.1.1, V.1.2.1, V.1.2.2.1, V.1.2.2.2, c_answerOf H V O, c_noteOf H V O, c_meaning H V, c_areOpposed, b_or, ib_0]
      · by_cases ci : i = t
        · rw [ci, c, decide_eq_true (show t = t from rfl), decide_eq_true (show t < t + 1 by omega)]; simp
        · rw [decide_eq_false ci, Bool.or_false]
          by_cases c3 : i < t
          · rw [decide_eq_true c3, decide_eq_true (show i < t + 1 by omega)]
          · rw [decide_eq_false c3, decide_eq_false (show ¬ i < t + 1 by omega)]
    · refine ⟨s, ?_, hi.cg (fun i _ _ => ?_)⟩
      · have c' : ¬ (0 ≤ ansS D r p q ∧ ansS D r p q ≤ 1 ∧ ansS D t p q = 1 - ansS D r p q) := fun z => c (decide_eq_true z)
        rw [e_Survey_foes_16]
        simp (disch := omega) only [if_true, if_false, not_true_eq_false, not_false_eq_true, zoI_s, zoR_s, zoH_s, zoL_s, zbI_s, zbV_s, zbR_s, zbL_s, zif_dec, i32_0, ne_eq, i32_lt, i32_le, i32_eq, i32_add, i32_mul, i32_sub, i32_neg, zrz_0, zrz_1, zif_t, zif_f, zsF_s, zsF_k, zsF_a, zsC_s, zsC_a, zsC_i, zsW_s, zsW_a, Int.add_zero, Int.zero_add, true_and, false_and, and_false, Bool.false_eq_true, decide_true, decide_false, Bool.true_and, Bool.false_and, Bool.true_or, Bool.false_or, if_pos, if_neg, dv H, dg_128 H, dp_128 H, dg_129 H, dp_129 H, dg_130 H, dp_130 H, dg_131 H, dp_131 H, dr_132 H, da_132 H, dr_133 H, da_133 H, dr_134 H, da_134 H, dr_135 H, da_135 H, dr_136 H, da_136 H, dr_137 H, da_137 H, V.1.1, V.1.2.1, V.1.2.2.1, V.1.2.2.2, c_answerOf H V O, c_noteOf H V O, c_meaning H V, c_areOpposed, ib_0]
      · have c2 : oppB (ansS D r p q) (ansS D t p q) = false := by simpa using c
        by_cases ci : i = t
        · rw [ci, c2, Bool.and_false, Bool.and_false]
        · by_cases c3 : i < t
          · rw [decide_eq_true c3, decide_eq_true (show i < t + 1 by omega)]
          · rw [decide_eq_false c3, decide_eq_false (show ¬ i < t + 1 by omega)]) s (hs.cg (fun i i0 _ => by rw [decide_eq_false (show ¬ i < 0 by omega), Bool.false_and, Bool.or_false]))
  obtain ⟨s, L1, i1⟩ := zinv (fun q s => zr 105 4 [yR (some 68), yR (some a), yI (i32 r), yI (i32 p), yI (i32 s), yI (i32 q), none, none] [] (zw h F C)) (fun k s => setB s (fun t => decide (t < D 0) && exB (fun q => oppB (ansS D r p q) (ansS D t p q)) k)) 0 (D 2) (by omega) (fun q s q0 q1 hi => by
    obtain ⟨s', e, i⟩ := L2 q s q0 q1 hi
    refine ⟨s', ?_, i.cg (fun t _ _ => ?_)⟩
    · rw [e_Survey_foes_4]
      simp (disch := omega) only [if_true, if_false, not_true_eq_false, not_false_eq_true, zoI_s, zoR_s, zoH_s, zoL_s, zbI_s, zbV_s, zbR_s, zbL_s, zif_dec, i32_0, ne_eq, i32_lt, i32_le, i32_eq, i32_add, i32_mul, i32_sub, i32_neg, zrz_0, zrz_1, zif_t, zif_f, zsF_s, zsF_k, zsF_a, zsC_s, zsC_a, zsC_i, zsW_s, zsW_a, Int.add_zero, Int.zero_add, true_and, false_and, and_false, Bool.false_eq_true, decide_true, decide_false, Bool.true_and, Bool.false_and, Bool.true_or, Bool.false_or, if_pos, if_neg, dv H, dg_128 H, dp_128 H, dg_129 H, dp_129 H, dg_130 H, dp_130 H, dg_131 H, dp_131 H, dr_132 H, da_132 H, dr_133 H, da_133 H, dr_134 H, da_134 H, dr_135 H, da_135 H, dr_136 H, da_136 H, dr_137 H, da_137 H, V.1.1, V.1.2.1, V.1.2.2.1, V.1.2.2.2, c_answerOf H V O, c_noteOf H V O, c_meaning H V, e]
      rw [e_Survey_foes_16]
      simp (disch := omega) only [if_true, if_false, not_true_eq_false, not_false_eq_true, zoI_s, zoR_s, zoH_s, zoL_s, zbI_s, zbV_s, zbR_s, zbL_s, zif_dec, i32_0, ne_eq, i32_lt, i32_le, i32_eq, i32_add, i32_mul, i32_sub, i32_neg, zrz_0, zrz_1, zif_t, zif_f, zsF_s, zsF_k, zsF_a, zsC_s, zsC_a, zsC_i, zsW_s, zsW_a, Int.add_zero, Int.zero_add, true_and, false_and, and_false, Bool.false_eq_true, decide_true, decide_false, Bool.true_and, Bool.false_and, Bool.true_or, Bool.false_or, if_pos, if_neg, dv H, dg_128 H, dp_128 H, dg_129 H, dp_129 H, dg_130 H, dp_130 H, dg_131 H, dp_131 H, dr_132 H, da_132 H, dr_133 H, da_133 H, dr_134 H, da_134 H, dr_135 H, da_135 H, dr_136 H, da_136 H, dr_137 H, da_137 H, V.1.1, V.1.2.1, V.1.2.2.1, V.1.2.2.2, c_answerOf H V O, c_noteOf H V O, c_meaning H V, d_Survey_foes_4_w6, d_Survey_foes_4_w7]
    · rw [exB_succ _ q0]
      cases decide (t < D 0) <;> simp) 0 (setB.zero.cg (fun t _ _ => by rw [exB_0, Bool.and_false]))
  refine ⟨s, ?_, i1⟩
  rw [e_Survey_foes, L1, e_Survey_foes_4]
  simp (disch := omega) only [if_true, if_false, not_true_eq_false, not_false_eq_true, zoI_s, zoR_s, zoH_s, zoL_s, zbI_s, zbV_s, zbR_s, zbL_s, zif_dec, i32_0, ne_eq, i32_lt, i32_le, i32_eq, i32_add, i32_mul, i32_sub, i32_neg, zrz_0, zrz_1, zif_t, zif_f, zsF_s, zsF_k, zsF_a, zsC_s, zsC_a, zsC_i, zsW_s, zsW_a, Int.add_zero, Int.zero_add, true_and, false_and, and_false, Bool.false_eq_true, decide_true, decide_false, Bool.true_and, Bool.false_and, Bool.true_or, Bool.false_or, if_pos, if_neg, dv H, dg_128 H, dp_128 H, dg_129 H, dp_129 H, dg_130 H, dp_130 H, dg_131 H, dp_131 H, dr_132 H, da_132 H, dr_133 H, da_133 H, dr_134 H, da_134 H, dr_135 H, da_135 H, dr_136 H, da_136 H, dr_137 H, da_137 H, V.1.1, V.1.2.1, V.1.2.2.1, V.1.2.2.2, c_answerOf H V O, c_noteOf H V O, c_meaning H V]
theorem c_mostPeaceful (S : St h) (H : duS h a) (V : duV F C a D) (O : dOK D) (ha : a ≤ 28) {p : Int} (p0 : 0 ≤ p) (p1 : p < D 1) : ∃ f, zc 104 [zR (some 68), zR (some a), zI (i32 p)] (zw h F C) = some (zI (i32 (peaS D p)), zw h F (zsW C 71 f)) := by
  have b0 := O.1
  have b2 := O.2.2.1
  have q1 := pw_6 (n := D 0) (by omega)
  have q2 := pw_le (n := D 0) (by omega)
  obtain ⟨f, L1, i1⟩ := zinv (fun r f => zr 104 2 [yR (some 68), yR (some a), yI (i32 p), yI (i32 r), none, none] [] (zw h F (zsW C 71 f))) (fun k f => ∀ r, 0 ≤ r → r < k → setB (f r) (fun t => decide (t < D 0) && apaB D p r t)) 0 (D 0) (by omega) (fun r f r0 r1 hi => by
    obtain ⟨s, e, g⟩ := c_foes H (V.sW (b := 71) f ha (by omega)) O r0 r1 p0 p1
    refine ⟨up1 f r s, ?_, fun t t0 t1 => ?_⟩
    · rw [e_Survey_mostPeaceful_2]
      simp (disch := omega) only [if_true, if_false, not_true_eq_false, not_false_eq_true, zoI_s, zoR_s, zoH_s, zoL_s, zbI_s, zbV_s, zbR_s, zbL_s, zif_dec, i32_0, ne_eq, i32_lt, i32_le, i32_eq, i32_add, i32_mul, i32_sub, i32_neg, zrz_0, zrz_1, zif_t, zif_f, zsF_s, zsF_k, zsF_a, zsC_s, zsC_a, zsC_i, zsW_s, zsW_a, Int.add_zero, Int.zero_add, true_and, false_and, and_false, Bool.false_eq_true, decide_true, decide_false, Bool.true_and, Bool.false_and, Bool.true_or, Bool.false_or, if_pos, if_neg, dv H, dg_128 H, dp_128 H, dg_129 H, dp_129 H, dg_130 H, dp_130 H, dg_131 H, dp_131 H, dr_132 H, da_132 H, dr_133 H, da_133 H, dr_134 H, da_134 H, dr_135 H, da_135 H, dr_136 H, da_136 H, dr_137 H, da_137 H, V.1.1, wv_68 S, wr_384 S, wr_385 S, wr_386 S, e, wa_71 S, ws_71 S, zsC_W, zsW_W]
    · by_cases c : t = r
      · rw [c, up1_s]; exact g
      · rw [up1_n c]; exact hi t t0 (by omega)) (C 71) (fun r _ _ => by omega)
  rw [zsW_id] at L1
  have L2 := (zfoI (fun s b => zr 104 21 [yR (some 68), yR (some a), yI (i32 p), yI (i32 b), yI (i32 s), none] [] (zw h F (zsW C 71 f))) (peaF D p) (fun k s => 0 ≤ s ∧ s ≤ k ∧ s < 2 ^ (D 0).toNat) 0 (2 ^ (D 0).toNat) (by omega) (fun s b s0 s1 hi => by
    obtain ⟨u, e, g⟩ := c_unionOf (F := F) (C := C) S H V O ha s0 (by omega) i1
    have j1 := g.1
    have j2 := g.2.1
    have g3 := bitsS_rng s
    have g4 := bitsS_rng b
    have ga := g.and (setB.self s0 (by omega))
    have ga1 := ga.1
    have ga2 := ga.2.1
    have hu : ands u s = 0 ↔ peaB D p s = true := by
      rw [ga.iff setB.zero, peaB_iff]
      constructor
      · intro hh x y x0 x1 y0 y1 ex ey
        have := hh y y0 (by omega)
        rw [ey, decide_eq_true (show (1 : Int) = 1 from rfl), Bool.and_true] at this
        have := exB_false.mp this x x0 x1
        rw [ex, decide_eq_true (show (1 : Int) = 1 from rfl), decide_eq_true y1, Bool.true_and, Bool.true_and] at this
        exact this
      · intro hh t t0 t1
        rcases bitI_01 s t with ct | ct
        · rw [ct, decide_eq_false (show ¬ (0 : Int) = 1 by omega), Bool.and_false]
        · rw [ct, decide_eq_true (show (1 : Int) = 1 from rfl), Bool.and_true]
          refine exB_false.mpr (fun x x0 x1 => ?_)
          by_cases c : t < D 0
          · rcases bitI_01 s x with cx | cx
            · rw [cx, decide_eq_false (show ¬ (0 : Int) = 1 by omega), Bool.false_and]
            · rw [hh x t x0 x1 t0 c cx ct, Bool.and_false, Bool.and_false]
          · rw [decide_eq_false c, Bool.false_and, Bool.and_false]
    rw [e_Survey_mostPeaceful_21]
    unfold peaF
    by_cases cc : bitsS b < bitsS s
    · by_cases cu : ands u s = 0
      · rw [if_pos ⟨cc, hu.mp cu⟩]
        simp (disch := omega) only [if_true, if_false, not_true_eq_false, not_false_eq_true, zoI_s, zoR_s, zoH_s, zoL_s, zbI_s, zbV_s, zbR_s, zbL_s, zif_dec, i32_0, ne_eq, i32_lt, i32_le, i32_eq, i32_add, i32_mul, i32_sub, i32_neg, zrz_0, zrz_1, zif_t, zif_f, zsF_s, zsF_k, zsF_a, zsC_s, zsC_a, zsC_i, zsW_s, zsW_a, Int.add_zero, Int.zero_add, true_and, false_and, and_false, Bool.false_eq_true, decide_true, decide_false, Bool.true_and, Bool.false_and, Bool.true_or, Bool.false_or, if_pos, if_neg, dv H, dg_128 H, dp_128 H, dg_129 H, dp_129 H, dg_130 H, dp_130 H, dg_131 H, dp_131 H, dr_132 H, da_132 H, dr_133 H, da_133 H, dr_134 H, da_134 H, dr_135 H, da_135 H, dr_136 H, da_136 H, dr_137 H, da_137 H, V.1.1, b_pow, b_ands, wv_68 S, wr_384 S, wr_385 S, wr_386 S, e, c_bitCount, d_Survey_mostPeaceful_21_w5]
      · rw [if_neg (fun z => cu (hu.mpr z.2))]
        simp (disch := omega) only [if_true, if_false, not_true_eq_false, not_false_eq_true, zoI_s, zoR_s, zoH_s, zoL_s, zbI_s, zbV_s, zbR_s, zbL_s, zif_dec, i32_0, ne_eq, i32_lt, i32_le, i32_eq, i32_add, i32_mul, i32_sub, i32_neg, zrz_0, zrz_1, zif_t, zif_f, zsF_s, zsF_k, zsF_a, zsC_s, zsC_a, zsC_i, zsW_s, zsW_a, Int.add_zero, Int.zero_add, true_and, false_and, and_false, Bool.false_eq_true, decide_true, decide_false, Bool.true_and, Bool.false_and, Bool.true_or, Bool.false_or, if_pos, if_neg, dv H, dg_128 H, dp_128 H, dg_129 H, dp_129 H, dg_130 H, dp_130 H, dg_131 H, dp_131 H, dr_132 H, da_132 H, dr_133 H, da_133 H, dr_134 H, da_134 H, dr_135 H, da_135 H, dr_136 H, da_136 H, dr_137 H, da_137 H, V.1.1, b_pow, b_ands, wv_68 S, wr_384 S, wr_385 S, wr_386 S, e, c_bitCount, d_Survey_mostPeaceful_21_w5]
    · rw [if_neg (fun z => cc z.1)]
      simp (disch := omega) only [if_true, if_false, not_true_eq_false, not_false_eq_true, zoI_s, zoR_s, zoH_s, zoL_s, zbI_s, zbV_s, zbR_s, zbL_s, zif_dec, i32_0, ne_eq, i32_lt, i32_le, i32_eq, i32_add, i32_mul, i32_sub, i32_neg, zrz_0, zrz_1, zif_t, zif_f, zsF_s, zsF_k, zsF_a, zsC_s, zsC_a, zsC_i, zsW_s, zsW_a, Int.add_zero, Int.zero_add, true_and, false_and, and_false, Bool.false_eq_true, decide_true, decide_false, Bool.true_and, Bool.false_and, Bool.true_or, Bool.false_or, if_pos, if_neg, dv H, dg_128 H, dp_128 H, dg_129 H, dp_129 H, dg_130 H, dp_130 H, dg_131 H, dp_131 H, dr_132 H, da_132 H, dr_133 H, da_133 H, dr_134 H, da_134 H, dr_135 H, da_135 H, dr_136 H, da_136 H, dr_137 H, da_137 H, V.1.1, b_pow, wv_68 S, wr_384 S, wr_385 S, wr_386 S, e, c_bitCount, d_Survey_mostPeaceful_21_w5]) peaF_I 0 (by omega)).1
  rw [show (2 : Int) ^ (D 0).toNat - 0 = 2 ^ (D 0).toNat by omega, show foldF (peaF D p) 0 (2 ^ (D 0).toNat : Int).toNat 0 = peaS D p from rfl] at L2
  refine ⟨f, ?_⟩
  rw [e_Survey_mostPeaceful, L1, e_Survey_mostPeaceful_2]
  simp (disch := omega) only [if_true, if_false, not_true_eq_false, not_false_eq_true, zoI_s, zoR_s, zoH_s, zoL_s, zbI_s, zbV_s, zbR_s, zbL_s, zif_dec, i32_0, ne_eq, i32_lt, i32_le, i32_eq, i32_add, i32_mul, i32_sub, i32_neg, zrz_0, zrz_1, zif_t, zif_f, zsF_s, zsF_k, zsF_a, zsC_s, zsC_a, zsC_i, zsW_s, zsW_a, Int.add_zero, Int.zero_add, true_and, false_and, and_false, Bool.false_eq_true, decide_true, decide_false, Bool.true_and, Bool.false_and, Bool.true_or, Bool.false_or, if_pos, if_neg, dv H, dg_128 H, dp_128 H, dg_129 H, dp_129 H, dg_130 H, dp_130 H, dg_131 H, dp_131 H, dr_132 H, da_132 H, dr_133 H, da_133 H, dr_134 H, da_134 H, dr_135 H, da_135 H, dr_136 H, da_136 H, dr_137 H, da_137 H, V.1.1, L2]
  rw [e_Survey_mostPeaceful_21]
  simp (disch := omega) only [if_true, if_false, not_true_eq_false, not_false_eq_true, zoI_s, zoR_s, zoH_s, zoL_s, zbI_s, zbV_s, zbR_s, zbL_s, zif_dec, i32_0, ne_eq, i32_lt, i32_le, i32_eq, i32_add, i32_mul, i32_sub, i32_neg, zrz_0, zrz_1, zif_t, zif_f, zsF_s, zsF_k, zsF_a, zsC_s, zsC_a, zsC_i, zsW_s, zsW_a, Int.add_zero, Int.zero_add, true_and, false_and, and_false, Bool.false_eq_true, decide_true, decide_false, Bool.true_and, Bool.false_and, Bool.true_or, Bool.false_or, if_pos, if_neg, dv H, dg_128 H, dp_128 H, dg_129 H, dp_129 H, dg_130 H, dp_130 H, dg_131 H, dp_131 H, dr_132 H, da_132 H, dr_133 H, da_133 H, dr_134 H, da_134 H, dr_135 H, da_135 H, dr_136 H, da_136 H, dr_137 H, da_137 H, V.1.1, b_pow]
theorem m_areApart (S : St h) (M : moV F C D) (O : dOK D) {x y p : Int} (x0 : 0 ≤ x) (x1 : x < D 0) (y0 : 0 ≤ y) (y1 : y < D 0) (p0 : 0 ≤ p) (p1 : p < D 1) (w u v : Int) : ∃ w' u' v', zc 265 [zR (some 72), zI (i32 x), zI (i32 y), zI (i32 p)] (zw h (mlF F w u v) C) = some (zI (i32 (if apaB D p x y = true then 1 else 0)), zw h (mlF F w' u' v') C) := by
  have b2 := O.2.2.1
  obtain ⟨t, L1, _⟩ := zorJ (fun q b (t : Int × Int × Int) => zr 265 4 [yR (some 72), yI (i32 x), yI (i32 y), yI (i32 p), yI (i32 (if b = true then 1 else 0)), yI (i32 q), none] [] (zw h (mlF F t.1 t.2.1 t.2.2) C)) (fun q => oppB (ansS D x p q) (ansS D y p q)) (fun _ => True) (D 2) (by omega) (fun q b t q0 q1 _ => by
    have g1 := ansS_rng O x p q
    have g2 := ansS_rng O y p q
    rw [e_Model_areApart_4]
    cases b with
    | true =>
      simp (disch := omega) only [if_true, if_false, not_true_eq_false, not_false_eq_true, zoI_s, zoR_s, zoH_s, zoL_s, zbI_s, zbV_s, zbR_s, zbL_s, zif_dec, i32_0, ne_eq, i32_lt, i32_le, i32_eq, i32_add, i32_mul, i32_sub, i32_neg, zrz_0, zrz_1, zif_t, zif_f, zsF_s, zsF_k, zsF_a, zsC_s, zsC_a, zsC_i, zsW_s, zsW_a, Int.add_zero, Int.zero_add, true_and, false_and, and_false, Bool.false_eq_true, decide_true, decide_false, Bool.true_and, Bool.false_and, Bool.true_or, Bool.false_or, if_pos, if_neg, wv_72 S, wr_768 S, wr_769 S, wr_777 S, wr_785 S, wr_786 S, wr_787 S, wr_789 S, wr_790 S, wr_791 S, wr_802 S, wr_803 S, wr_804 S, wr_805 S, wr_806 S, wr_807 S, wr_809 S, wg_770 S, wp_770 S, wg_771 S, wp_771 S, wg_772 S, wp_772 S, wg_773 S, wp_773 S, wg_774 S, wp_774 S, wg_775 S, wp_775 S, wg_776 S, wp_776 S, wg_778 S, wp_778 S, wg_779 S, wp_779 S, wg_780 S, wp_780 S, wg_781 S, wp_781 S, wg_782 S, wp_782 S, wg_783 S, wp_783 S, wg_784 S, wp_784 S, wg_788 S, wp_788 S, wg_792 S, wp_792 S, wg_793 S, wp_793 S, wg_794 S, wp_794 S, wg_795 S, wp_795 S, wg_796 S, wp_796 S, wg_797 S, wp_797 S, wg_798 S, wp_798 S, wg_799 S, wp_799 S, wg_800 S, wp_800 S, wg_801 S, wp_801 S, wg_808 S, wp_808 S, wg_810 S, wp_810 S, mlF_o, M.2.1.1, M.2.1.2.1, M.2.1.2.2, m_lays S (M.ml _ _ _) O, mlF_ml, m_ans S M O, m_nte S M O, m_meant S (M.ml _ _ _), mlF_0, mlF_1, mlF_2, mlF_w, mlF_k, mlF_c, d_Model_areApart_4_w6]
      exact ⟨(_, _, _), rfl, trivial⟩
    | false =>
      by_cases c : 0 ≤ ansS D x p q ∧ ansS D x p q ≤ 1
      · by_cases c2 : ansS D y p q = 1 - ansS D x p q
        · rw [show oppB (ansS D x p q) (ansS D y p q) = true from decide_eq_true ⟨c.1, c.2, c2⟩]
          simp (disch := omega) only [if_true, if_false, not_true_eq_false, not_false_eq_true, zoI_s, zoR_s, zoH_s, zoL_s, zbI_s, zbV_s, zbR_s, zbL_s, zif_dec, i32_0, ne_eq, i32_lt, i32_le, i32_eq, i32_add, i32_mul, i32_sub, i32_neg, zrz_0, zrz_1, zif_t, zif_f, zsF_s, zsF_k, zsF_a, zsC_s, zsC_a, zsC_i, zsW_s, zsW_a, Int.add_zero, Int.zero_add, true_and, false_and, and_false, Bool.false_eq_true, decide_true, decide_false, Bool.true_and, Bool.false_and, Bool.true_or, Bool.false_or, if_pos, if_neg, wv_72 S, wr_768 S, wr_769 S, wr_777 S, wr_785 S, wr_786 S, wr_787 S, wr_789 S, wr_790 S, wr_791 S, wr_802 S, wr_803 S, wr_804 S, wr_805 S, wr_806 S, wr_807 S, wr_809 S, wg_770 S, wp_770 S, wg_771 S, wp_771 S, wg_772 S, wp_772 S, wg_773 S, wp_773 S, wg_774 S, wp_774 S, wg_775 S, wp_775 S, wg_776 S, wp_776 S, wg_778 S, wp_778 S, wg_779 S, wp_779 S, wg_780 S, wp_780 S, wg_781 S, wp_781 S, wg_782 S, wp_782 S, wg_783 S, wp_783 S, wg_784 S, wp_784 S, wg_788 S, wp_788 S, wg_792 S, wp_792 S, wg_793 S, wp_793 S, wg_794 S, wp_794 S, wg_795 S, wp_795 S, wg_796 S, wp_796 S, wg_797 S, wp_797 S, wg_798 S, wp_798 S, wg_799 S, wp_799 S, wg_800 S, wp_800 S, wg_801 S, wp_801 S, wg_808 S, wp_808 S, wg_810 S, wp_810 S, mlF_o, M.2.1.1, M.2.1.2.1, M.2.1.2.2, m_lays S (M.ml _ _ _) O, mlF_ml, m_ans S M O, m_nte S M O, m_meant S (M.ml _ _ _), mlF_0, mlF_1, mlF_2, mlF_w, mlF_k, mlF_c, m_isIn, ib_0, d_Model_areApart_4_w6]
          exact ⟨(_, _, _), rfl, trivial⟩
        · rw [show oppB (ansS D x p q) (ansS D y p q) = false from decide_eq_false (fun z => c2 z.2.2)]
          simp (disch := omega) only [if_true, if_false, not_true_eq_false, not_false_eq_true, zoI_s, zoR_s, zoH_s, zoL_s, zbI_s, zbV_s, zbR_s, zbL_s, zif_dec, i32_0, ne_eq, i32_lt, i32_le, i32_eq, i32_add, i32_mul, i32_sub, i32_neg, zrz_0, zrz_1, zif_t, zif_f, zsF_s, zsF_k, zsF_a, zsC_s, zsC_a, zsC_i, zsW_s, zsW_a, Int.add_zero, Int.zero_add, true_and, false_and, and_false, Bool.false_eq_true, decide_true, decide_false, Bool.true_and, Bool.false_and, Bool.true_or, Bool.false_or, if_pos, if_neg, wv_72 S, wr_768 S, wr_769 S, wr_777 S, wr_785 S, wr_786 S, wr_787 S, wr_789 S, wr_790 S, wr_791 S, wr_802 S, wr_803 S, wr_804 S, wr_805 S, wr_806 S, wr_807 S, wr_809 S, wg_770 S, wp_770 S, wg_771 S, wp_771 S, wg_772 S, wp_772 S, wg_773 S, wp_773 S, wg_774 S, wp_774 S, wg_775 S, wp_775 S, wg_776 S, wp_776 S, wg_778 S, wp_778 S, wg_779 S, wp_779 S, wg_780 S, wp_780 S, wg_781 S, wp_781 S, wg_782 S, wp_782 S, wg_783 S, wp_783 S, wg_784 S, wp_784 S, wg_788 S, wp_788 S, wg_792 S, wp_792 S, wg_793 S, wp_793 S, wg_794 S, wp_794 S, wg_795 S, wp_795 S, wg_796 S, wp_796 S, wg_797 S, wp_797 S, wg_798 S, wp_798 S, wg_799 S, wp_799 S, wg_800 S, wp_800 S, wg_801 S, wp_801 S, wg_808 S, wp_808 S, wg_810 S, wp_810 S, mlF_o, M.2.1.1, M.2.1.2.1, M.2.1.2.2, m_lays S (M.ml _ _ _) O, mlF_ml, m_ans S M O, m_nte S M O, m_meant S (M.ml _ _ _), mlF_0, mlF_1, mlF_2, mlF_w, mlF_k, mlF_c, m_isIn, ib_0, d_Model_areApart_4_w6]
          exact ⟨(_, _, _), rfl, trivial⟩
      · rw [show oppB (ansS D x p q) (ansS D y p q) = false from decide_eq_false (fun z => c ⟨z.1, z.2.1⟩)]
        simp (disch := omega) only [if_true, if_false, not_true_eq_false, not_false_eq_true, zoI_s, zoR_s, zoH_s, zoL_s, zbI_s, zbV_s, zbR_s, zbL_s, zif_dec, i32_0, ne_eq, i32_lt, i32_le, i32_eq, i32_add, i32_mul, i32_sub, i32_neg, zrz_0, zrz_1, zif_t, zif_f, zsF_s, zsF_k, zsF_a, zsC_s, zsC_a, zsC_i, zsW_s, zsW_a, Int.add_zero, Int.zero_add, true_and, false_and, and_false, Bool.false_eq_true, decide_true, decide_false, Bool.true_and, Bool.false_and, Bool.true_or, Bool.false_or, if_pos, if_neg, wv_72 S, wr_768 S, wr_769 S, wr_777 S, wr_785 S, wr_786 S, wr_787 S, wr_789 S, wr_790 S, wr_791 S, wr_802 S, wr_803 S, wr_804 S, wr_805 S, wr_806 S, wr_807 S, wr_809 S, wg_770 S, wp_770 S, wg_771 S, wp_771 S, wg_772 S, wp_772 S, wg_773 S, wp_773 S, wg_774 S, wp_774 S, wg_775 S, wp_775 S, wg_776 S, wp_776 S, wg_778 S, wp_778 S, wg_779 S, wp_779 S, wg_780 S, wp_780 S, wg_781 S, wp_781 S, wg_782 S, wp_782 S, wg_783 S, wp_783 S, wg_784 S, wp_784 S, wg_788 S, wp_788 S, wg_792 S, wp_792 S, wg_793 S, wp_793 S, wg_794 S, wp_794 S, wg_795 S, wp_795 S, wg_796 S, wp_796 S, wg_797 S, wp_797 S, wg_798 S, wp_798 S, wg_799 S, wp_799 S, wg_800 S, wp_800 S, wg_801 S, wp_801 S, wg_808 S, wp_808 S, wg_810 S, wp_810 S, mlF_o, M.2.1.1, M.2.1.2.1, M.2.1.2.2, m_lays S (M.ml _ _ _) O, mlF_ml, m_ans S M O, m_nte S M O, m_meant S (M.ml _ _ _), mlF_0, mlF_1, mlF_2, mlF_w, mlF_k, mlF_c, m_isIn, ib_0, d_Model_areApart_4_w6]
        exact ⟨(_, _, _), rfl, trivial⟩) false (w, u, v) trivial
  dsimp only at L1
  rw [if_neg (by simp), Bool.false_or, show exB _ _ = apaB D p x y from rfl] at L1
  refine ⟨t.1, t.2.1, t.2.2, ?_⟩
  rw [e_Model_areApart, L1, e_Model_areApart_4]
  simp (disch := omega) only [if_true, if_false, not_true_eq_false, not_false_eq_true, zoI_s, zoR_s, zoH_s, zoL_s, zbI_s, zbV_s, zbR_s, zbL_s, zif_dec, i32_0, ne_eq, i32_lt, i32_le, i32_eq, i32_add, i32_mul, i32_sub, i32_neg, zrz_0, zrz_1, zif_t, zif_f, zsF_s, zsF_k, zsF_a, zsC_s, zsC_a, zsC_i, zsW_s, zsW_a, Int.add_zero, Int.zero_add, true_and, false_and, and_false, Bool.false_eq_true, decide_true, decide_false, Bool.true_and, Bool.false_and, Bool.true_or, Bool.false_or, if_pos, if_neg, wv_72 S, wr_768 S, wr_769 S, wr_777 S, wr_785 S, wr_786 S, wr_787 S, wr_789 S, wr_790 S, wr_791 S, wr_802 S, wr_803 S, wr_804 S, wr_805 S, wr_806 S, wr_807 S, wr_809 S, wg_770 S, wp_770 S, wg_771 S, wp_771 S, wg_772 S, wp_772 S, wg_773 S, wp_773 S, wg_774 S, wp_774 S, wg_775 S, wp_775 S, wg_776 S, wp_776 S, wg_778 S, wp_778 S, wg_779 S, wp_779 S, wg_780 S, wp_780 S, wg_781 S, wp_781 S, wg_782 S, wp_782 S, wg_783 S, wp_783 S, wg_784 S, wp_784 S, wg_788 S, wp_788 S, wg_792 S, wp_792 S, wg_793 S, wp_793 S, wg_794 S, wp_794 S, wg_795 S, wp_795 S, wg_796 S, wp_796 S, wg_797 S, wp_797 S, wg_798 S, wp_798 S, wg_799 S, wp_799 S, wg_800 S, wp_800 S, wg_801 S, wp_801 S, wg_808 S, wp_808 S, wg_810 S, wp_810 S, mlF_o, M.2.1.1, M.2.1.2.1, M.2.1.2.2, m_lays S (M.ml _ _ _) O, mlF_ml, m_ans S M O, m_nte S M O, m_meant S (M.ml _ _ _), mlF_0, mlF_1, mlF_2, mlF_w, mlF_k, mlF_c, zrz_b]
theorem m_isPeace (S : St h) (M : moV F C D) (O : dOK D) {p s : Int} (p0 : 0 ≤ p) (p1 : p < D 1) (s0 : 0 ≤ s) (s1 : s < 64) (w u v : Int) : ∃ w' u' v', zc 266 [zR (some 72), zI (i32 s), zI (i32 p)] (zw h (mlF F w u v) C) = some (zI (i32 (if peaB D p s = true then 1 else 0)), zw h (mlF F w' u' v') C) := by
  have b0 := O.1
  have L2 := fun x b t (x0 : 0 ≤ x) (x1 : x < D 0) => zandJ (fun y b (t : Int × Int × Int) => zr 266 10 [yR (some 72), yI (i32 s), yI (i32 p), yI (i32 (if b = true then 1 else 0)), yI (i32 x), yI (i32 y)] [] (zw h (mlF F t.1 t.2.1 t.2.2) C)) (fun y => !(decide (bitI s x * bitI s y = 1) && apaB D p x y)) (fun _ => True) x x0 (fun y b t y0 y1 _ => by
    rw [e_Model_isPeace_10]
    cases b with
    | false =>
      simp (disch := omega) only [if_true, if_false, not_true_eq_false, not_false_eq_true, zoI_s, zoR_s, zoH_s, zoL_s, zbI_s, zbV_s, zbR_s, zbL_s, zif_dec, i32_0, ne_eq, i32_lt, i32_le, i32_eq, i32_add, i32_mul, i32_sub, i32_neg, zrz_0, zrz_1, zif_t, zif_f, zsF_s, zsF_k, zsF_a, zsC_s, zsC_a, zsC_i, zsW_s, zsW_a, Int.add_zero, Int.zero_add, true_and, false_and, and_false, Bool.false_eq_true, decide_true, decide_false, Bool.true_and, Bool.false_and, Bool.true_or, Bool.false_or, if_pos, if_neg]
      exact ⟨(_, _, _), rfl, trivial⟩
    | true =>
      have g : bitI s x * bitI s y = 0 ∨ bitI s x * bitI s y = 1 := by
        rcases bitI_01 s x with e1 | e1 <;> rcases bitI_01 s y with e2 | e2 <;> rw [e1, e2] <;> omega
      rcases g with g | g
      · simp (disch := omega) only [if_true, if_false, not_true_eq_false, not_false_eq_true, zoI_s, zoR_s, zoH_s, zoL_s, zbI_s, zbV_s, zbR_s, zbL_s, zif_dec, i32_0, ne_eq, i32_lt, i32_le, i32_eq, i32_add, i32_mul, i32_sub, i32_neg, zrz_0, zrz_1, zif_t, zif_f, zsF_s, zsF_k, zsF_a, zsC_s, zsC_a, zsC_i, zsW_s, zsW_a, Int.add_zero, Int.zero_add, true_and, false_and, and_false, Bool.false_eq_true, decide_true, decide_false, Bool.true_and, Bool.false_and, Bool.true_or, Bool.false_or, if_pos, if_neg, b_shr2, g]
        exact ⟨(_, _, _), rfl, trivial⟩
      · obtain ⟨w', u', v', e⟩ := m_areApart S M O x0 x1 y0 (by omega) p0 p1 t.1 t.2.1 t.2.2
        cases ca : apaB D p x y with
        | true =>
          rw [ca] at e
          simp (disch := omega) only [if_true, if_false, not_true_eq_false, not_false_eq_true, zoI_s, zoR_s, zoH_s, zoL_s, zbI_s, zbV_s, zbR_s, zbL_s, zif_dec, i32_0, ne_eq, i32_lt, i32_le, i32_eq, i32_add, i32_mul, i32_sub, i32_neg, zrz_0, zrz_1, zif_t, zif_f, zsF_s, zsF_k, zsF_a, zsC_s, zsC_a, zsC_i, zsW_s, zsW_a, Int.add_zero, Int.zero_add, true_and, false_and, and_false, Bool.false_eq_true, decide_true, decide_false, Bool.true_and, Bool.false_and, Bool.true_or, Bool.false_or, if_pos, if_neg, wv_72 S, wr_768 S, wr_769 S, wr_777 S, wr_785 S, wr_786 S, wr_787 S, wr_789 S, wr_790 S, wr_791 S, wr_802 S, wr_803 S, wr_804 S, wr_805 S, wr_806 S, wr_807 S, wr_809 S, wg_770 S, wp_770 S, wg_771 S, wp_771 S, wg_772 S, wp_772 S, wg_773 S, wp_773 S, wg_774 S, wp_774 S, wg_775 S, wp_775 S, wg_776 S, wp_776 S, wg_778 S, wp_778 S, wg_779 S, wp_779 S, wg_780 S, wp_780 S, wg_781 S, wp_781 S, wg_782 S, wp_782 S, wg_783 S, wp_783 S, wg_784 S, wp_784 S, wg_788 S, wp_788 S, wg_792 S, wp_792 S, wg_793 S, wp_793 S, wg_794 S, wp_794 S, wg_795 S, wp_795 S, wg_796 S, wp_796 S, wg_797 S, wp_797 S, wg_798 S, wp_798 S, wg_799 S, wp_799 S, wg_800 S, wp_800 S, wg_801 S, wp_801 S, wg_808 S, wp_808 S, wg_810 S, wp_810 S, mlF_o, M.2.1.1, M.2.1.2.1, M.2.1.2.2, m_lays S (M.ml _ _ _) O, mlF_ml, m_ans S M O, m_nte S M O, m_meant S (M.ml _ _ _), mlF_0, mlF_1, mlF_2, mlF_w, mlF_k, mlF_c, b_shr2, g, e]
          exact ⟨(_, _, _), rfl, trivial⟩
        | false =>
          rw [ca] at e
          simp (disch := omega) only [if_true, if_false, not_true_eq_false, not_false_eq_true, zoI_s, zoR_s, zoH_s, zoL_s, zbI_s, zbV_s, zbR_s, zbL_s, zif_dec, i32_0, ne_eq, i32_lt, i32_le, i32_eq, i32_add, i32_mul, i32_sub, i32_neg, zrz_0, zrz_1, zif_t, zif_f, zsF_s, zsF_k, zsF_a, zsC_s, zsC_a, zsC_i, zsW_s, zsW_a, Int.add_zero, Int.zero_add, true_and, false_and, and_false, Bool.false_eq_true, decide_true, decide_false, Bool.true_and, Bool.false_and, Bool.true_or, Bool.false_or, if_pos, if_neg, wv_72 S, wr_768 S, wr_769 S, wr_777 S, wr_785 S, wr_786 S, wr_787 S, wr_789 S, wr_790 S, wr_791 S, wr_802 S, wr_803 S, wr_804 S, wr_805 S, wr_806 S, wr_807 S, wr_809 S, wg_770 S, wp_770 S, wg_771 S, wp_771 S, wg_772 S, wp_772 S, wg_773 S, wp_773 S, wg_774 S, wp_774 S, wg_775 S, wp_775 S, wg_776 S, wp_776 S, wg_778 S, wp_778 S, wg_779 S, wp_779 S, wg_780 S, wp_780 S, wg_781 S, wp_781 S, wg_782 S, wp_782 S, wg_783 S, wp_783 S, wg_784 S, wp_784 S, wg_788 S, wp_788 S, wg_792 S, wp_792 S, wg_793 S, wp_793 S, wg_794 S, wp_794 S, wg_795 S, wp_795 S, wg_796 S, wp_796 S, wg_797 S, wp_797 S, wg_798 S, wp_798 S, wg_799 S, wp_799 S, wg_800 S, wp_800 S, wg_801 S, wp_801 S, wg_808 S, wp_808 S, wg_810 S, wp_810 S, mlF_o, M.2.1.1, M.2.1.2.1, M.2.1.2.2, m_lays S (M.ml _ _ _) O, mlF_ml, m_ans S M O, m_nte S M O, m_meant S (M.ml _ _ _), mlF_0, mlF_1, mlF_2, mlF_w, mlF_k, mlF_c, b_shr2, g, e]
          exact ⟨(_, _, _), rfl, trivial⟩) b t trivial
  obtain ⟨t, L1, _⟩ := zandJ (fun x b (t : Int × Int × Int) => zr 266 4 [yR (some 72), yI (i32 s), yI (i32 p), yI (i32 (if b = true then 1 else 0)), yI (i32 x), none] [] (zw h (mlF F t.1 t.2.1 t.2.2) C)) (fun x => alB (fun y => !(decide (bitI s x * bitI s y = 1) && apaB D p x y)) x) (fun _ => True) (D 0) (by omega) (fun x b t x0 x1 _ => by
    obtain ⟨t', e, _⟩ := L2 x b t x0 x1
    rw [e_Model_isPeace_4]
    simp (disch := omega) only [if_true, if_false, not_true_eq_false, not_false_eq_true, zoI_s, zoR_s, zoH_s, zoL_s, zbI_s, zbV_s, zbR_s, zbL_s, zif_dec, i32_0, ne_eq, i32_lt, i32_le, i32_eq, i32_add, i32_mul, i32_sub, i32_neg, zrz_0, zrz_1, zif_t, zif_f, zsF_s, zsF_k, zsF_a, zsC_s, zsC_a, zsC_i, zsW_s, zsW_a, Int.add_zero, Int.zero_add, true_and, false_and, and_false, Bool.false_eq_true, decide_true, decide_false, Bool.true_and, Bool.false_and, Bool.true_or, Bool.false_or, if_pos, if_neg, wv_72 S, wr_768 S, wr_769 S, wr_777 S, wr_785 S, wr_786 S, wr_787 S, wr_789 S, wr_790 S, wr_791 S, wr_802 S, wr_803 S, wr_804 S, wr_805 S, wr_806 S, wr_807 S, wr_809 S, wg_770 S, wp_770 S, wg_771 S, wp_771 S, wg_772 S, wp_772 S, wg_773 S, wp_773 S, wg_774 S, wp_774 S, wg_775 S, wp_775 S, wg_776 S, wp_776 S, wg_778 S, wp_778 S, wg_779 S, wp_779 S, wg_780 S, wp_780 S, wg_781 S, wp_781 S, wg_782 S, wp_782 S, wg_783 S, wp_783 S, wg_784 S, wp_784 S, wg_788 S, wp_788 S, wg_792 S, wp_792 S, wg_793 S, wp_793 S, wg_794 S, wp_794 S, wg_795 S, wp_795 S, wg_796 S, wp_796 S, wg_797 S, wp_797 S, wg_798 S, wp_798 S, wg_799 S, wp_799 S, wg_800 S, wp_800 S, wg_801 S, wp_801 S, wg_808 S, wp_808 S, wg_810 S, wp_810 S, mlF_o, M.2.1.1, M.2.1.2.1, M.2.1.2.2, m_lays S (M.ml _ _ _) O, mlF_ml, m_ans S M O, m_nte S M O, m_meant S (M.ml _ _ _), mlF_0, mlF_1, mlF_2, mlF_w, mlF_k, mlF_c, e]
    rw [e_Model_isPeace_10]
    simp (disch := omega) only [if_true, if_false, not_true_eq_false, not_false_eq_true, zoI_s, zoR_s, zoH_s, zoL_s, zbI_s, zbV_s, zbR_s, zbL_s, zif_dec, i32_0, ne_eq, i32_lt, i32_le, i32_eq, i32_add, i32_mul, i32_sub, i32_neg, zrz_0, zrz_1, zif_t, zif_f, zsF_s, zsF_k, zsF_a, zsC_s, zsC_a, zsC_i, zsW_s, zsW_a, Int.add_zero, Int.zero_add, true_and, false_and, and_false, Bool.false_eq_true, decide_true, decide_false, Bool.true_and, Bool.false_and, Bool.true_or, Bool.false_or, if_pos, if_neg, wv_72 S, wr_768 S, wr_769 S, wr_777 S, wr_785 S, wr_786 S, wr_787 S, wr_789 S, wr_790 S, wr_791 S, wr_802 S, wr_803 S, wr_804 S, wr_805 S, wr_806 S, wr_807 S, wr_809 S, wg_770 S, wp_770 S, wg_771 S, wp_771 S, wg_772 S, wp_772 S, wg_773 S, wp_773 S, wg_774 S, wp_774 S, wg_775 S, wp_775 S, wg_776 S, wp_776 S, wg_778 S, wp_778 S, wg_779 S, wp_779 S, wg_780 S, wp_780 S, wg_781 S, wp_781 S, wg_782 S, wp_782 S, wg_783 S, wp_783 S, wg_784 S, wp_784 S, wg_788 S, wp_788 S, wg_792 S, wp_792 S, wg_793 S, wp_793 S, wg_794 S, wp_794 S, wg_795 S, wp_795 S, wg_796 S, wp_796 S, wg_797 S, wp_797 S, wg_798 S, wp_798 S, wg_799 S, wp_799 S, wg_800 S, wp_800 S, wg_801 S, wp_801 S, wg_808 S, wp_808 S, wg_810 S, wp_810 S, mlF_o, M.2.1.1, M.2.1.2.1, M.2.1.2.2, m_lays S (M.ml _ _ _) O, mlF_ml, m_ans S M O, m_nte S M O, m_meant S (M.ml _ _ _), mlF_0, mlF_1, mlF_2, mlF_w, mlF_k, mlF_c, d_Model_isPeace_4_w5]
    exact ⟨(_, _, _), rfl, trivial⟩) true (w, u, v) trivial
  dsimp only at L1
  rw [if_pos rfl, Bool.true_and, show alB _ _ = peaB D p s from rfl] at L1
  refine ⟨t.1, t.2.1, t.2.2, ?_⟩
  rw [e_Model_isPeace, L1, e_Model_isPeace_4]
  simp (disch := omega) only [if_true, if_false, not_true_eq_false, not_false_eq_true, zoI_s, zoR_s, zoH_s, zoL_s, zbI_s, zbV_s, zbR_s, zbL_s, zif_dec, i32_0, ne_eq, i32_lt, i32_le, i32_eq, i32_add, i32_mul, i32_sub, i32_neg, zrz_0, zrz_1, zif_t, zif_f, zsF_s, zsF_k, zsF_a, zsC_s, zsC_a, zsC_i, zsW_s, zsW_a, Int.add_zero, Int.zero_add, true_and, false_and, and_false, Bool.false_eq_true, decide_true, decide_false, Bool.true_and, Bool.false_and, Bool.true_or, Bool.false_or, if_pos, if_neg, wv_72 S, wr_768 S, wr_769 S, wr_777 S, wr_785 S, wr_786 S, wr_787 S, wr_789 S, wr_790 S, wr_791 S, wr_802 S, wr_803 S, wr_804 S, wr_805 S, wr_806 S, wr_807 S, wr_809 S, wg_770 S, wp_770 S, wg_771 S, wp_771 S, wg_772 S, wp_772 S, wg_773 S, wp_773 S, wg_774 S, wp_774 S, wg_775 S, wp_775 S, wg_776 S, wp_776 S, wg_778 S, wp_778 S, wg_779 S, wp_779 S, wg_780 S, wp_780 S, wg_781 S, wp_781 S, wg_782 S, wp_782 S, wg_783 S, wp_783 S, wg_784 S, wp_784 S, wg_788 S, wp_788 S, wg_792 S, wp_792 S, wg_793 S, wp_793 S, wg_794 S, wp_794 S, wg_795 S, wp_795 S, wg_796 S, wp_796 S, wg_797 S, wp_797 S, wg_798 S, wp_798 S, wg_799 S, wp_799 S, wg_800 S, wp_800 S, wg_801 S, wp_801 S, wg_808 S, wp_808 S, wg_810 S, wp_810 S, mlF_o, M.2.1.1, M.2.1.2.1, M.2.1.2.2, m_lays S (M.ml _ _ _) O, mlF_ml, m_ans S M O, m_nte S M O, m_meant S (M.ml _ _ _), mlF_0, mlF_1, mlF_2, mlF_w, mlF_k, mlF_c, zrz_b]
theorem m_peaceL (S : St h) (M : moV F C D) (O : dOK D) {d p b : Int} (p0 : 0 ≤ p) (p1 : p < D 1) (hb : inI b) : ∃ w u c, zr 267 14 [yR (some 72), yI (i32 d), yI (i32 p), yI (i32 b), yI (i32 0), yI (i32 1)] [] (zw h F C) = some (zI (i32 (if b = 0 then bitsS (peaS D p) else peaS D p)), zw h (mlF F w u c) C) := by
  have b0 := O.1
  have q1 := pw_6 (n := D 0) (by omega)
  have q2 := pw_le (n := D 0) (by omega)
  unfold inI at hb
  obtain ⟨t, L1, _⟩ := zfoJ (fun s x (t : Int × Int × Int) => zr 267 14 [yR (some 72), yI (i32 d), yI (i32 p), yI (i32 b), yI (i32 x), yI (i32 s)] [] (zw h (mlF F t.1 t.2.1 t.2.2) C)) (peaF D p) (fun k s _ => 0 ≤ s ∧ s ≤ k ∧ s < 2 ^ (D 0).toNat) 1 (2 ^ (D 0).toNat) (by omega) (fun s x t s0 s1 hi => by
    obtain ⟨w', u', v', e⟩ := m_isPeace S M O p0 p1 (s := s) (by omega) (by omega) t.1 t.2.1 t.2.2
    have g3 := bitsS_rng s
    have g4 := bitsS_rng x
    by_cases cc : bitsS x < bitsS s
    · refine ⟨(w', u', v'), ?_, peaF_I s x (by omega) s1 hi⟩
      rw [e_Model_peace_14]
      unfold peaF
      cases cs : peaB D p s with
      | true =>
        rw [if_pos ⟨cc, rfl⟩]
        rw [cs] at e
        simp (disch := omega) only [if_true, if_false, not_true_eq_false, not_false_eq_true, zoI_s, zoR_s, zoH_s, zoL_s, zbI_s, zbV_s, zbR_s, zbL_s, zif_dec, i32_0, ne_eq, i32_lt, i32_le, i32_eq, i32_add, i32_mul, i32_sub, i32_neg, zrz_0, zrz_1, zif_t, zif_f, zsF_s, zsF_k, zsF_a, zsC_s, zsC_a, zsC_i, zsW_s, zsW_a, Int.add_zero, Int.zero_add, true_and, false_and, and_false, Bool.false_eq_true, decide_true, decide_false, Bool.true_and, Bool.false_and, Bool.true_or, Bool.false_or, if_pos, if_neg, wv_72 S, wr_768 S, wr_769 S, wr_777 S, wr_785 S, wr_786 S, wr_787 S, wr_789 S, wr_790 S, wr_791 S, wr_802 S, wr_803 S, wr_804 S, wr_805 S, wr_806 S, wr_807 S, wr_809 S, wg_770 S, wp_770 S, wg_771 S, wp_771 S, wg_772 S, wp_772 S, wg_773 S, wp_773 S, wg_774 S, wp_774 S, wg_775 S, wp_775 S, wg_776 S, wp_776 S, wg_778 S, wp_778 S, wg_779 S, wp_779 S, wg_780 S, wp_780 S, wg_781 S, wp_781 S, wg_782 S, wp_782 S, wg_783 S, wp_783 S, wg_784 S, wp_784 S, wg_788 S, wp_788 S, wg_792 S, wp_792 S, wg_793 S, wp_793 S, wg_794 S, wp_794 S, wg_795 S, wp_795 S, wg_796 S, wp_796 S, wg_797 S, wp_797 S, wg_798 S, wp_798 S, wg_799 S, wp_799 S, wg_800 S, wp_800 S, wg_801 S, wp_801 S, wg_808 S, wp_808 S, wg_810 S, wp_810 S, mlF_o, M.2.1.1, M.2.1.2.1, M.2.1.2.2, m_lays S (M.ml _ _ _) O, mlF_ml, m_ans S M O, m_nte S M O, m_meant S (M.ml _ _ _), mlF_0, mlF_1, mlF_2, mlF_w, mlF_k, mlF_c, b_pow, e, m_bitsOf]
      | false =>
        rw [if_neg (fun z => by cases z.2)]
        rw [cs] at e
        simp (disch := omega) only [if_true, if_false, not_true_eq_false, not_false_eq_true, zoI_s, zoR_s, zoH_s, zoL_s, zbI_s, zbV_s, zbR_s, zbL_s, zif_dec, i32_0, ne_eq, i32_lt, i32_le, i32_eq, i32_add, i32_mul, i32_sub, i32_neg, zrz_0, zrz_1, zif_t, zif_f, zsF_s, zsF_k, zsF_a, zsC_s, zsC_a, zsC_i, zsW_s, zsW_a, Int.add_zero, Int.zero_add, true_and, false_and, and_false, Bool.false_eq_true, decide_true, decide_false, Bool.true_and, Bool.false_and, Bool.true_or, Bool.false_or, if_pos, if_neg, wv_72 S, wr_768 S, wr_769 S, wr_777 S, wr_785 S, wr_786 S, wr_787 S, wr_789 S, wr_790 S, wr_791 S, wr_802 S, wr_803 S, wr_804 S, wr_805 S, wr_806 S, wr_807 S, wr_809 S, wg_770 S, wp_770 S, wg_771 S, wp_771 S, wg_772 S, wp_772 S, wg_773 S, wp_773 S, wg_774 S, wp_774 S, wg_775 S, wp_775 S, wg_776 S, wp_776 S, wg_778 S, wp_778 S, wg_779 S, wp_779 S, wg_780 S, wp_780 S, wg_781 S, wp_781 S, wg_782 S, wp_782 S, wg_783 S, wp_783 S, wg_784 S, wp_784 S, wg_788 S, wp_788 S, wg_792 S, wp_792 S, wg_793 S, wp_793 S, wg_794 S, wp_794 S, wg_795 S, wp_795 S, wg_796 S, wp_796 S, wg_797 S, wp_797 S, wg_798 S, wp_798 S, wg_799 S, wp_799 S, wg_800 S, wp_800 S, wg_801 S, wp_801 S, wg_808 S, wp_808 S, wg_810 S, wp_810 S, mlF_o, M.2.1.1, M.2.1.2.1, M.2.1.2.2, m_lays S (M.ml _ _ _) O, mlF_ml, m_ans S M O, m_nte S M O, m_meant S (M.ml _ _ _), mlF_0, mlF_1, mlF_2, mlF_w, mlF_k, mlF_c, b_pow, e, m_bitsOf]
    · refine ⟨t, ?_, peaF_I s x (by omega) s1 hi⟩
      rw [e_Model_peace_14]
      unfold peaF
      rw [if_neg (fun z => cc z.1)]
      simp (disch := omega) only [if_true, if_false, not_true_eq_false, not_false_eq_true, zoI_s, zoR_s, zoH_s, zoL_s, zbI_s, zbV_s, zbR_s, zbL_s, zif_dec, i32_0, ne_eq, i32_lt, i32_le, i32_eq, i32_add, i32_mul, i32_sub, i32_neg, zrz_0, zrz_1, zif_t, zif_f, zsF_s, zsF_k, zsF_a, zsC_s, zsC_a, zsC_i, zsW_s, zsW_a, Int.add_zero, Int.zero_add, true_and, false_and, and_false, Bool.false_eq_true, decide_true, decide_false, Bool.true_and, Bool.false_and, Bool.true_or, Bool.false_or, if_pos, if_neg, wv_72 S, wr_768 S, wr_769 S, wr_777 S, wr_785 S, wr_786 S, wr_787 S, wr_789 S, wr_790 S, wr_791 S, wr_802 S, wr_803 S, wr_804 S, wr_805 S, wr_806 S, wr_807 S, wr_809 S, wg_770 S, wp_770 S, wg_771 S, wp_771 S, wg_772 S, wp_772 S, wg_773 S, wp_773 S, wg_774 S, wp_774 S, wg_775 S, wp_775 S, wg_776 S, wp_776 S, wg_778 S, wp_778 S, wg_779 S, wp_779 S, wg_780 S, wp_780 S, wg_781 S, wp_781 S, wg_782 S, wp_782 S, wg_783 S, wp_783 S, wg_784 S, wp_784 S, wg_788 S, wp_788 S, wg_792 S, wp_792 S, wg_793 S, wp_793 S, wg_794 S, wp_794 S, wg_795 S, wp_795 S, wg_796 S, wp_796 S, wg_797 S, wp_797 S, wg_798 S, wp_798 S, wg_799 S, wp_799 S, wg_800 S, wp_800 S, wg_801 S, wp_801 S, wg_808 S, wp_808 S, wg_810 S, wp_810 S, mlF_o, M.2.1.1, M.2.1.2.1, M.2.1.2.2, m_lays S (M.ml _ _ _) O, mlF_ml, m_ans S M O, m_nte S M O, m_meant S (M.ml _ _ _), mlF_0, mlF_1, mlF_2, mlF_w, mlF_k, mlF_c, b_pow, m_bitsOf]) 0 (F 782 72, F 783 72, F 784 72) (by omega)
  have e0 : foldF (peaF D p) 1 (2 ^ (D 0).toNat - 1 : Int).toNat 0 = peaS D p := by
    unfold peaS
    rw [show (2 ^ (D 0).toNat : Int).toNat = (2 ^ (D 0).toNat - 1 : Int).toNat + 1 by omega, foldF, show peaF D p 0 0 = 0 by unfold peaF; rw [if_neg (fun z => Int.lt_irrefl _ z.1)]]
    rfl
  dsimp only at L1
  rw [mlF_id, e0] at L1
  have g := peaS_rng O p
  refine ⟨t.1, t.2.1, t.2.2, ?_⟩
  rw [L1, e_Model_peace_14]
  by_cases c2 : b = 0
  · simp (disch := omega) only [if_true, if_false, not_true_eq_false, not_false_eq_true, zoI_s, zoR_s, zoH_s, zoL_s, zbI_s, zbV_s, zbR_s, zbL_s, zif_dec, i32_0, ne_eq, i32_lt, i32_le, i32_eq, i32_add, i32_mul, i32_sub, i32_neg, zrz_0, zrz_1, zif_t, zif_f, zsF_s, zsF_k, zsF_a, zsC_s, zsC_a, zsC_i, zsW_s, zsW_a, Int.add_zero, Int.zero_add, true_and, false_and, and_false, Bool.false_eq_true, decide_true, decide_false, Bool.true_and, Bool.false_and, Bool.true_or, Bool.false_or, if_pos, if_neg, wv_72 S, wr_768 S, wr_769 S, wr_777 S, wr_785 S, wr_786 S, wr_787 S, wr_789 S, wr_790 S, wr_791 S, wr_802 S, wr_803 S, wr_804 S, wr_805 S, wr_806 S, wr_807 S, wr_809 S, wg_770 S, wp_770 S, wg_771 S, wp_771 S, wg_772 S, wp_772 S, wg_773 S, wp_773 S, wg_774 S, wp_774 S, wg_775 S, wp_775 S, wg_776 S, wp_776 S, wg_778 S, wp_778 S, wg_779 S, wp_779 S, wg_780 S, wp_780 S, wg_781 S, wp_781 S, wg_782 S, wp_782 S, wg_783 S, wp_783 S, wg_784 S, wp_784 S, wg_788 S, wp_788 S, wg_792 S, wp_792 S, wg_793 S, wp_793 S, wg_794 S, wp_794 S, wg_795 S, wp_795 S, wg_796 S, wp_796 S, wg_797 S, wp_797 S, wg_798 S, wp_798 S, wg_799 S, wp_799 S, wg_800 S, wp_800 S, wg_801 S, wp_801 S, wg_808 S, wp_808 S, wg_810 S, wp_810 S, mlF_o, M.2.1.1, M.2.1.2.1, M.2.1.2.2, m_lays S (M.ml _ _ _) O, mlF_ml, m_ans S M O, m_nte S M O, m_meant S (M.ml _ _ _), mlF_0, mlF_1, mlF_2, mlF_w, mlF_k, mlF_c, b_pow, m_bitsOf]
  · simp (disch := omega) only [if_true, if_false, not_true_eq_false, not_false_eq_true, zoI_s, zoR_s, zoH_s, zoL_s, zbI_s, zbV_s, zbR_s, zbL_s, zif_dec, i32_0, ne_eq, i32_lt, i32_le, i32_eq, i32_add, i32_mul, i32_sub, i32_neg, zrz_0, zrz_1, zif_t, zif_f, zsF_s, zsF_k, zsF_a, zsC_s, zsC_a, zsC_i, zsW_s, zsW_a, Int.add_zero, Int.zero_add, true_and, false_and, and_false, Bool.false_eq_true, decide_true, decide_false, Bool.true_and, Bool.false_and, Bool.true_or, Bool.false_or, if_pos, if_neg, wv_72 S, wr_768 S, wr_769 S, wr_777 S, wr_785 S, wr_786 S, wr_787 S, wr_789 S, wr_790 S, wr_791 S, wr_802 S, wr_803 S, wr_804 S, wr_805 S, wr_806 S, wr_807 S, wr_809 S, wg_770 S, wp_770 S, wg_771 S, wp_771 S, wg_772 S, wp_772 S, wg_773 S, wp_773 S, wg_774 S, wp_774 S, wg_775 S, wp_775 S, wg_776 S, wp_776 S, wg_778 S, wp_778 S, wg_779 S, wp_779 S, wg_780 S, wp_780 S, wg_781 S, wp_781 S, wg_782 S, wp_782 S, wg_783 S, wp_783 S, wg_784 S, wp_784 S, wg_788 S, wp_788 S, wg_792 S, wp_792 S, wg_793 S, wp_793 S, wg_794 S, wp_794 S, wg_795 S, wp_795 S, wg_796 S, wp_796 S, wg_797 S, wp_797 S, wg_798 S, wp_798 S, wg_799 S, wp_799 S, wg_800 S, wp_800 S, wg_801 S, wp_801 S, wg_808 S, wp_808 S, wg_810 S, wp_810 S, mlF_o, M.2.1.1, M.2.1.2.1, M.2.1.2.2, m_lays S (M.ml _ _ _) O, mlF_ml, m_ans S M O, m_nte S M O, m_meant S (M.ml _ _ _), mlF_0, mlF_1, mlF_2, mlF_w, mlF_k, mlF_c, b_pow, m_bitsOf]
end A13
theorem c_peace {d p b : Int} (hd : inI d) (hp : inI p) (hb : inI b) : ans1 176 0 [zI (i32 d), zI (i32 p), zI (i32 b)] (fun A => zI (i32 (peaceQ A d p b))) := by
  intro h F C Q
  have S := Q.1
  unfold inI at hd hp hb
  unfold peaceQ
  by_cases c1 : 0 ≤ d ∧ d < C 73 0
  · have H := Q.dS c1.1 c1.2
    have V := Q.dV c1.1 c1.2
    have O := Q.dO c1.1 c1.2
    have ha : 8 + 13 * d.toNat ≤ 28 := by have := Q.2.2.1.1; omega
    by_cases g1 : 0 ≤ p ∧ p < (dOf (C 73) d) 1
    · skip
      obtain ⟨f, e⟩ := c_mostPeaceful (F := F) (C := C) S H V O ha g1.1 g1.2
      have g := peaS_rng O p
      refine ⟨F, _, ?_, tq.rfl.sW (a := 71) (f := f) (by omega) (by omega)⟩
      by_cases c3 : b = 0
      · simp (disch := omega) only [if_true, if_false, not_true_eq_false, not_false_eq_true, zoI_s, zoR_s, zoH_s, zoL_s, zbI_s, zbV_s, zbR_s, zbL_s, zif_dec, i32_0, ne_eq, i32_lt, i32_le, i32_eq, i32_add, i32_mul, i32_sub, i32_neg, zrz_0, zrz_1, zif_t, zif_f, zsF_s, zsF_k, zsF_a, zsC_s, zsC_a, zsC_i, zsW_s, zsW_a, Int.add_zero, Int.zero_add, true_and, false_and, and_false, Bool.false_eq_true, decide_true, decide_false, Bool.true_and, Bool.false_and, Bool.true_or, Bool.false_or, if_pos, if_neg, wv_0 S, wr_704 S, wr_705 S, wr_706 S, wr_707 S, wr_708 S, wr_709 S, wr_710 S, wr_711 S, wv_68 S, wr_384 S, wr_385 S, wr_386 S, tv_1 S, dv H, dg_128 H, dp_128 H, dg_129 H, dp_129 H, dg_130 H, dp_130 H, dg_131 H, dp_131 H, dr_132 H, da_132 H, dr_133 H, da_133 H, dr_134 H, da_134 H, dr_135 H, da_135 H, dr_136 H, da_136 H, dr_137 H, da_137 H, c_dAt Q, Option.isNone_some, Option.isSome_some, c_hasReed H V O, c_hasPlayer H V O, c_hasQuestion H V O, c_hasAll H V O, c_isAnswer, c_within, ib_0, e_Main_peace, e, c_bitCount]
      · simp (disch := omega) only [if_true, if_false, not_true_eq_false, not_false_eq_true, zoI_s, zoR_s, zoH_s, zoL_s, zbI_s, zbV_s, zbR_s, zbL_s, zif_dec, i32_0, ne_eq, i32_lt, i32_le, i32_eq, i32_add, i32_mul, i32_sub, i32_neg, zrz_0, zrz_1, zif_t, zif_f, zsF_s, zsF_k, zsF_a, zsC_s, zsC_a, zsC_i, zsW_s, zsW_a, Int.add_zero, Int.zero_add, true_and, false_and, and_false, Bool.false_eq_true, decide_true, decide_false, Bool.true_and, Bool.false_and, Bool.true_or, Bool.false_or, if_pos, if_neg, wv_0 S, wr_704 S, wr_705 S, wr_706 S, wr_707 S, wr_708 S, wr_709 S, wr_710 S, wr_711 S, wv_68 S, wr_384 S, wr_385 S, wr_386 S, tv_1 S, dv H, dg_128 H, dp_128 H, dg_129 H, dp_129 H, dg_130 H, dp_130 H, dg_131 H, dp_131 H, dr_132 H, da_132 H, dr_133 H, da_133 H, dr_134 H, da_134 H, dr_135 H, da_135 H, dr_136 H, da_136 H, dr_137 H, da_137 H, c_dAt Q, Option.isNone_some, Option.isSome_some, c_hasReed H V O, c_hasPlayer H V O, c_hasQuestion H V O, c_hasAll H V O, c_isAnswer, c_within, ib_0, e_Main_peace, e, c_bitCount]
    · refine ⟨_, C, ?_, tq.rfl⟩
      simp (disch := omega) only [if_true, if_false, not_true_eq_false, not_false_eq_true, zoI_s, zoR_s, zoH_s, zoL_s, zbI_s, zbV_s, zbR_s, zbL_s, zif_dec, i32_0, ne_eq, i32_lt, i32_le, i32_eq, i32_add, i32_mul, i32_sub, i32_neg, zrz_0, zrz_1, zif_t, zif_f, zsF_s, zsF_k, zsF_a, zsC_s, zsC_a, zsC_i, zsW_s, zsW_a, Int.add_zero, Int.zero_add, true_and, false_and, and_false, Bool.false_eq_true, decide_true, decide_false, Bool.true_and, Bool.false_and, Bool.true_or, Bool.false_or, if_pos, if_neg, wv_0 S, wr_704 S, wr_705 S, wr_706 S, wr_707 S, wr_708 S, wr_709 S, wr_710 S, wr_711 S, wv_68 S, wr_384 S, wr_385 S, wr_386 S, tv_1 S, dv H, dg_128 H, dp_128 H, dg_129 H, dp_129 H, dg_130 H, dp_130 H, dg_131 H, dp_131 H, dr_132 H, da_132 H, dr_133 H, da_133 H, dr_134 H, da_134 H, dr_135 H, da_135 H, dr_136 H, da_136 H, dr_137 H, da_137 H, c_dAt Q, Option.isNone_some, Option.isSome_some, c_hasReed H V O, c_hasPlayer H V O, c_hasQuestion H V O, c_hasAll H V O, c_isAnswer, c_within, ib_0, e_Main_peace]
      all_goals (split <;> rfl)
  · refine ⟨_, C, ?_, tq.rfl⟩
    simp (disch := omega) only [if_true, if_false, not_true_eq_false, not_false_eq_true, zoI_s, zoR_s, zoH_s, zoL_s, zbI_s, zbV_s, zbR_s, zbL_s, zif_dec, i32_0, ne_eq, i32_lt, i32_le, i32_eq, i32_add, i32_mul, i32_sub, i32_neg, zrz_0, zrz_1, zif_t, zif_f, zsF_s, zsF_k, zsF_a, zsC_s, zsC_a, zsC_i, zsW_s, zsW_a, Int.add_zero, Int.zero_add, true_and, false_and, and_false, Bool.false_eq_true, decide_true, decide_false, Bool.true_and, Bool.false_and, Bool.true_or, Bool.false_or, if_pos, if_neg, wv_0 S, wr_704 S, wr_705 S, wr_706 S, wr_707 S, wr_708 S, wr_709 S, wr_710 S, wr_711 S, tv_1 S, c_dAt0 Q, Option.isNone_none, Option.isSome_none, e_Main_peace]
theorem m_peace {d p b : Int} (hd : inI d) (hp : inI p) (hb : inI b) : ans1 267 72 [zI (i32 d), zI (i32 p), zI (i32 b)] (fun A => zI (i32 (peaceQ A d p b))) := by
  intro h F C Q
  have S := Q.1
  unfold inI at hd hp hb
  unfold peaceQ
  by_cases c1 : 0 ≤ d ∧ d < C 73 0
  · have M := miF_V Q c1.1 c1.2
    have O := Q.dO c1.1 c1.2
    by_cases g1 : 0 ≤ p ∧ p < (dOf (C 73) d) 1
    · skip
      obtain ⟨w, u, c, e⟩ := m_peaceL S M O (d := d) (b := b) g1.1 g1.2 hb
      refine ⟨_, C, ?_, (miF_tq d).ml w u c⟩
      simp (disch := omega) only [if_true, if_false, not_true_eq_false, not_false_eq_true, zoI_s, zoR_s, zoH_s, zoL_s, zbI_s, zbV_s, zbR_s, zbL_s, zif_dec, i32_0, ne_eq, i32_lt, i32_le, i32_eq, i32_add, i32_mul, i32_sub, i32_neg, zrz_0, zrz_1, zif_t, zif_f, zsF_s, zsF_k, zsF_a, zsC_s, zsC_a, zsC_i, zsW_s, zsW_a, Int.add_zero, Int.zero_add, true_and, false_and, and_false, Bool.false_eq_true, decide_true, decide_false, Bool.true_and, Bool.false_and, Bool.true_or, Bool.false_or, if_pos, if_neg, wv_72 S, wr_768 S, wr_769 S, wr_777 S, wr_785 S, wr_786 S, wr_787 S, wr_789 S, wr_790 S, wr_791 S, wr_802 S, wr_803 S, wr_804 S, wr_805 S, wr_806 S, wr_807 S, wr_809 S, wg_770 S, wp_770 S, wg_771 S, wp_771 S, wg_772 S, wp_772 S, wg_773 S, wp_773 S, wg_774 S, wp_774 S, wg_775 S, wp_775 S, wg_776 S, wp_776 S, wg_778 S, wp_778 S, wg_779 S, wp_779 S, wg_780 S, wp_780 S, wg_781 S, wp_781 S, wg_782 S, wp_782 S, wg_783 S, wp_783 S, wg_784 S, wp_784 S, wg_788 S, wp_788 S, wg_792 S, wp_792 S, wg_793 S, wp_793 S, wg_794 S, wp_794 S, wg_795 S, wp_795 S, wg_796 S, wp_796 S, wg_797 S, wp_797 S, wg_798 S, wp_798 S, wg_799 S, wp_799 S, wg_800 S, wp_800 S, wg_801 S, wp_801 S, wg_808 S, wp_808 S, wg_810 S, wp_810 S, m_isD Q, m_isReed S M O, m_isPlayer S M O, m_isQuestion S M O, m_isIn, m_are3 Q, ib_0, e_Model_peace, e]
    · refine ⟨_, C, ?_, miF_tq d⟩
      simp (disch := omega) only [if_true, if_false, not_true_eq_false, not_false_eq_true, zoI_s, zoR_s, zoH_s, zoL_s, zbI_s, zbV_s, zbR_s, zbL_s, zif_dec, i32_0, ne_eq, i32_lt, i32_le, i32_eq, i32_add, i32_mul, i32_sub, i32_neg, zrz_0, zrz_1, zif_t, zif_f, zsF_s, zsF_k, zsF_a, zsC_s, zsC_a, zsC_i, zsW_s, zsW_a, Int.add_zero, Int.zero_add, true_and, false_and, and_false, Bool.false_eq_true, decide_true, decide_false, Bool.true_and, Bool.false_and, Bool.true_or, Bool.false_or, if_pos, if_neg, wv_72 S, wr_768 S, wr_769 S, wr_777 S, wr_785 S, wr_786 S, wr_787 S, wr_789 S, wr_790 S, wr_791 S, wr_802 S, wr_803 S, wr_804 S, wr_805 S, wr_806 S, wr_807 S, wr_809 S, wg_770 S, wp_770 S, wg_771 S, wp_771 S, wg_772 S, wp_772 S, wg_773 S, wp_773 S, wg_774 S, wp_774 S, wg_775 S, wp_775 S, wg_776 S, wp_776 S, wg_778 S, wp_778 S, wg_779 S, wp_779 S, wg_780 S, wp_780 S, wg_781 S, wp_781 S, wg_782 S, wp_782 S, wg_783 S, wp_783 S, wg_784 S, wp_784 S, wg_788 S, wp_788 S, wg_792 S, wp_792 S, wg_793 S, wp_793 S, wg_794 S, wp_794 S, wg_795 S, wp_795 S, wg_796 S, wp_796 S, wg_797 S, wp_797 S, wg_798 S, wp_798 S, wg_799 S, wp_799 S, wg_800 S, wp_800 S, wg_801 S, wp_801 S, wg_808 S, wp_808 S, wg_810 S, wp_810 S, m_isD Q, m_isReed S M O, m_isPlayer S M O, m_isQuestion S M O, m_isIn, m_are3 Q, ib_0, e_Model_peace]
      all_goals (split <;> rfl)
  · refine ⟨_, C, ?_, tq.rfl⟩
    simp (disch := omega) only [if_true, if_false, not_true_eq_false, not_false_eq_true, zoI_s, zoR_s, zoH_s, zoL_s, zbI_s, zbV_s, zbR_s, zbL_s, zif_dec, i32_0, ne_eq, i32_lt, i32_le, i32_eq, i32_add, i32_mul, i32_sub, i32_neg, zrz_0, zrz_1, zif_t, zif_f, zsF_s, zsF_k, zsF_a, zsC_s, zsC_a, zsC_i, zsW_s, zsW_a, Int.add_zero, Int.zero_add, true_and, false_and, and_false, Bool.false_eq_true, decide_true, decide_false, Bool.true_and, Bool.false_and, Bool.true_or, Bool.false_or, if_pos, if_neg, wv_72 S, wr_768 S, wr_769 S, wr_777 S, wr_785 S, wr_786 S, wr_787 S, wr_789 S, wr_790 S, wr_791 S, wr_802 S, wr_803 S, wr_804 S, wr_805 S, wr_806 S, wr_807 S, wr_809 S, wg_770 S, wp_770 S, wg_771 S, wp_771 S, wg_772 S, wp_772 S, wg_773 S, wp_773 S, wg_774 S, wp_774 S, wg_775 S, wp_775 S, wg_776 S, wp_776 S, wg_778 S, wp_778 S, wg_779 S, wp_779 S, wg_780 S, wp_780 S, wg_781 S, wp_781 S, wg_782 S, wp_782 S, wg_783 S, wp_783 S, wg_784 S, wp_784 S, wg_788 S, wp_788 S, wg_792 S, wp_792 S, wg_793 S, wp_793 S, wg_794 S, wp_794 S, wg_795 S, wp_795 S, wg_796 S, wp_796 S, wg_797 S, wp_797 S, wg_798 S, wp_798 S, wg_799 S, wp_799 S, wg_800 S, wp_800 S, wg_801 S, wp_801 S, wg_808 S, wp_808 S, wg_810 S, wp_810 S, m_isD0 Q, m_are30 Q, e_Model_peace]
