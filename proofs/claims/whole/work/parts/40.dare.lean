/-! dare: sets of questions that were asked -/
def lstB (D : Int → Int) (r p : Int) (k q : Int) : Bool := decide (noteS D (driS (D (4 + 2 * r)) k) (D (5 + 2 * r)) (D 3) p q ≤ 0)
def darV (L : Int → Int → Bool) (W : Int → Int) (s q : Int) : Int := if L (bitsS s) q = true then -1 else -(W (orI s q))
def mxF (v : Int → Int) (s : Int) (q b : Int) : Int := if bitI s q = 1 then b else if b < v q then v q else b
def darW (L : Int → Int → Bool) (n : Int) : Nat → Int → Int
  | 0, _ => 0
  | j + 1, s => foldF (mxF (darV L (darW L n j) s) s) 0 n.toNat (-1)
def darS (L : Int → Int → Bool) (n s : Int) : Int := darW L n (n - bitsS s).toNat s
theorem fold_cg {A : Type} {f g : Int → A → A} : ∀ (j : Nat) (k : Int) (a : A), (∀ i a, k ≤ i → i < k + j → f i a = g i a) → foldF f k j a = foldF g k j a := by
  intro j
  induction j with
  | zero => intro k a _; rfl
  | succ j ih =>
    intro k a h
    rw [foldF, foldF, h k a (by omega) (by omega), ih (k + 1) _ (fun i a h1 h2 => h i a (by omega) (by omega))]
theorem bits_or9 {s r : Int} (s0 : 0 ≤ s) (s1 : s < 512) (r0 : 0 ≤ r) (r1 : r < 9) (h : bitI s r = 0) : bitsS (orI s r) = bitsS s + 1 := by
  rw [bitsS_eq, bitsS_eq, bitI_or s0 s1 r0 (by omega) (by omega) (by omega), bitI_or s0 s1 r0 (by omega) (by omega) (by omega), bitI_or s0 s1 r0 (by omega) (by omega) (by omega), bitI_or s0 s1 r0 (by omega) (by omega) (by omega), bitI_or s0 s1 r0 (by omega) (by omega) (by omega), bitI_or s0 s1 r0 (by omega) (by omega) (by omega), bitI_or s0 s1 r0 (by omega) (by omega) (by omega), bitI_or s0 s1 r0 (by omega) (by omega) (by omega), bitI_or s0 s1 r0 (by omega) (by omega) (by omega)]
  rcases (show r = 0 ∨ r = 1 ∨ r = 2 ∨ r = 3 ∨ r = 4 ∨ r = 5 ∨ r = 6 ∨ r = 7 ∨ r = 8 by omega) with rfl | rfl | rfl | rfl | rfl | rfl | rfl | rfl | rfl <;> simp (decide := true) only [if_true, if_false] <;> omega
theorem bits_n_t : ∀ n : Nat, n < 9 → ∀ s : Nat, s < 2 ^ n → (s / 2 ^ 0 % 2 + s / 2 ^ 1 % 2 + s / 2 ^ 2 % 2 + s / 2 ^ 3 % 2 + s / 2 ^ 4 % 2 + s / 2 ^ 5 % 2 + s / 2 ^ 6 % 2 + s / 2 ^ 7 % 2 + s / 2 ^ 8 % 2 ≤ n ∧ (s + 1 = 2 ^ n ↔ s / 2 ^ 0 % 2 + s / 2 ^ 1 % 2 + s / 2 ^ 2 % 2 + s / 2 ^ 3 % 2 + s / 2 ^ 4 % 2 + s / 2 ^ 5 % 2 + s / 2 ^ 6 % 2 + s / 2 ^ 7 % 2 + s / 2 ^ 8 % 2 = n)) := by decide +kernel
theorem bits_n {s n : Int} (s0 : 0 ≤ s) (n0 : 0 ≤ n) (n1 : n ≤ 8) (s1 : s < 2 ^ n.toNat) : bitsS s ≤ n ∧ (s = 2 ^ n.toNat - 1 ↔ bitsS s = n) := by
  obtain ⟨s, rfl⟩ := Int.eq_ofNat_of_zero_le s0
  obtain ⟨n, rfl⟩ := Int.eq_ofNat_of_zero_le n0
  rw [Int.toNat_natCast, show (2 : Int) ^ n = ((2 ^ n : Nat) : Int) by rw [Int.natCast_pow]; rfl] at s1 ⊢
  have t := bits_n_t n (by omega) s (by omega)
  have e2 : bitsS (s : Int) = ((s / 2 ^ 0 % 2 + s / 2 ^ 1 % 2 + s / 2 ^ 2 % 2 + s / 2 ^ 3 % 2 + s / 2 ^ 4 % 2 + s / 2 ^ 5 % 2 + s / 2 ^ 6 % 2 + s / 2 ^ 7 % 2 + s / 2 ^ 8 % 2 : Nat) : Int) := by
    have e := fun r : Nat => bitI_nat s r
    rw [bitsS_eq, show bitI (s : Int) 0 = _ from e 0, show bitI (s : Int) 1 = _ from e 1, show bitI (s : Int) 2 = _ from e 2, show bitI (s : Int) 3 = _ from e 3, show bitI (s : Int) 4 = _ from e 4, show bitI (s : Int) 5 = _ from e 5, show bitI (s : Int) 6 = _ from e 6, show bitI (s : Int) 7 = _ from e 7, show bitI (s : Int) 8 = _ from e 8]
    simp only [Int.natCast_add]
  rw [e2]
  generalize (s / 2 ^ 0 % 2 + s / 2 ^ 1 % 2 + s / 2 ^ 2 % 2 + s / 2 ^ 3 % 2 + s / 2 ^ 4 % 2 + s / 2 ^ 5 % 2 + s / 2 ^ 6 % 2 + s / 2 ^ 7 % 2 + s / 2 ^ 8 % 2) = m at t ⊢
  have h2 : 0 < 2 ^ n := Nat.pow_pos (by omega)
  obtain ⟨t1, t2⟩ := t
  generalize 2 ^ n = N at t2 s1 h2 ⊢
  refine ⟨by omega, fun h => ?_, fun h => ?_⟩
  · have := t2.mp (by omega); omega
  · have := t2.mpr (by omega); omega
theorem free_q {s n : Int} (s0 : 0 ≤ s) (n0 : 0 ≤ n) (n1 : n ≤ 8) (s1 : s < 2 ^ n.toNat) (h : s ≠ 2 ^ n.toNat - 1) : ∃ q, 0 ≤ q ∧ q < n ∧ bitI s q = 0 := by
  refine Classical.byContradiction (fun hc => h ?_)
  have p8 := pw_8 (n := n) n1
  refine (setB.self s0 (by omega)).ext (setB.full n0 n1) (fun t t0 t1 => ?_)
  by_cases c : t < n
  · rw [decide_eq_true c]
    rcases bitI_01 s t with z | z
    · exact absurd ⟨t, t0, c, z⟩ hc
    · rw [decide_eq_true z]
  · rw [decide_eq_false c, bitI_hi (n := n) s0 s1 n0 (by omega) (by omega) (by omega)]; rfl
theorem full_q {n : Int} (n0 : 0 ≤ n) (n1 : n ≤ 8) {q : Int} (q0 : 0 ≤ q) (q1 : q < n) : bitI (2 ^ n.toNat - 1) q = 1 := bitI_full q0 q1 (by omega)
theorem orI_gt {s r : Int} (h : bitI s r = 0) : s < orI s r := by
  unfold orI
  rw [if_neg (by omega)]
  have h2 : 0 < 2 ^ r.toNat := Nat.pow_pos (by omega)
  have : (0 : Int) < 2 ^ r.toNat := by rw [show (2 : Int) ^ r.toNat = ((2 ^ r.toNat : Nat) : Int) by rw [Int.natCast_pow]; rfl]; omega
  omega
theorem mx_spec (v : Int → Int) (s lo : Int) (n : Int) (n0 : 0 ≤ n) (hv : ∀ q, lo ≤ v q) : (lo ≤ foldF (mxF v s) 0 n.toNat lo) ∧ (∀ q, 0 ≤ q → q < n → bitI s q ≠ 1 → v q ≤ foldF (mxF v s) 0 n.toNat lo) ∧ (foldF (mxF v s) 0 n.toNat lo = lo ∨ ∃ q, 0 ≤ q ∧ q < n ∧ bitI s q ≠ 1 ∧ v q = foldF (mxF v s) 0 n.toNat lo) := by
  have := foldI (mxF v s) (fun k b => lo ≤ b ∧ (∀ q, 0 ≤ q → q < k → bitI s q ≠ 1 → v q ≤ b) ∧ (b = lo ∨ ∃ q, 0 ≤ q ∧ q < k ∧ bitI s q ≠ 1 ∧ v q = b)) 0 n n0 (fun k b k0 k1 hi => by
    obtain ⟨h1, h2, h3⟩ := hi
    unfold mxF
    by_cases c : bitI s k = 1
    · rw [if_pos c]
      refine ⟨h1, fun q q0 q1 hq => ?_, h3.imp id ?_⟩
      · by_cases e : q = k
        · rw [e] at hq; exact absurd c hq
        · exact h2 q q0 (by omega) hq
      · rintro ⟨q, q0, q1, q2, q3⟩; exact ⟨q, q0, by omega, q2, q3⟩
    · rw [if_neg c]
      by_cases c2 : b < v k
      · rw [if_pos c2]
        refine ⟨by omega, fun q q0 q1 hq => ?_, Or.inr ⟨k, k0, by omega, c, rfl⟩⟩
        by_cases e : q = k
        · rw [e]; omega
        · have := h2 q q0 (by omega) hq; omega
      · rw [if_neg c2]
        refine ⟨h1, fun q q0 q1 hq => ?_, h3.imp id ?_⟩
        · by_cases e : q = k
          · rw [e]; omega
          · exact h2 q q0 (by omega) hq
        · rintro ⟨q, q0, q1, q2, q3⟩; exact ⟨q, q0, by omega, q2, q3⟩) lo ⟨by omega, fun q _ _ => by omega, Or.inl rfl⟩
  rw [Int.sub_zero] at this
  exact this
theorem darW_rng (L : Int → Int → Bool) (n : Int) (n0 : 0 ≤ n) : ∀ (j : Nat) (s : Int), -1 ≤ darW L n j s ∧ darW L n j s ≤ 1 := by
  intro j
  induction j with
  | zero => intro s; rw [darW]; omega
  | succ j ih =>
    intro s
    rw [darW]
    have hv : ∀ q, -1 ≤ darV L (darW L n j) s q ∧ darV L (darW L n j) s q ≤ 1 := by
      intro q
      unfold darV
      have := ih (orI s q)
      split <;> omega
    obtain ⟨h1, h2, h3⟩ := mx_spec (darV L (darW L n j) s) s (-1) n n0 (fun q => (hv q).1)
    refine ⟨h1, ?_⟩
    rcases h3 with h3 | ⟨q, _, _, _, h3⟩
    · omega
    · rw [← h3]; exact (hv q).2
theorem darS_rng (L : Int → Int → Bool) {n : Int} (n0 : 0 ≤ n) (s : Int) : -1 ≤ darS L n s ∧ darS L n s ≤ 1 := darW_rng L n n0 _ s
theorem darV_rng (L : Int → Int → Bool) {n : Int} (n0 : 0 ≤ n) (s q : Int) : -1 ≤ darV L (darS L n) s q ∧ darV L (darS L n) s q ≤ 1 := by
  unfold darV
  have := darS_rng L n0 (orI s q)
  split <;> omega
theorem darS_full (L : Int → Int → Bool) {n : Int} (n0 : 0 ≤ n) (n1 : n ≤ 8) : darS L n (2 ^ n.toNat - 1) = 0 := by
  have p1 := pw_le (n := n) (by omega)
  unfold darS
  rw [((bits_n (s := 2 ^ n.toNat - 1) (by omega) n0 n1 (by omega)).2).mp rfl, show (n - n).toNat = 0 by omega]
  rfl
theorem darS_eq (L : Int → Int → Bool) {n s : Int} (n0 : 0 ≤ n) (n1 : n ≤ 8) (s0 : 0 ≤ s) (s1 : s < 2 ^ n.toNat - 1) : darS L n s = foldF (mxF (darV L (darS L n) s) s) 0 n.toNat (-1) := by
  have p8 := pw_8 (n := n) n1
  have b := bits_n (s := s) s0 n0 n1 (by omega)
  have b2 : bitsS s ≠ n := fun z => by have := b.2.mpr z; omega
  have b3 := bitsS_rng s
  have hs : darS L n s = darW L n ((n - bitsS s - 1).toNat + 1) s := by unfold darS; rw [show (n - bitsS s).toNat = (n - bitsS s - 1).toNat + 1 by omega]
  rw [hs, darW]
  refine fold_cg _ _ _ (fun q b q0 q1 => ?_)
  unfold mxF
  by_cases c : bitI s q = 1
  · rw [if_pos c, if_pos c]
  · rw [if_neg c, if_neg c]
    have e : darV L (darW L n (n - bitsS s - 1).toNat) s q = darV L (darS L n) s q := by
      unfold darV darS
      rw [bits_or9 s0 (by omega) q0 (by omega) ((bitI_01 s q).resolve_right c), show (n - (bitsS s + 1)).toNat = (n - bitsS s - 1).toNat by omega]
    rw [e]
def dareS (L : Int → Int → Bool) (n b : Int) : Int := if b = 0 then (if darS L n 0 = 1 then 1 else if darS L n 0 = 0 then 2 else 0) else fstF (fun q => decide (darV L (darS L n) 0 q = darS L n 0)) 0 n.toNat
section A16
variable {h : zHeap} {F : Nat → Nat → Int} {C : Nat → Int → Int} {a : Nat} {D : Int → Int}
theorem c_findLost (S : St h) (H : duS h a) (V : duV F C a D) (O : dOK D) (ha : a ≤ 28) {r p : Int} (r0 : 0 ≤ r) (r1 : r < D 0) (p0 : 0 ≤ p) (p1 : p < D 1) : ∃ f, zc 63 [zR (some 60), zR (some a), zI (i32 r), zI (i32 p)] (zw h F C) = some (zI 0, zw h F (zsW C 64 f)) ∧ ∀ k, 0 ≤ k → k < D 2 → setB (f k) (fun q => decide (q < D 2) && lstB D r p k q) := by
  have b2 := O.2.2.1
  have L2 := fun k f0 (k0 : 0 ≤ k) (k1 : k < D 2) (h0 : f0 k = 0) => zinv (fun q f => zr 63 13 [yR (some 60), yR (some a), yI (i32 r), yI (i32 p), yI (i32 k), yI (i32 q)] [] (zw h F (zsW C 64 f))) (fun q f => setB (f k) (fun t => decide (t < q) && lstB D r p k t) ∧ ∀ j, j ≠ k → f j = f0 j) 0 (D 2) (by omega) (fun q f q0 q1 hi => by
    have j1 := hi.1.1
    have j2 := hi.1.2.1
    have g := noteS_rng (D := D) (w := driS (D (4 + 2 * r)) k) (k := D (5 + 2 * r)) (c := D 3) (p := p) (q := q)
    have V2 := V.sW (b := 64) f ha (by omega)
    by_cases c : noteS D (driS (D (4 + 2 * r)) k) (D (5 + 2 * r)) (D 3) p q ≤ 0
    · refine ⟨up1 f k (orI (f k) q), ?_, ?_, fun j hj => by rw [up1_n hj]; exact hi.2 j hj⟩
      · rw [e_Plans_findLost_13]
        simp (disch := omega) only [if_true, if_false, not_true_eq_false, not_false_eq_true, zoI_s, zoR_s, zoH_s, zoL_s, zbI_s, zbV_s, zbR_s, zbL_s, zif_dec, i32_0, ne_eq, i32_lt, i32_le, i32_eq, i32_add, i32_mul, i32_sub, i32_neg, zrz_0, zrz_1, zif_t, zif_f, zsF_s, zsF_k, zsF_a, zsC_s, zsC_a, zsC_i, zsW_s, zsW_a, Int.add_zero, Int.zero_add, true_and, false_and, and_false, Bool.false_eq_true, decide_true, decide_false, Bool.true_and, Bool.false_and, Bool.true_or, Bool.false_or, if_pos, if_neg, dv H, dg_128 H, dp_128 H, dg_129 H, dp_129 H, dg_130 H, dp_130 H, dg_131 H, dp_131 H, dr_132 H, da_132 H, dr_133 H, da_133 H, dr_134 H, da_134 H, dr_135 H, da_135 H, dr_136 H, da_136 H, dr_137 H, da_137 H, V.1.2.2.1, c_noteDried H V2 O, wv_60 S, wr_256 S, wr_257 S, wr_258 S, wr_259 S, wa_64 S, ws_64 S, b_or, zsC_W, zsW_W]
      · rw [up1_s]
        refine (hi.1.or1 q0 (by omega)).cg (fun t _ _ => ?_)
        have cl : lstB D r p k q = true := decide_eq_true c
        by_cases ct : t = q
        · rw [ct, cl, decide_eq_true (show q = q from rfl), decide_eq_true (show q < q + 1 by omega)]; simp
        · rw [decide_eq_false ct, Bool.or_false]
          by_cases c3 : t < q
          · rw [decide_eq_true c3, decide_eq_true (show t < q + 1 by omega)]
          · rw [decide_eq_false c3, decide_eq_false (show ¬ t < q + 1 by omega)]
    · refine ⟨f, ?_, hi.1.cg (fun t _ _ => ?_), hi.2⟩
      · rw [e_Plans_findLost_13]
        simp (disch := omega) only [if_true, if_false, not_true_eq_false, not_false_eq_true, zoI_s, zoR_s, zoH_s, zoL_s, zbI_s, zbV_s, zbR_s, zbL_s, zif_dec, i32_0, ne_eq, i32_lt, i32_le, i32_eq, i32_add, i32_mul, i32_sub, i32_neg, zrz_0, zrz_1, zif_t, zif_f, zsF_s, zsF_k, zsF_a, zsC_s, zsC_a, zsC_i, zsW_s, zsW_a, Int.add_zero, Int.zero_add, true_and, false_and, and_false, Bool.false_eq_true, decide_true, decide_false, Bool.true_and, Bool.false_and, Bool.true_or, Bool.false_or, if_pos, if_neg, dv H, dg_128 H, dp_128 H, dg_129 H, dp_129 H, dg_130 H, dp_130 H, dg_131 H, dp_131 H, dr_132 H, da_132 H, dr_133 H, da_133 H, dr_134 H, da_134 H, dr_135 H, da_135 H, dr_136 H, da_136 H, dr_137 H, da_137 H, V.1.2.2.1, c_noteDried H V2 O]
      · have cl : lstB D r p k q = false := decide_eq_false c
        by_cases ct : t = q
        · rw [ct, cl, Bool.and_false, Bool.and_false]
        · by_cases c3 : t < q
          · rw [decide_eq_true c3, decide_eq_true (show t < q + 1 by omega)]
          · rw [decide_eq_false c3, decide_eq_false (show ¬ t < q + 1 by omega)]) f0 ⟨by rw [h0]; exact setB.zero.cg (fun t t0 _ => by rw [decide_eq_false (show ¬ t < 0 by omega), Bool.false_and]), fun _ _ => rfl⟩
  obtain ⟨f, L1, i1⟩ := zinv (fun k f => zr 63 2 [yR (some 60), yR (some a), yI (i32 r), yI (i32 p), yI (i32 k), none] [] (zw h F (zsW C 64 f))) (fun k f => ∀ j, 0 ≤ j → j < k → setB (f j) (fun q => decide (q < D 2) && lstB D r p j q)) 0 (D 2) (by omega) (fun k f k0 k1 hi => by
    obtain ⟨f', e, i⟩ := L2 k (up1 f k 0) k0 k1 (up1_s _ _ _)
    refine ⟨f', ?_, fun j j0 j1 => ?_⟩
    · rw [e_Plans_findLost_2]
      simp (disch := omega) only [if_true, if_false, not_true_eq_false, not_false_eq_true, zoI_s, zoR_s, zoH_s, zoL_s, zbI_s, zbV_s, zbR_s, zbL_s, zif_dec, i32_0, ne_eq, i32_lt, i32_le, i32_eq, i32_add, i32_mul, i32_sub, i32_neg, zrz_0, zrz_1, zif_t, zif_f, zsF_s, zsF_k, zsF_a, zsC_s, zsC_a, zsC_i, zsW_s, zsW_a, Int.add_zero, Int.zero_add, true_and, false_and, and_false, Bool.false_eq_true, decide_true, decide_false, Bool.true_and, Bool.false_and, Bool.true_or, Bool.false_or, if_pos, if_neg, dv H, dg_128 H, dp_128 H, dg_129 H, dp_129 H, dg_130 H, dp_130 H, dg_131 H, dp_131 H, dr_132 H, da_132 H, dr_133 H, da_133 H, dr_134 H, da_134 H, dr_135 H, da_135 H, dr_136 H, da_136 H, dr_137 H, da_137 H, V.1.2.2.1, wv_60 S, wr_256 S, wr_257 S, wr_258 S, wr_259 S, wa_64 S, ws_64 S, zsC_W, zsW_W, e]
      rw [e_Plans_findLost_13]
      simp (disch := omega) only [if_true, if_false, not_true_eq_false, not_false_eq_true, zoI_s, zoR_s, zoH_s, zoL_s, zbI_s, zbV_s, zbR_s, zbL_s, zif_dec, i32_0, ne_eq, i32_lt, i32_le, i32_eq, i32_add, i32_mul, i32_sub, i32_neg, zrz_0, zrz_1, zif_t, zif_f, zsF_s, zsF_k, zsF_a, zsC_s, zsC_a, zsC_i, zsW_s, zsW_a, Int.add_zero, Int.zero_add, true_and, false_and, and_false, Bool.false_eq_true, decide_true, decide_false, Bool.true_and, Bool.false_and, Bool.true_or, Bool.false_or, if_pos, if_neg, dv H, dg_128 H, dp_128 H, dg_129 H, dp_129 H, dg_130 H, dp_130 H, dg_131 H, dp_131 H, dr_132 H, da_132 H, dr_133 H, da_133 H, dr_134 H, da_134 H, dr_135 H, da_135 H, dr_136 H, da_136 H, dr_137 H, da_137 H, V.1.2.2.1, d_Plans_findLost_2_w5]
    · by_cases c : j = k
      · rw [c]; exact i.1
      · rw [i.2 j c, up1_n c]; exact hi j j0 (by omega)) (C 64) (fun j _ _ => by omega)
  rw [zsW_id] at L1
  refine ⟨f, ?_, i1⟩
  rw [e_Plans_findLost, L1, e_Plans_findLost_2]
  simp (disch := omega) only [if_true, if_false, not_true_eq_false, not_false_eq_true, zoI_s, zoR_s, zoH_s, zoL_s, zbI_s, zbV_s, zbR_s, zbL_s, zif_dec, i32_0, ne_eq, i32_lt, i32_le, i32_eq, i32_add, i32_mul, i32_sub, i32_neg, zrz_0, zrz_1, zif_t, zif_f, zsF_s, zsF_k, zsF_a, zsC_s, zsC_a, zsC_i, zsW_s, zsW_a, Int.add_zero, Int.zero_add, true_and, false_and, and_false, Bool.false_eq_true, decide_true, decide_false, Bool.true_and, Bool.false_and, Bool.true_or, Bool.false_or, if_pos, if_neg, dv H, dg_128 H, dp_128 H, dg_129 H, dp_129 H, dg_130 H, dp_130 H, dg_131 H, dp_131 H, dr_132 H, da_132 H, dr_133 H, da_133 H, dr_134 H, da_134 H, dr_135 H, da_135 H, dr_136 H, da_136 H, dr_137 H, da_137 H, V.1.2.2.1]
theorem c_isLost (S : St h) {L : Int → Int → Bool} {n s q : Int} (n1 : n ≤ 8) (hf : ∀ k, 0 ≤ k → k < n → setB (C 64 k) (fun q => decide (q < n) && L k q)) (s0 : 0 ≤ s) (s1 : s < 256) (sb : bitsS s < n) (q0 : 0 ≤ q) (q1 : q < n) : zc 64 [zR (some 60), zI (i32 s), zI (i32 q)] (zw h F C) = some (zI (i32 (if L (bitsS s) q = true then 1 else 0)), zw h F C) := by
  have b := bitsS_rng s
  have g := hf (bitsS s) b.1 sb
  have g1 := g.1
  have g2 := g.2.1
  have g3 := g.2.2 q q0 (by omega)
  dsimp only at g3
  rw [decide_eq_true q1, Bool.true_and] at g3
  rw [e_Plans_isLost]
  cases c : L (bitsS s) q with
  | true =>
    rw [c] at g3
    have g4 : bitI (C 64 (bitsS s)) q = 1 := g3
    simp (disch := omega) only [if_true, if_false, not_true_eq_false, not_false_eq_true, zoI_s, zoR_s, zoH_s, zoL_s, zbI_s, zbV_s, zbR_s, zbL_s, zif_dec, i32_0, ne_eq, i32_lt, i32_le, i32_eq, i32_add, i32_mul, i32_sub, i32_neg, zrz_0, zrz_1, zif_t, zif_f, zsF_s, zsF_k, zsF_a, zsC_s, zsC_a, zsC_i, zsW_s, zsW_a, Int.add_zero, Int.zero_add, true_and, false_and, and_false, Bool.false_eq_true, decide_true, decide_false, Bool.true_and, Bool.false_and, Bool.true_or, Bool.false_or, if_pos, if_neg, wv_60 S, wr_256 S, wr_257 S, wr_258 S, wr_259 S, wa_64 S, ws_64 S, c_bitCount, b_shr, g4]
  | false =>
    rw [c] at g3
    have g4 : bitI (C 64 (bitsS s)) q = 0 := g3
    simp (disch := omega) only [if_true, if_false, not_true_eq_false, not_false_eq_true, zoI_s, zoR_s, zoH_s, zoL_s, zbI_s, zbV_s, zbR_s, zbL_s, zif_dec, i32_0, ne_eq, i32_lt, i32_le, i32_eq, i32_add, i32_mul, i32_sub, i32_neg, zrz_0, zrz_1, zif_t, zif_f, zsF_s, zsF_k, zsF_a, zsC_s, zsC_a, zsC_i, zsW_s, zsW_a, Int.add_zero, Int.zero_add, true_and, false_and, and_false, Bool.false_eq_true, decide_true, decide_false, Bool.true_and, Bool.false_and, Bool.true_or, Bool.false_or, if_pos, if_neg, wv_60 S, wr_256 S, wr_257 S, wr_258 S, wr_259 S, wa_64 S, ws_64 S, c_bitCount, b_shr, g4]
theorem c_dareWorth (S : St h) {L : Int → Int → Bool} {n s q : Int} (n1 : n ≤ 8) (hf : ∀ k, 0 ≤ k → k < n → setB (C 64 k) (fun q => decide (q < n) && L k q)) (s0 : 0 ≤ s) (s1 : s < 2 ^ n.toNat) (sb : bitsS s < n) (q0 : 0 ≤ q) (q1 : q < n) (hg : -1 ≤ C 63 (orI s q) ∧ C 63 (orI s q) ≤ 1) : zc 66 [zR (some 60), zI (i32 s), zI (i32 q)] (zw h F C) = some (zI (i32 (darV L (C 63) s q)), zw h F C) := by
  have p8 := pw_8 (n := n) n1
  have o := orI_lt (s := s) (r := q) (n := n) s0 q0 q1 (by omega) s1
  have e := c_isLost (F := F) S n1 hf s0 (by omega) sb q0 q1
  rw [e_Plans_dareWorth]
  unfold darV
  cases c : L (bitsS s) q with
  | true =>
    rw [c] at e
    simp (disch := omega) only [if_true, if_false, not_true_eq_false, not_false_eq_true, zoI_s, zoR_s, zoH_s, zoL_s, zbI_s, zbV_s, zbR_s, zbL_s, zif_dec, i32_0, ne_eq, i32_lt, i32_le, i32_eq, i32_add, i32_mul, i32_sub, i32_neg, zrz_0, zrz_1, zif_t, zif_f, zsF_s, zsF_k, zsF_a, zsC_s, zsC_a, zsC_i, zsW_s, zsW_a, Int.add_zero, Int.zero_add, true_and, false_and, and_false, Bool.false_eq_true, decide_true, decide_false, Bool.true_and, Bool.false_and, Bool.true_or, Bool.false_or, if_pos, if_neg, wv_60 S, wr_256 S, wr_257 S, wr_258 S, wr_259 S, e]
  | false =>
    rw [c] at e
    simp (disch := omega) only [if_true, if_false, not_true_eq_false, not_false_eq_true, zoI_s, zoR_s, zoH_s, zoL_s, zbI_s, zbV_s, zbR_s, zbL_s, zif_dec, i32_0, ne_eq, i32_lt, i32_le, i32_eq, i32_add, i32_mul, i32_sub, i32_neg, zrz_0, zrz_1, zif_t, zif_f, zsF_s, zsF_k, zsF_a, zsC_s, zsC_a, zsC_i, zsW_s, zsW_a, Int.add_zero, Int.zero_add, true_and, false_and, and_false, Bool.false_eq_true, decide_true, decide_false, Bool.true_and, Bool.false_and, Bool.true_or, Bool.false_or, if_pos, if_neg, wv_60 S, wr_256 S, wr_257 S, wr_258 S, wr_259 S, wa_63 S, ws_63 S, e, b_or]
end A16
