/-! program -/
def prgV (L : Int → Int → Bool) (W : Int → Int) (s q : Int) : Int := if L (bitsS s) q = true then 0 else 1 + W (orI s q)
def prgW (L : Int → Int → Bool) (n : Int) : Nat → Int → Int
  | 0, _ => 0
  | j + 1, s => foldF (mxF (prgV L (prgW L n j) s) s) 0 n.toNat 0
def prgS (L : Int → Int → Bool) (n s : Int) : Int := prgW L n (n - bitsS s).toNat s
def finB (L : Int → Int → Bool) (s q : Int) : Bool := decide (bitI s q = 0) && !L (bitsS s) q
def prgP (L : Int → Int → Bool) (n s q : Int) : Bool := finB L s q && decide (1 + prgS L n (orI s q) = prgS L n s)
def prgQ (L : Int → Int → Bool) (n s : Int) : Int := fstF (prgP L n s) 0 n.toNat
def prgK (L : Int → Int → Bool) (n : Int) : Nat → Int → Int
  | 0, s => prgQ L n s
  | k + 1, s => prgK L n k (orI s (prgQ L n s))
theorem prgW_rng (L : Int → Int → Bool) (n : Int) (n0 : 0 ≤ n) : ∀ (j : Nat) (s : Int), 0 ≤ prgW L n j s ∧ prgW L n j s ≤ j := by
  intro j
  induction j with
  | zero => intro s; rw [prgW]; omega
  | succ j ih =>
    intro s
    rw [prgW]
    have hv : ∀ q, 0 ≤ prgV L (prgW L n j) s q ∧ prgV L (prgW L n j) s q ≤ j + 1 := by
      intro q
      unfold prgV
      have := ih (orI s q)
      split <;> omega
    obtain ⟨h1, h2, h3⟩ := mx_spec (prgV L (prgW L n j) s) s 0 n n0 (fun q => (hv q).1)
    refine ⟨h1, ?_⟩
    rcases h3 with h3 | ⟨q, _, _, _, h3⟩
    · omega
    · rw [← h3]; have := (hv q).2; omega
theorem prgS_rng (L : Int → Int → Bool) {n : Int} (n0 : 0 ≤ n) (n1 : n ≤ 8) (s : Int) : 0 ≤ prgS L n s ∧ prgS L n s ≤ 8 := by
  have := prgW_rng L n n0 (n - bitsS s).toNat s
  have := bitsS_rng s
  unfold prgS
  omega
theorem prgV_rng (L : Int → Int → Bool) {n : Int} (n0 : 0 ≤ n) (n1 : n ≤ 8) (s q : Int) : 0 ≤ prgV L (prgS L n) s q ∧ prgV L (prgS L n) s q ≤ 9 := by
  unfold prgV
  have := prgS_rng L n0 n1 (orI s q)
  split <;> omega
theorem prgS_full (L : Int → Int → Bool) {n : Int} (n0 : 0 ≤ n) (n1 : n ≤ 8) : prgS L n (2 ^ n.toNat - 1) = 0 := by
  have p1 := pw_le (n := n) (by omega)
  unfold prgS
  rw [((bits_n (s := 2 ^ n.toNat - 1) (by omega) n0 n1 (by omega)).2).mp rfl, show (n - n).toNat = 0 by omega]
  rfl
theorem prgS_eq (L : Int → Int → Bool) {n s : Int} (n0 : 0 ≤ n) (n1 : n ≤ 8) (s0 : 0 ≤ s) (s1 : s < 2 ^ n.toNat) : prgS L n s = foldF (mxF (prgV L (prgS L n) s) s) 0 n.toNat 0 := by
  have p8 := pw_8 (n := n) n1
  have b := bits_n (s := s) s0 n0 n1 (by omega)
  have b3 := bitsS_rng s
  by_cases cf : s = 2 ^ n.toNat - 1
  · rw [cf, prgS_full L n0 n1, ← cf]
    have hf : ∀ q, 0 ≤ q → q < n → bitI s q = 1 := fun q q0 q1 => by rw [cf]; exact full_q n0 n1 q0 q1
    have := foldI (mxF (prgV L (prgS L n) s) s) (fun _ b => b = 0) 0 n n0 (fun k b k0 k1 hi => by unfold mxF; rw [if_pos (hf k k0 k1)]; exact hi) 0 rfl
    rw [Int.sub_zero] at this
    exact this.symm
  · have b2 : bitsS s ≠ n := fun z => cf (b.2.mpr z)
    have hs : prgS L n s = prgW L n ((n - bitsS s - 1).toNat + 1) s := by unfold prgS; rw [show (n - bitsS s).toNat = (n - bitsS s - 1).toNat + 1 by omega]
    rw [hs, prgW]
    refine fold_cg _ _ _ (fun q b q0 q1 => ?_)
    unfold mxF
    by_cases c : bitI s q = 1
    · rw [if_pos c, if_pos c]
    · rw [if_neg c, if_neg c]
      have e : prgV L (prgW L n (n - bitsS s - 1).toNat) s q = prgV L (prgS L n) s q := by
        unfold prgV prgS
        rw [bits_or9 s0 (by omega) q0 (by omega) ((bitI_01 s q).resolve_right c), show (n - (bitsS s + 1)).toNat = (n - bitsS s - 1).toNat by omega]
      rw [e]
theorem prgQ_spec (L : Int → Int → Bool) {n s : Int} (n0 : 0 ≤ n) (n1 : n ≤ 8) (s0 : 0 ≤ s) (s1 : s < 2 ^ n.toNat) (hs : 0 < prgS L n s) : (0 ≤ prgQ L n s ∧ prgQ L n s < n) ∧ bitI s (prgQ L n s) = 0 ∧ 1 + prgS L n (orI s (prgQ L n s)) = prgS L n s := by
  rcases fstF_spec (prgP L n s) n.toNat 0 (by omega) with ⟨k1, k2⟩ | ⟨k1, k2, k3, k4⟩
  · exfalso
    obtain ⟨g1, g2, g3⟩ := mx_spec (prgV L (prgS L n) s) s 0 n n0 (fun q => (prgV_rng L n0 n1 s q).1)
    rw [← prgS_eq L n0 n1 s0 s1] at g1 g2 g3
    rcases g3 with g3 | ⟨q, q0, q1, q2, q3⟩
    · omega
    · have := k2 q q0 (by omega)
      unfold prgP finB at this
      rw [decide_eq_true ((bitI_01 s q).resolve_right q2), Bool.true_and] at this
      unfold prgV at q3
      cases c : L (bitsS s) q with
      | true => rw [if_pos c] at q3; omega
      | false =>
        rw [c] at q3 this
        rw [if_neg (by simp)] at q3
        rw [decide_eq_true q3] at this
        simp at this
  · unfold prgP finB at k3
    rw [Bool.and_eq_true, Bool.and_eq_true] at k3
    exact ⟨⟨k1, by unfold prgQ; omega⟩, of_decide_eq_true k3.1.1, of_decide_eq_true k3.2⟩
def progS (L : Int → Int → Bool) (n k : Int) : Int := if k = -1 then prgS L n 0 else if 0 ≤ k ∧ k < prgS L n 0 then prgK L n k.toNat 0 else -1
section A18
variable {h : zHeap} {F : Nat → Nat → Int} {C : Nat → Int → Int} {a : Nat} {D : Int → Int}
theorem prgV_cg {L : Int → Int → Bool} {W W' : Int → Int} {s q : Int} (h : W (orI s q) = W' (orI s q)) : prgV L W s q = prgV L W' s q := by unfold prgV; rw [h]
theorem c_programWorth (S : St h) {L : Int → Int → Bool} {n s q : Int} (n1 : n ≤ 8) (hf : ∀ k, 0 ≤ k → k < n → setB (C 64 k) (fun q => decide (q < n) && L k q)) (s0 : 0 ≤ s) (s1 : s < 2 ^ n.toNat) (sb : bitsS s < n) (q0 : 0 ≤ q) (q1 : q < n) (hg : 0 ≤ C 63 (orI s q) ∧ C 63 (orI s q) ≤ 8) : zc 70 [zR (some 60), zI (i32 s), zI (i32 q)] (zw h F C) = some (zI (i32 (prgV L (C 63) s q)), zw h F C) := by
  have p8 := pw_8 (n := n) n1
  have o := orI_lt (s := s) (r := q) (n := n) s0 q0 q1 (by omega) s1
  have e := c_isLost (F := F) S n1 hf s0 (by omega) sb q0 q1
  rw [e_Plans_programWorth]
  unfold prgV
  cases c : L (bitsS s) q with
  | true =>
    rw [c] at e
    simp (disch := omega) only [if_true, if_false, not_true_eq_false, not_false_eq_true, zoI_s, zoR_s, zoH_s, zoL_s, zbI_s, zbV_s, zbR_s, zbL_s, zif_dec, i32_0, ne_eq, i32_lt, i32_le, i32_eq, i32_add, i32_mul, i32_sub, i32_neg, zrz_0, zrz_1, zif_t, zif_f, zsF_s, zsF_k, zsF_a, zsC_s, zsC_a, zsC_i, zsW_s, zsW_a, Int.add_zero, Int.zero_add, true_and, false_and, and_false, Bool.false_eq_true, decide_true, decide_false, Bool.true_and, Bool.false_and, Bool.true_or, Bool.false_or, sub1, if_pos, if_neg, wv_60 S, wr_256 S, wr_257 S, wr_258 S, wr_259 S, e]
  | false =>
    rw [c] at e
    simp (disch := omega) only [if_true, if_false, not_true_eq_false, not_false_eq_true, zoI_s, zoR_s, zoH_s, zoL_s, zbI_s, zbV_s, zbR_s, zbL_s, zif_dec, i32_0, ne_eq, i32_lt, i32_le, i32_eq, i32_add, i32_mul, i32_sub, i32_neg, zrz_0, zrz_1, zif_t, zif_f, zsF_s, zsF_k, zsF_a, zsC_s, zsC_a, zsC_i, zsW_s, zsW_a, Int.add_zero, Int.zero_add, true_and, false_and, and_false, Bool.false_eq_true, decide_true, decide_false, Bool.true_and, Bool.false_and, Bool.true_or, Bool.false_or, sub1, if_pos, if_neg, wv_60 S, wr_256 S, wr_257 S, wr_258 S, wr_259 S, wa_63 S, ws_63 S, e, b_or]
theorem c_compose (S : St h) (H : duS h a) (V : duV F C a D) (O : dOK D) (ha : a ≤ 28) {r p : Int} (r0 : 0 ≤ r) (r1 : r < D 0) (p0 : 0 ≤ p) (p1 : p < D 1) : ∃ f g, zc 69 [zR (some 60), zR (some a), zI (i32 r), zI (i32 p)] (zw h F C) = some (zI 0, zw h F (zsW (zsW C 64 f) 63 g)) ∧ (∀ k, 0 ≤ k → k < D 2 → setB (f k) (fun q => decide (q < D 2) && lstB D r p k q)) ∧ (∀ s, 0 ≤ s → s < 2 ^ (D 2).toNat → g s = prgS (lstB D r p) (D 2) s) := by
  have b2 := O.2.2.1
  have q3 := pw_8 (n := D 2) (by omega)
  have q4 := pw_le (n := D 2) (by omega)
  obtain ⟨f, e, hf⟩ := c_findLost (F := F) (C := C) S H V O ha r0 r1 p0 p1
  have L2 := fun s g (s0 : 0 ≤ s) (s1 : s < 2 ^ (D 2).toNat - 1) (hg : ∀ t, s < t → t < 2 ^ (D 2).toNat → g t = prgS (lstB D r p) (D 2) t) (x : Int) => zfoI (fun q b => zr 69 27 [yR (some 60), yR (some a), yI (i32 r), yI (i32 p), yI (i32 x), yI (i32 s), yI (i32 b), yI (i32 q)] [] (zw h F (zsW (zsW C 64 f) 63 g))) (mxF (prgV (lstB D r p) (prgS (lstB D r p) (D 2)) s) s) (fun k b => 0 ≤ b ∧ b ≤ 9) 0 (D 2) (by omega) (fun q b q0 q1 hi => by
    have bn := bits_n (s := s) (n := D 2) s0 (by omega) (by omega) (by omega)
    have bn2 : bitsS s ≠ D 2 := fun z => by have := bn.2.mpr z; omega
    rw [e_Plans_compose_27]
    unfold mxF
    rcases bitI_01 s q with cs | cs
    · have o := orI_lt (s := s) (r := q) (n := D 2) s0 q0 (by omega) (by omega) (by omega)
      have og := orI_gt cs
      have gg := hg (orI s q) og o.2.2
      have gr := prgS_rng (lstB D r p) (n := D 2) (by omega) (by omega) (orI s q)
      have gv := prgV_rng (lstB D r p) (n := D 2) (by omega) (by omega) s q
      have ew := c_programWorth (F := F) (C := zsW (zsW C 64 f) 63 g) (L := lstB D r p) (n := D 2) (s := s) (q := q) S (by omega) (by rw [zsW_a (by omega), zsW_s]; exact hf) s0 (by omega) (by omega) q0 (by omega) (by rw [zsW_s, gg]; exact gr)
      rw [zsW_s, prgV_cg gg] at ew
      by_cases c2 : b < prgV (lstB D r p) (prgS (lstB D r p) (D 2)) s q
      · simp (disch := omega) only [if_true, if_false, not_true_eq_false, not_false_eq_true, zoI_s, zoR_s, zoH_s, zoL_s, zbI_s, zbV_s, zbR_s, zbL_s, zif_dec, i32_0, ne_eq, i32_lt, i32_le, i32_eq, i32_add, i32_mul, i32_sub, i32_neg, zrz_0, zrz_1, zif_t, zif_f, zsF_s, zsF_k, zsF_a, zsC_s, zsC_a, zsC_i, zsW_s, zsW_a, Int.add_zero, Int.zero_add, true_and, false_and, and_false, Bool.false_eq_true, decide_true, decide_false, Bool.true_and, Bool.false_and, Bool.true_or, Bool.false_or, sub1, if_pos, if_neg, dv H, dg_128 H, dp_128 H, dg_129 H, dp_129 H, dg_130 H, dp_130 H, dg_131 H, dp_131 H, dr_132 H, da_132 H, dr_133 H, da_133 H, dr_134 H, da_134 H, dr_135 H, da_135 H, dr_136 H, da_136 H, dr_137 H, da_137 H, V.1.2.2.1, wv_60 S, wr_256 S, wr_257 S, wr_258 S, wr_259 S, b_shr, cs, ew, i32_max]
      · simp (disch := omega) only [if_true, if_false, not_true_eq_false, not_false_eq_true, zoI_s, zoR_s, zoH_s, zoL_s, zbI_s, zbV_s, zbR_s, zbL_s, zif_dec, i32_0, ne_eq, i32_lt, i32_le, i32_eq, i32_add, i32_mul, i32_sub, i32_neg, zrz_0, zrz_1, zif_t, zif_f, zsF_s, zsF_k, zsF_a, zsC_s, zsC_a, zsC_i, zsW_s, zsW_a, Int.add_zero, Int.zero_add, true_and, false_and, and_false, Bool.false_eq_true, decide_true, decide_false, Bool.true_and, Bool.false_and, Bool.true_or, Bool.false_or, sub1, if_pos, if_neg, dv H, dg_128 H, dp_128 H, dg_129 H, dp_129 H, dg_130 H, dp_130 H, dg_131 H, dp_131 H, dr_132 H, da_132 H, dr_133 H, da_133 H, dr_134 H, da_134 H, dr_135 H, da_135 H, dr_136 H, da_136 H, dr_137 H, da_137 H, V.1.2.2.1, wv_60 S, wr_256 S, wr_257 S, wr_258 S, wr_259 S, b_shr, cs, ew, i32_max]
    · simp (disch := omega) only [if_true, if_false, not_true_eq_false, not_false_eq_true, zoI_s, zoR_s, zoH_s, zoL_s, zbI_s, zbV_s, zbR_s, zbL_s, zif_dec, i32_0, ne_eq, i32_lt, i32_le, i32_eq, i32_add, i32_mul, i32_sub, i32_neg, zrz_0, zrz_1, zif_t, zif_f, zsF_s, zsF_k, zsF_a, zsC_s, zsC_a, zsC_i, zsW_s, zsW_a, Int.add_zero, Int.zero_add, true_and, false_and, and_false, Bool.false_eq_true, decide_true, decide_false, Bool.true_and, Bool.false_and, Bool.true_or, Bool.false_or, sub1, if_pos, if_neg, dv H, dg_128 H, dp_128 H, dg_129 H, dp_129 H, dg_130 H, dp_130 H, dg_131 H, dp_131 H, dr_132 H, da_132 H, dr_133 H, da_133 H, dr_134 H, da_134 H, dr_135 H, da_135 H, dr_136 H, da_136 H, dr_137 H, da_137 H, V.1.2.2.1, wv_60 S, wr_256 S, wr_257 S, wr_258 S, wr_259 S, b_shr, cs]) (fun q b _ _ hi => by
      have gv := prgV_rng (lstB D r p) (n := D 2) (by omega) (by omega) s q
      unfold mxF
      split
      · exact hi
      · split
        · exact gv
        · exact hi) 0 (by omega)
  obtain ⟨g, L1, i1⟩ := zdwn (fun s g => zr 69 21 [yR (some 60), yR (some a), yI (i32 r), yI (i32 p), yI (i32 (2 ^ (D 2).toNat - 1)), yI (i32 s), none, none] [] (zw h F (zsW (zsW C 64 f) 63 g))) (fun s g => ∀ t, s < t → t < 2 ^ (D 2).toNat → g t = prgS (lstB D r p) (D 2) t) (-1) (2 ^ (D 2).toNat - 1 - 1) (by omega) (fun s g s0 s1 hi => by
    have l2 := (L2 s g (by omega) (by omega) hi (2 ^ (D 2).toNat - 1)).1
    rw [Int.sub_zero, ← prgS_eq _ (by omega) (by omega) (by omega) (by omega)] at l2
    refine ⟨up1 g s (prgS (lstB D r p) (D 2) s), ?_, ?_⟩
    · rw [e_Plans_compose_21]
      simp (disch := omega) only [if_true, if_false, not_true_eq_false, not_false_eq_true, zoI_s, zoR_s, zoH_s, zoL_s, zbI_s, zbV_s, zbR_s, zbL_s, zif_dec, i32_0, ne_eq, i32_lt, i32_le, i32_eq, i32_add, i32_mul, i32_sub, i32_neg, zrz_0, zrz_1, zif_t, zif_f, zsF_s, zsF_k, zsF_a, zsC_s, zsC_a, zsC_i, zsW_s, zsW_a, Int.add_zero, Int.zero_add, true_and, false_and, and_false, Bool.false_eq_true, decide_true, decide_false, Bool.true_and, Bool.false_and, Bool.true_or, Bool.false_or, sub1, if_pos, if_neg, l2]
      rw [e_Plans_compose_27]
      simp (disch := omega) only [if_true, if_false, not_true_eq_false, not_false_eq_true, zoI_s, zoR_s, zoH_s, zoL_s, zbI_s, zbV_s, zbR_s, zbL_s, zif_dec, i32_0, ne_eq, i32_lt, i32_le, i32_eq, i32_add, i32_mul, i32_sub, i32_neg, zrz_0, zrz_1, zif_t, zif_f, zsF_s, zsF_k, zsF_a, zsC_s, zsC_a, zsC_i, zsW_s, zsW_a, Int.add_zero, Int.zero_add, true_and, false_and, and_false, Bool.false_eq_true, decide_true, decide_false, Bool.true_and, Bool.false_and, Bool.true_or, Bool.false_or, sub1, if_pos, if_neg, dv H, dg_128 H, dp_128 H, dg_129 H, dp_129 H, dg_130 H, dp_130 H, dg_131 H, dp_131 H, dr_132 H, da_132 H, dr_133 H, da_133 H, dr_134 H, da_134 H, dr_135 H, da_135 H, dr_136 H, da_136 H, dr_137 H, da_137 H, V.1.2.2.1, wv_60 S, wr_256 S, wr_257 S, wr_258 S, wr_259 S, wa_63 S, ws_63 S, zsC_W, zsW_W, d_Plans_compose_21_w6, d_Plans_compose_21_w7]
    · intro t t0 t1
      by_cases c : t = s
      · rw [c, up1_s]
      · rw [up1_n c]
        exact hi t (by omega) t1) (up1 (C 63) (2 ^ (D 2).toNat - 1) 0) (fun t t0 t1 => by
    rw [show t = 2 ^ (D 2).toNat - 1 by omega, up1_s]
    exact (prgS_full _ (by omega) (by omega)).symm)
  refine ⟨f, g, ?_, hf, fun s s0 s1 => i1 s (by omega) s1⟩
  rw [e_Plans_compose]
  simp (disch := omega) only [if_true, if_false, not_true_eq_false, not_false_eq_true, zoI_s, zoR_s, zoH_s, zoL_s, zbI_s, zbV_s, zbR_s, zbL_s, zif_dec, i32_0, ne_eq, i32_lt, i32_le, i32_eq, i32_add, i32_mul, i32_sub, i32_neg, zrz_0, zrz_1, zif_t, zif_f, zsF_s, zsF_k, zsF_a, zsC_s, zsC_a, zsC_i, zsW_s, zsW_a, Int.add_zero, Int.zero_add, true_and, false_and, and_false, Bool.false_eq_true, decide_true, decide_false, Bool.true_and, Bool.false_and, Bool.true_or, Bool.false_or, sub1, if_pos, if_neg, wv_60 S, wr_256 S, wr_257 S, wr_258 S, wr_259 S, dv H, dg_128 H, dp_128 H, dg_129 H, dp_129 H, dg_130 H, dp_130 H, dg_131 H, dp_131 H, dr_132 H, da_132 H, dr_133 H, da_133 H, dr_134 H, da_134 H, dr_135 H, da_135 H, dr_136 H, da_136 H, dr_137 H, da_137 H, V.1.2.2.1, e, wa_63 S, ws_63 S, b_pow, zsC_W, L1]
  rw [e_Plans_compose_21]
  simp (disch := omega) only [if_true, if_false, not_true_eq_false, not_false_eq_true, zoI_s, zoR_s, zoH_s, zoL_s, zbI_s, zbV_s, zbR_s, zbL_s, zif_dec, i32_0, ne_eq, i32_lt, i32_le, i32_eq, i32_add, i32_mul, i32_sub, i32_neg, zrz_0, zrz_1, zif_t, zif_f, zsF_s, zsF_k, zsF_a, zsC_s, zsC_a, zsC_i, zsW_s, zsW_a, Int.add_zero, Int.zero_add, true_and, false_and, and_false, Bool.false_eq_true, decide_true, decide_false, Bool.true_and, Bool.false_and, Bool.true_or, Bool.false_or, sub1, if_pos, if_neg]
theorem c_firstProgram (S : St h) (H : duS h a) (V : duV F C a D) (O : dOK D) {L : Int → Int → Bool} (hf : ∀ k, 0 ≤ k → k < D 2 → setB (C 64 k) (fun q => decide (q < D 2) && L k q)) (hg : ∀ s, 0 ≤ s → s < 2 ^ (D 2).toNat → C 63 s = prgS L (D 2) s) {s : Int} (s0 : 0 ≤ s) (s1 : s < 2 ^ (D 2).toNat) (hs : 0 < prgS L (D 2) s) : zc 73 [zR (some 60), zR (some a), zI (i32 s)] (zw h F C) = some (zI (i32 (prgQ L (D 2) s)), zw h F C) := by
  have b2 := O.2.2.1
  have q3 := pw_8 (n := D 2) (by omega)
  have q4 := pw_le (n := D 2) (by omega)
  have h00 := prgS_rng L (n := D 2) (by omega) (by omega) s
  have bn := bits_n (s := s) (n := D 2) s0 (by omega) (by omega) (by omega)
  have bn2 : bitsS s ≠ D 2 := fun z => by
    have := bn.2.mpr z
    rw [this, prgS_full L (by omega) (by omega)] at hs
    omega
  have ew := fun q (q0 : 0 ≤ q) (q1 : q < D 2) => (show zc 70 [zR (some 60), zI (i32 s), zI (i32 q)] (zw h F C) = some (zI (i32 (prgV L (prgS L (D 2)) s q)), zw h F C) from by
    have o := orI_lt (s := s) (r := q) (n := D 2) s0 q0 q1 (by omega) (by omega)
    have e := c_programWorth (F := F) (C := C) (L := L) (n := D 2) (s := s) (q := q) S (by omega) hf (by omega) (by omega) (by omega) q0 q1 (by rw [hg _ o.1 o.2.2]; exact prgS_rng L (by omega) (by omega) _)
    rw [prgV_cg (hg _ o.1 o.2.2)] at e
    exact e)
  have e0 := hg s s0 s1
  have L1 := zfst (fun q => zr 73 2 [yR (some 60), yR (some a), yI (i32 s), yI (i32 q)] [] (zw h F C)) (fun q => some (zI (i32 q), zw h F C)) (prgP L (D 2) s) 0 (D 2) (by omega) (by omega) (fun q q0 q1 hp => by
    unfold prgP finB at hp
    rw [Bool.and_eq_true, Bool.and_eq_true] at hp
    have c1 := of_decide_eq_true hp.1.1
    have c2 := of_decide_eq_true hp.2
    have c3 : L (bitsS s) q = false := by simpa using hp.1.2
    have ev : prgV L (prgS L (D 2)) s q = prgS L (D 2) s := by unfold prgV; rw [c3, if_neg (by simp)]; exact c2
    have ew := ew q q0 q1
    rw [ev] at ew
    rw [e_Plans_firstProgram_2]
    simp (disch := omega) only [if_true, if_false, not_true_eq_false, not_false_eq_true, zoI_s, zoR_s, zoH_s, zoL_s, zbI_s, zbV_s, zbR_s, zbL_s, zif_dec, i32_0, ne_eq, i32_lt, i32_le, i32_eq, i32_add, i32_mul, i32_sub, i32_neg, zrz_0, zrz_1, zif_t, zif_f, zsF_s, zsF_k, zsF_a, zsC_s, zsC_a, zsC_i, zsW_s, zsW_a, Int.add_zero, Int.zero_add, true_and, false_and, and_false, Bool.false_eq_true, decide_true, decide_false, Bool.true_and, Bool.false_and, Bool.true_or, Bool.false_or, sub1, if_pos, if_neg, dv H, dg_128 H, dp_128 H, dg_129 H, dp_129 H, dg_130 H, dp_130 H, dg_131 H, dp_131 H, dr_132 H, da_132 H, dr_133 H, da_133 H, dr_134 H, da_134 H, dr_135 H, da_135 H, dr_136 H, da_136 H, dr_137 H, da_137 H, V.1.2.2.1, wv_60 S, wr_256 S, wr_257 S, wr_258 S, wr_259 S, wa_63 S, ws_63 S, ew, e0, b_shr, c1]) (fun q q0 q1 hp => by
    have g := prgV_rng L (n := D 2) (by omega) (by omega) s q
    rw [e_Plans_firstProgram_2]
    rcases bitI_01 s q with cs | cs
    · have ev : prgV L (prgS L (D 2)) s q ≠ prgS L (D 2) s := by
        unfold prgP finB at hp
        rw [decide_eq_true cs, Bool.true_and] at hp
        unfold prgV
        cases c : L (bitsS s) q with
        | true => rw [if_pos rfl]; omega
        | false =>
          rw [c] at hp
          rw [if_neg (by simp)]
          intro z
          rw [decide_eq_true z] at hp
          simp at hp
      simp (disch := omega) only [if_true, if_false, not_true_eq_false, not_false_eq_true, zoI_s, zoR_s, zoH_s, zoL_s, zbI_s, zbV_s, zbR_s, zbL_s, zif_dec, i32_0, ne_eq, i32_lt, i32_le, i32_eq, i32_add, i32_mul, i32_sub, i32_neg, zrz_0, zrz_1, zif_t, zif_f, zsF_s, zsF_k, zsF_a, zsC_s, zsC_a, zsC_i, zsW_s, zsW_a, Int.add_zero, Int.zero_add, true_and, false_and, and_false, Bool.false_eq_true, decide_true, decide_false, Bool.true_and, Bool.false_and, Bool.true_or, Bool.false_or, sub1, if_pos, if_neg, dv H, dg_128 H, dp_128 H, dg_129 H, dp_129 H, dg_130 H, dp_130 H, dg_131 H, dp_131 H, dr_132 H, da_132 H, dr_133 H, da_133 H, dr_134 H, da_134 H, dr_135 H, da_135 H, dr_136 H, da_136 H, dr_137 H, da_137 H, V.1.2.2.1, wv_60 S, wr_256 S, wr_257 S, wr_258 S, wr_259 S, wa_63 S, ws_63 S, ew, e0, b_shr, cs]
    · simp (disch := omega) only [if_true, if_false, not_true_eq_false, not_false_eq_true, zoI_s, zoR_s, zoH_s, zoL_s, zbI_s, zbV_s, zbR_s, zbL_s, zif_dec, i32_0, ne_eq, i32_lt, i32_le, i32_eq, i32_add, i32_mul, i32_sub, i32_neg, zrz_0, zrz_1, zif_t, zif_f, zsF_s, zsF_k, zsF_a, zsC_s, zsC_a, zsC_i, zsW_s, zsW_a, Int.add_zero, Int.zero_add, true_and, false_and, and_false, Bool.false_eq_true, decide_true, decide_false, Bool.true_and, Bool.false_and, Bool.true_or, Bool.false_or, sub1, if_pos, if_neg, dv H, dg_128 H, dp_128 H, dg_129 H, dp_129 H, dg_130 H, dp_130 H, dg_131 H, dp_131 H, dr_132 H, da_132 H, dr_133 H, da_133 H, dr_134 H, da_134 H, dr_135 H, da_135 H, dr_136 H, da_136 H, dr_137 H, da_137 H, V.1.2.2.1, wv_60 S, wr_256 S, wr_257 S, wr_258 S, wr_259 S, b_shr, cs])
  have sp := prgQ_spec L (n := D 2) (by omega) (by omega) s0 s1 hs
  rw [e_Plans_firstProgram, L1, Int.sub_zero, show fstF (prgP L (D 2) s) 0 (D 2).toNat = prgQ L (D 2) s from rfl, if_neg (by omega)]
theorem c_programAtL (S : St h) (H : duS h a) (V : duV F C a D) (O : dOK D) {L : Int → Int → Bool} (hf : ∀ k, 0 ≤ k → k < D 2 → setB (C 64 k) (fun q => decide (q < D 2) && L k q)) (hg : ∀ s, 0 ≤ s → s < 2 ^ (D 2).toNat → C 63 s = prgS L (D 2) s) {k : Int} (hk : k < 100) : ∀ (j : Nat) (i s c : Int), 0 ≤ i → i + j = k → 0 ≤ s → s < 2 ^ (D 2).toNat → j < prgS L (D 2) s → zr 72 16 [yR (some 60), yR (some a), yI (i32 k), yI (i32 s), yI (i32 c), yI (i32 i)] [] (zw h F C) = some (zI (i32 (prgK L (D 2) j s)), zw h F C) := by
  have b2 := O.2.2.1
  have q3 := pw_8 (n := D 2) (by omega)
  intro j
  induction j with
  | zero =>
    intro i s c i0 hi s0 s1 hs
    have sp := prgQ_spec L (n := D 2) (by omega) (by omega) s0 s1 (by omega)
    rw [e_Plans_programAt_16]
    simp (disch := omega) only [if_true, if_false, not_true_eq_false, not_false_eq_true, zoI_s, zoR_s, zoH_s, zoL_s, zbI_s, zbV_s, zbR_s, zbL_s, zif_dec, i32_0, ne_eq, i32_lt, i32_le, i32_eq, i32_add, i32_mul, i32_sub, i32_neg, zrz_0, zrz_1, zif_t, zif_f, zsF_s, zsF_k, zsF_a, zsC_s, zsC_a, zsC_i, zsW_s, zsW_a, Int.add_zero, Int.zero_add, true_and, false_and, and_false, Bool.false_eq_true, decide_true, decide_false, Bool.true_and, Bool.false_and, Bool.true_or, Bool.false_or, sub1, if_pos, if_neg, wv_60 S, wr_256 S, wr_257 S, wr_258 S, wr_259 S, c_firstProgram S H V O hf hg, b_or]
    rw [e_Plans_programAt_16]
    simp (disch := omega) only [if_true, if_false, not_true_eq_false, not_false_eq_true, zoI_s, zoR_s, zoH_s, zoL_s, zbI_s, zbV_s, zbR_s, zbL_s, zif_dec, i32_0, ne_eq, i32_lt, i32_le, i32_eq, i32_add, i32_mul, i32_sub, i32_neg, zrz_0, zrz_1, zif_t, zif_f, zsF_s, zsF_k, zsF_a, zsC_s, zsC_a, zsC_i, zsW_s, zsW_a, Int.add_zero, Int.zero_add, true_and, false_and, and_false, Bool.false_eq_true, decide_true, decide_false, Bool.true_and, Bool.false_and, Bool.true_or, Bool.false_or, sub1, if_pos, if_neg]
    rfl
  | succ j ih =>
    intro i s c i0 hi s0 s1 hs
    have sp := prgQ_spec L (n := D 2) (by omega) (by omega) s0 s1 (by omega)
    have o := orI_lt (s := s) (r := prgQ L (D 2) s) (n := D 2) s0 sp.1.1 sp.1.2 (by omega) s1
    rw [e_Plans_programAt_16]
    simp (disch := omega) only [if_true, if_false, not_true_eq_false, not_false_eq_true, zoI_s, zoR_s, zoH_s, zoL_s, zbI_s, zbV_s, zbR_s, zbL_s, zif_dec, i32_0, ne_eq, i32_lt, i32_le, i32_eq, i32_add, i32_mul, i32_sub, i32_neg, zrz_0, zrz_1, zif_t, zif_f, zsF_s, zsF_k, zsF_a, zsC_s, zsC_a, zsC_i, zsW_s, zsW_a, Int.add_zero, Int.zero_add, true_and, false_and, and_false, Bool.false_eq_true, decide_true, decide_false, Bool.true_and, Bool.false_and, Bool.true_or, Bool.false_or, sub1, if_pos, if_neg, wv_60 S, wr_256 S, wr_257 S, wr_258 S, wr_259 S, c_firstProgram S H V O hf hg, b_or]
    exact ih (i + 1) _ _ (by omega) (by omega) o.1 o.2.2 (by omega)
/-! the reference -/
theorem m_isFine (S : St h) (M : moV F C D) (O : dOK D) {s r p q : Int} (s0 : 0 ≤ s) (s1 : s < 512) (r0 : 0 ≤ r) (r1 : r < D 0) (p0 : 0 ≤ p) (p1 : p < D 1) (q0 : 0 ≤ q) (q1 : q < D 2) (w u v : Int) : zc 260 [zR (some 72), zI (i32 s), zI (i32 r), zI (i32 p), zI (i32 q)] (zw h (mlF F w u v) C) = some (zI (i32 (if finB (lstB D r p) s q = true then 1 else 0)), zw h (mlF F (driS (D (4 + 2 * r)) (bitsS s)) (D (5 + 2 * r)) (D 3)) C) := by
  have b1 := O.2.2.2.2.1 r r0 r1
  have b5 := O.2.2.2.2.2.1 r r0 r1
  have b6 := O.2.2.2.1
  have b2 := O.2.2.1
  have bb := bitsS_rng s
  have dr := driS_rng b1.1 b1.2 bb.1
  have gn := noteS_rng (D := D) (w := driS (D (4 + 2 * r)) (bitsS s)) (k := D (5 + 2 * r)) (c := D 3) (p := p) (q := q)
  rw [e_Model_isFine]
  unfold finB
  rcases bitI_01 s q with cs | cs
  · rw [decide_eq_true cs]
    unfold lstB
    by_cases cl : noteS D (driS (D (4 + 2 * r)) (bitsS s)) (D (5 + 2 * r)) (D 3) p q ≤ 0
    · rw [decide_eq_true cl]
      simp (disch := omega) only [if_true, if_false, not_true_eq_false, not_false_eq_true, zoI_s, zoR_s, zoH_s, zoL_s, zbI_s, zbV_s, zbR_s, zbL_s, zif_dec, i32_0, ne_eq, i32_lt, i32_le, i32_eq, i32_add, i32_mul, i32_sub, i32_neg, zrz_0, zrz_1, zif_t, zif_f, zsF_s, zsF_k, zsF_a, zsC_s, zsC_a, zsC_i, zsW_s, zsW_a, Int.add_zero, Int.zero_add, true_and, false_and, and_false, Bool.false_eq_true, decide_true, decide_false, Bool.true_and, Bool.false_and, Bool.true_or, Bool.false_or, sub1, if_pos, if_neg, wv_72 S, wr_768 S, wr_769 S, wr_777 S, wr_785 S, wr_786 S, wr_787 S, wr_789 S, wr_790 S, wr_791 S, wr_802 S, wr_803 S, wr_804 S, wr_805 S, wr_806 S, wr_807 S, wr_809 S, wg_770 S, wp_770 S, wg_771 S, wp_771 S, wg_772 S, wp_772 S, wg_773 S, wp_773 S, wg_774 S, wp_774 S, wg_775 S, wp_775 S, wg_776 S, wp_776 S, wg_778 S, wp_778 S, wg_779 S, wp_779 S, wg_780 S, wp_780 S, wg_781 S, wp_781 S, wg_782 S, wp_782 S, wg_783 S, wp_783 S, wg_784 S, wp_784 S, wg_788 S, wp_788 S, wg_792 S, wp_792 S, wg_793 S, wp_793 S, wg_794 S, wp_794 S, wg_795 S, wp_795 S, wg_796 S, wp_796 S, wg_797 S, wp_797 S, wg_798 S, wp_798 S, wg_799 S, wp_799 S, wg_800 S, wp_800 S, wg_801 S, wp_801 S, wg_808 S, wp_808 S, wg_810 S, wp_810 S, mlF_o, M.2.1.1, M.2.1.2.1, M.2.1.2.2, m_lays S (M.ml _ _ _) O, mlF_ml, m_ans S M O, m_nte S M O, m_meant S (M.ml _ _ _), mlF_0, mlF_1, mlF_2, mlF_w, mlF_k, mlF_c, m_bitsOf, m_dries S (M.ml _ _ _) O, b_shr, cs, m_notw S M O]
      rfl
    · rw [decide_eq_false cl]
      simp (disch := omega) only [if_true, if_false, not_true_eq_false, not_false_eq_true, zoI_s, zoR_s, zoH_s, zoL_s, zbI_s, zbV_s, zbR_s, zbL_s, zif_dec, i32_0, ne_eq, i32_lt, i32_le, i32_eq, i32_add, i32_mul, i32_sub, i32_neg, zrz_0, zrz_1, zif_t, zif_f, zsF_s, zsF_k, zsF_a, zsC_s, zsC_a, zsC_i, zsW_s, zsW_a, Int.add_zero, Int.zero_add, true_and, false_and, and_false, Bool.false_eq_true, decide_true, decide_false, Bool.true_and, Bool.false_and, Bool.true_or, Bool.false_or, sub1, if_pos, if_neg, wv_72 S, wr_768 S, wr_769 S, wr_777 S, wr_785 S, wr_786 S, wr_787 S, wr_789 S, wr_790 S, wr_791 S, wr_802 S, wr_803 S, wr_804 S, wr_805 S, wr_806 S, wr_807 S, wr_809 S, wg_770 S, wp_770 S, wg_771 S, wp_771 S, wg_772 S, wp_772 S, wg_773 S, wp_773 S, wg_774 S, wp_774 S, wg_775 S, wp_775 S, wg_776 S, wp_776 S, wg_778 S, wp_778 S, wg_779 S, wp_779 S, wg_780 S, wp_780 S, wg_781 S, wp_781 S, wg_782 S, wp_782 S, wg_783 S, wp_783 S, wg_784 S, wp_784 S, wg_788 S, wp_788 S, wg_792 S, wp_792 S, wg_793 S, wp_793 S, wg_794 S, wp_794 S, wg_795 S, wp_795 S, wg_796 S, wp_796 S, wg_797 S, wp_797 S, wg_798 S, wp_798 S, wg_799 S, wp_799 S, wg_800 S, wp_800 S, wg_801 S, wp_801 S, wg_808 S, wp_808 S, wg_810 S, wp_810 S, mlF_o, M.2.1.1, M.2.1.2.1, M.2.1.2.2, m_lays S (M.ml _ _ _) O, mlF_ml, m_ans S M O, m_nte S M O, m_meant S (M.ml _ _ _), mlF_0, mlF_1, mlF_2, mlF_w, mlF_k, mlF_c, m_bitsOf, m_dries S (M.ml _ _ _) O, b_shr, cs, m_notw S M O]
      rfl
  · rw [decide_eq_false (show ¬ bitI s q = 0 by omega)]
    simp (disch := omega) only [if_true, if_false, not_true_eq_false, not_false_eq_true, zoI_s, zoR_s, zoH_s, zoL_s, zbI_s, zbV_s, zbR_s, zbL_s, zif_dec, i32_0, ne_eq, i32_lt, i32_le, i32_eq, i32_add, i32_mul, i32_sub, i32_neg, zrz_0, zrz_1, zif_t, zif_f, zsF_s, zsF_k, zsF_a, zsC_s, zsC_a, zsC_i, zsW_s, zsW_a, Int.add_zero, Int.zero_add, true_and, false_and, and_false, Bool.false_eq_true, decide_true, decide_false, Bool.true_and, Bool.false_and, Bool.true_or, Bool.false_or, sub1, if_pos, if_neg, wv_72 S, wr_768 S, wr_769 S, wr_777 S, wr_785 S, wr_786 S, wr_787 S, wr_789 S, wr_790 S, wr_791 S, wr_802 S, wr_803 S, wr_804 S, wr_805 S, wr_806 S, wr_807 S, wr_809 S, wg_770 S, wp_770 S, wg_771 S, wp_771 S, wg_772 S, wp_772 S, wg_773 S, wp_773 S, wg_774 S, wp_774 S, wg_775 S, wp_775 S, wg_776 S, wp_776 S, wg_778 S, wp_778 S, wg_779 S, wp_779 S, wg_780 S, wp_780 S, wg_781 S, wp_781 S, wg_782 S, wp_782 S, wg_783 S, wp_783 S, wg_784 S, wp_784 S, wg_788 S, wp_788 S, wg_792 S, wp_792 S, wg_793 S, wp_793 S, wg_794 S, wp_794 S, wg_795 S, wp_795 S, wg_796 S, wp_796 S, wg_797 S, wp_797 S, wg_798 S, wp_798 S, wg_799 S, wp_799 S, wg_800 S, wp_800 S, wg_801 S, wp_801 S, wg_808 S, wp_808 S, wg_810 S, wp_810 S, mlF_o, M.2.1.1, M.2.1.2.1, M.2.1.2.2, m_lays S (M.ml _ _ _) O, mlF_ml, m_ans S M O, m_nte S M O, m_meant S (M.ml _ _ _), mlF_0, mlF_1, mlF_2, mlF_w, mlF_k, mlF_c, m_bitsOf, m_dries S (M.ml _ _ _) O, b_shr, cs]
theorem m_programA (S : St h) (M : moV F C D) (O : dOK D) {d r p k : Int} (r0 : 0 ≤ r) (r1 : r < D 0) (p0 : 0 ≤ p) (p1 : p < D 1) : ∃ g w u v, zr 261 24 [yR (some 72), yI (i32 d), yI (i32 r), yI (i32 p), yI (i32 k), yI (i32 (2 ^ (D 2).toNat - 1)), none, none] [] (zw h F C) = zr 261 24 [yR (some 72), yI (i32 d), yI (i32 r), yI (i32 p), yI (i32 k), yI (i32 (-1)), none, none] [] (zw h (mlF F w u v) (zsW C 79 g)) ∧ ∀ s, 0 ≤ s → s < 2 ^ (D 2).toNat → g s = prgS (lstB D r p) (D 2) s := by
  have b2 := O.2.2.1
  have q3 := pw_8 (n := D 2) (by omega)
  have q4 := pw_le (n := D 2) (by omega)
  have L2 := fun s g (s0 : 0 ≤ s) (s1 : s < 2 ^ (D 2).toNat) (hg : ∀ t, s < t → t < 2 ^ (D 2).toNat → g t = prgS (lstB D r p) (D 2) t) (t : Int × Int × Int) => zfoJ (fun q b (t : Int × Int × Int) => zr 261 33 [yR (some 72), yI (i32 d), yI (i32 r), yI (i32 p), yI (i32 k), yI (i32 s), yI (i32 q), none] [] (zw h (mlF F t.1 t.2.1 t.2.2) (zsW C 79 (up1 g s b)))) (mxF (prgV (lstB D r p) (prgS (lstB D r p) (D 2)) s) s) (fun k b _ => 0 ≤ b ∧ b ≤ 9) 0 (D 2) (by omega) (fun q b t q0 q1 hi => by
    have M2 : moV F (zsW C 79 (up1 g s b)) D := M.sW _ (by omega)
    have gv := prgV_rng (lstB D r p) (n := D 2) (by omega) (by omega) s q
    refine ⟨(driS (D (4 + 2 * r)) (bitsS s), D (5 + 2 * r), D 3), ?_, ?_⟩
    · have ef := m_isFine S M2 O (s := s) (q := q) s0 (by omega) r0 r1 p0 p1 q0 q1 t.1 t.2.1 t.2.2
      rw [e_Model_program_33]
      unfold mxF
      rcases bitI_01 s q with cs | cs
      · have o := orI_lt (s := s) (r := q) (n := D 2) s0 q0 (by omega) (by omega) (by omega)
        have og := orI_gt cs
        have gg := hg (orI s q) og o.2.2
        have gr := prgS_rng (lstB D r p) (n := D 2) (by omega) (by omega) (orI s q)
        have gn : up1 g s b (orI s q) = prgS (lstB D r p) (D 2) (orI s q) := by rw [up1_n (by omega), gg]
        have gs : up1 g s b s = b := up1_s _ _ _
        have uu : ∀ z, up1 (up1 g s b) s z = up1 g s z := fun z => by
          funext j
          unfold up1
          by_cases c : j = s
          · rw [if_pos c, if_pos c]
          · rw [if_neg c, if_neg c, if_neg c]
        cases cl : lstB D r p (bitsS s) q with
        | true =>
          have ff : finB (lstB D r p) s q = false := by unfold finB; rw [cl]; simp
          have ev : prgV (lstB D r p) (prgS (lstB D r p) (D 2)) s q = 0 := if_pos cl
          rw [ff] at ef
          rw [ev]
          simp (disch := omega) only [if_true, if_false, not_true_eq_false, not_false_eq_true, zoI_s, zoR_s, zoH_s, zoL_s, zbI_s, zbV_s, zbR_s, zbL_s, zif_dec, i32_0, ne_eq, i32_lt, i32_le, i32_eq, i32_add, i32_mul, i32_sub, i32_neg, zrz_0, zrz_1, zif_t, zif_f, zsF_s, zsF_k, zsF_a, zsC_s, zsC_a, zsC_i, zsW_s, zsW_a, Int.add_zero, Int.zero_add, true_and, false_and, and_false, Bool.false_eq_true, decide_true, decide_false, Bool.true_and, Bool.false_and, Bool.true_or, Bool.false_or, sub1, if_pos, if_neg, wv_72 S, wr_768 S, wr_769 S, wr_777 S, wr_785 S, wr_786 S, wr_787 S, wr_789 S, wr_790 S, wr_791 S, wr_802 S, wr_803 S, wr_804 S, wr_805 S, wr_806 S, wr_807 S, wr_809 S, wg_770 S, wp_770 S, wg_771 S, wp_771 S, wg_772 S, wp_772 S, wg_773 S, wp_773 S, wg_774 S, wp_774 S, wg_775 S, wp_775 S, wg_776 S, wp_776 S, wg_778 S, wp_778 S, wg_779 S, wp_779 S, wg_780 S, wp_780 S, wg_781 S, wp_781 S, wg_782 S, wp_782 S, wg_783 S, wp_783 S, wg_784 S, wp_784 S, wg_788 S, wp_788 S, wg_792 S, wp_792 S, wg_793 S, wp_793 S, wg_794 S, wp_794 S, wg_795 S, wp_795 S, wg_796 S, wp_796 S, wg_797 S, wp_797 S, wg_798 S, wp_798 S, wg_799 S, wp_799 S, wg_800 S, wp_800 S, wg_801 S, wp_801 S, wg_808 S, wp_808 S, wg_810 S, wp_810 S, mlF_o, M.2.1.1, M.2.1.2.1, M.2.1.2.2, m_lays S (M.ml _ _ _) O, mlF_ml, m_ans S M O, m_nte S M O, m_meant S (M.ml _ _ _), mlF_0, mlF_1, mlF_2, mlF_w, mlF_k, mlF_c, ef, cs]
        | false =>
          have ff : finB (lstB D r p) s q = true := by unfold finB; rw [cl, decide_eq_true cs]; rfl
          have ev : prgV (lstB D r p) (prgS (lstB D r p) (D 2)) s q = 1 + prgS (lstB D r p) (D 2) (orI s q) := if_neg (by rw [cl]; simp)
          rw [ff] at ef
          rw [ev]
          by_cases c2 : b < 1 + prgS (lstB D r p) (D 2) (orI s q)
          · simp (disch := omega) only [if_true, if_false, not_true_eq_false, not_false_eq_true, zoI_s, zoR_s, zoH_s, zoL_s, zbI_s, zbV_s, zbR_s, zbL_s, zif_dec, i32_0, ne_eq, i32_lt, i32_le, i32_eq, i32_add, i32_mul, i32_sub, i32_neg, zrz_0, zrz_1, zif_t, zif_f, zsF_s, zsF_k, zsF_a, zsC_s, zsC_a, zsC_i, zsW_s, zsW_a, Int.add_zero, Int.zero_add, true_and, false_and, and_false, Bool.false_eq_true, decide_true, decide_false, Bool.true_and, Bool.false_and, Bool.true_or, Bool.false_or, sub1, if_pos, if_neg, wv_72 S, wr_768 S, wr_769 S, wr_777 S, wr_785 S, wr_786 S, wr_787 S, wr_789 S, wr_790 S, wr_791 S, wr_802 S, wr_803 S, wr_804 S, wr_805 S, wr_806 S, wr_807 S, wr_809 S, wg_770 S, wp_770 S, wg_771 S, wp_771 S, wg_772 S, wp_772 S, wg_773 S, wp_773 S, wg_774 S, wp_774 S, wg_775 S, wp_775 S, wg_776 S, wp_776 S, wg_778 S, wp_778 S, wg_779 S, wp_779 S, wg_780 S, wp_780 S, wg_781 S, wp_781 S, wg_782 S, wp_782 S, wg_783 S, wp_783 S, wg_784 S, wp_784 S, wg_788 S, wp_788 S, wg_792 S, wp_792 S, wg_793 S, wp_793 S, wg_794 S, wp_794 S, wg_795 S, wp_795 S, wg_796 S, wp_796 S, wg_797 S, wp_797 S, wg_798 S, wp_798 S, wg_799 S, wp_799 S, wg_800 S, wp_800 S, wg_801 S, wp_801 S, wg_808 S, wp_808 S, wg_810 S, wp_810 S, mlF_o, M.2.1.1, M.2.1.2.1, M.2.1.2.2, m_lays S (M.ml _ _ _) O, mlF_ml, m_ans S M O, m_nte S M O, m_meant S (M.ml _ _ _), mlF_0, mlF_1, mlF_2, mlF_w, mlF_k, mlF_c, ef, cs, b_or, wa_79 S, ws_79 S, gn, gs, zsC_W, zsW_W, uu]
          · simp (disch := omega) only [if_true, if_false, not_true_eq_false, not_false_eq_true, zoI_s, zoR_s, zoH_s, zoL_s, zbI_s, zbV_s, zbR_s, zbL_s, zif_dec, i32_0, ne_eq, i32_lt, i32_le, i32_eq, i32_add, i32_mul, i32_sub, i32_neg, zrz_0, zrz_1, zif_t, zif_f, zsF_s, zsF_k, zsF_a, zsC_s, zsC_a, zsC_i, zsW_s, zsW_a, Int.add_zero, Int.zero_add, true_and, false_and, and_false, Bool.false_eq_true, decide_true, decide_false, Bool.true_and, Bool.false_and, Bool.true_or, Bool.false_or, sub1, if_pos, if_neg, wv_72 S, wr_768 S, wr_769 S, wr_777 S, wr_785 S, wr_786 S, wr_787 S, wr_789 S, wr_790 S, wr_791 S, wr_802 S, wr_803 S, wr_804 S, wr_805 S, wr_806 S, wr_807 S, wr_809 S, wg_770 S, wp_770 S, wg_771 S, wp_771 S, wg_772 S, wp_772 S, wg_773 S, wp_773 S, wg_774 S, wp_774 S, wg_775 S, wp_775 S, wg_776 S, wp_776 S, wg_778 S, wp_778 S, wg_779 S, wp_779 S, wg_780 S, wp_780 S, wg_781 S, wp_781 S, wg_782 S, wp_782 S, wg_783 S, wp_783 S, wg_784 S, wp_784 S, wg_788 S, wp_788 S, wg_792 S, wp_792 S, wg_793 S, wp_793 S, wg_794 S, wp_794 S, wg_795 S, wp_795 S, wg_796 S, wp_796 S, wg_797 S, wp_797 S, wg_798 S, wp_798 S, wg_799 S, wp_799 S, wg_800 S, wp_800 S, wg_801 S, wp_801 S, wg_808 S, wp_808 S, wg_810 S, wp_810 S, mlF_o, M.2.1.1, M.2.1.2.1, M.2.1.2.2, m_lays S (M.ml _ _ _) O, mlF_ml, m_ans S M O, m_nte S M O, m_meant S (M.ml _ _ _), mlF_0, mlF_1, mlF_2, mlF_w, mlF_k, mlF_c, ef, cs, b_or, wa_79 S, ws_79 S, gn, gs, zsC_W, zsW_W, uu]
      · have ff : finB (lstB D r p) s q = false := by unfold finB; rw [decide_eq_false (by omega), Bool.false_and]
        rw [ff] at ef
        simp (disch := omega) only [if_true, if_false, not_true_eq_false, not_false_eq_true, zoI_s, zoR_s, zoH_s, zoL_s, zbI_s, zbV_s, zbR_s, zbL_s, zif_dec, i32_0, ne_eq, i32_lt, i32_le, i32_eq, i32_add, i32_mul, i32_sub, i32_neg, zrz_0, zrz_1, zif_t, zif_f, zsF_s, zsF_k, zsF_a, zsC_s, zsC_a, zsC_i, zsW_s, zsW_a, Int.add_zero, Int.zero_add, true_and, false_and, and_false, Bool.false_eq_true, decide_true, decide_false, Bool.true_and, Bool.false_and, Bool.true_or, Bool.false_or, sub1, if_pos, if_neg, wv_72 S, wr_768 S, wr_769 S, wr_777 S, wr_785 S, wr_786 S, wr_787 S, wr_789 S, wr_790 S, wr_791 S, wr_802 S, wr_803 S, wr_804 S, wr_805 S, wr_806 S, wr_807 S, wr_809 S, wg_770 S, wp_770 S, wg_771 S, wp_771 S, wg_772 S, wp_772 S, wg_773 S, wp_773 S, wg_774 S, wp_774 S, wg_775 S, wp_775 S, wg_776 S, wp_776 S, wg_778 S, wp_778 S, wg_779 S, wp_779 S, wg_780 S, wp_780 S, wg_781 S, wp_781 S, wg_782 S, wp_782 S, wg_783 S, wp_783 S, wg_784 S, wp_784 S, wg_788 S, wp_788 S, wg_792 S, wp_792 S, wg_793 S, wp_793 S, wg_794 S, wp_794 S, wg_795 S, wp_795 S, wg_796 S, wp_796 S, wg_797 S, wp_797 S, wg_798 S, wp_798 S, wg_799 S, wp_799 S, wg_800 S, wp_800 S, wg_801 S, wp_801 S, wg_808 S, wp_808 S, wg_810 S, wp_810 S, mlF_o, M.2.1.1, M.2.1.2.1, M.2.1.2.2, m_lays S (M.ml _ _ _) O, mlF_ml, m_ans S M O, m_nte S M O, m_meant S (M.ml _ _ _), mlF_0, mlF_1, mlF_2, mlF_w, mlF_k, mlF_c, ef, cs]
    · unfold mxF
      split
      · exact hi
      · split
        · exact gv
        · exact hi) 0 t (by omega)
  obtain ⟨⟨g, w, u, v⟩, L1, i1⟩ := zdwn (fun s (t : (Int → Int) × Int × Int × Int) => zr 261 24 [yR (some 72), yI (i32 d), yI (i32 r), yI (i32 p), yI (i32 k), yI (i32 s), none, none] [] (zw h (mlF F t.2.1 t.2.2.1 t.2.2.2) (zsW C 79 t.1))) (fun s t => ∀ x, s < x → x < 2 ^ (D 2).toNat → t.1 x = prgS (lstB D r p) (D 2) x) (-1) (2 ^ (D 2).toNat - 1) (by omega) (fun s t s0 s1 hi => by
    obtain ⟨t', l2, _⟩ := L2 s t.1 (by omega) (by omega) hi t.2
    rw [Int.sub_zero, ← prgS_eq _ (by omega) (by omega) (by omega) (by omega)] at l2
    refine ⟨(up1 t.1 s (prgS (lstB D r p) (D 2) s), t'), ?_, fun x x0 x1 => ?_⟩
    · rw [e_Model_program_24]
      simp (disch := omega) only [if_true, if_false, not_true_eq_false, not_false_eq_true, zoI_s, zoR_s, zoH_s, zoL_s, zbI_s, zbV_s, zbR_s, zbL_s, zif_dec, i32_0, ne_eq, i32_lt, i32_le, i32_eq, i32_add, i32_mul, i32_sub, i32_neg, zrz_0, zrz_1, zif_t, zif_f, zsF_s, zsF_k, zsF_a, zsC_s, zsC_a, zsC_i, zsW_s, zsW_a, Int.add_zero, Int.zero_add, true_and, false_and, and_false, Bool.false_eq_true, decide_true, decide_false, Bool.true_and, Bool.false_and, Bool.true_or, Bool.false_or, sub1, if_pos, if_neg, wv_72 S, wr_768 S, wr_769 S, wr_777 S, wr_785 S, wr_786 S, wr_787 S, wr_789 S, wr_790 S, wr_791 S, wr_802 S, wr_803 S, wr_804 S, wr_805 S, wr_806 S, wr_807 S, wr_809 S, wg_770 S, wp_770 S, wg_771 S, wp_771 S, wg_772 S, wp_772 S, wg_773 S, wp_773 S, wg_774 S, wp_774 S, wg_775 S, wp_775 S, wg_776 S, wp_776 S, wg_778 S, wp_778 S, wg_779 S, wp_779 S, wg_780 S, wp_780 S, wg_781 S, wp_781 S, wg_782 S, wp_782 S, wg_783 S, wp_783 S, wg_784 S, wp_784 S, wg_788 S, wp_788 S, wg_792 S, wp_792 S, wg_793 S, wp_793 S, wg_794 S, wp_794 S, wg_795 S, wp_795 S, wg_796 S, wp_796 S, wg_797 S, wp_797 S, wg_798 S, wp_798 S, wg_799 S, wp_799 S, wg_800 S, wp_800 S, wg_801 S, wp_801 S, wg_808 S, wp_808 S, wg_810 S, wp_810 S, mlF_o, M.2.1.1, M.2.1.2.1, M.2.1.2.2, m_lays S (M.ml _ _ _) O, mlF_ml, m_ans S M O, m_nte S M O, m_meant S (M.ml _ _ _), mlF_0, mlF_1, mlF_2, mlF_w, mlF_k, mlF_c, wa_79 S, ws_79 S, zsC_W, zsW_W, l2]
      rw [e_Model_program_33]
      simp (disch := omega) only [if_true, if_false, not_true_eq_false, not_false_eq_true, zoI_s, zoR_s, zoH_s, zoL_s, zbI_s, zbV_s, zbR_s, zbL_s, zif_dec, i32_0, ne_eq, i32_lt, i32_le, i32_eq, i32_add, i32_mul, i32_sub, i32_neg, zrz_0, zrz_1, zif_t, zif_f, zsF_s, zsF_k, zsF_a, zsC_s, zsC_a, zsC_i, zsW_s, zsW_a, Int.add_zero, Int.zero_add, true_and, false_and, and_false, Bool.false_eq_true, decide_true, decide_false, Bool.true_and, Bool.false_and, Bool.true_or, Bool.false_or, sub1, if_pos, if_neg, wv_72 S, wr_768 S, wr_769 S, wr_777 S, wr_785 S, wr_786 S, wr_787 S, wr_789 S, wr_790 S, wr_791 S, wr_802 S, wr_803 S, wr_804 S, wr_805 S, wr_806 S, wr_807 S, wr_809 S, wg_770 S, wp_770 S, wg_771 S, wp_771 S, wg_772 S, wp_772 S, wg_773 S, wp_773 S, wg_774 S, wp_774 S, wg_775 S, wp_775 S, wg_776 S, wp_776 S, wg_778 S, wp_778 S, wg_779 S, wp_779 S, wg_780 S, wp_780 S, wg_781 S, wp_781 S, wg_782 S, wp_782 S, wg_783 S, wp_783 S, wg_784 S, wp_784 S, wg_788 S, wp_788 S, wg_792 S, wp_792 S, wg_793 S, wp_793 S, wg_794 S, wp_794 S, wg_795 S, wp_795 S, wg_796 S, wp_796 S, wg_797 S, wp_797 S, wg_798 S, wp_798 S, wg_799 S, wp_799 S, wg_800 S, wp_800 S, wg_801 S, wp_801 S, wg_808 S, wp_808 S, wg_810 S, wp_810 S, mlF_o, M.2.1.1, M.2.1.2.1, M.2.1.2.2, m_lays S (M.ml _ _ _) O, mlF_ml, m_ans S M O, m_nte S M O, m_meant S (M.ml _ _ _), mlF_0, mlF_1, mlF_2, mlF_w, mlF_k, mlF_c, d_Model_program_24_w6, d_Model_program_89_w7]
    · by_cases c : x = s
      · rw [c]; exact up1_s _ _ _
      · dsimp only; rw [up1_n c]; exact hi x (by omega) x1) (C 79, F 782 72, F 783 72, F 784 72) (fun x x0 x1 => by omega)
  dsimp only at L1 i1
  rw [zsW_id, mlF_id] at L1
  exact ⟨g, w, u, v, L1, fun s s0 s1 => i1 s (by omega) s1⟩
theorem m_programB (S : St h) (M : moV F C D) (O : dOK D) {d r p k : Int} (r0 : 0 ≤ r) (r1 : r < D 0) (p0 : 0 ≤ p) (p1 : p < D 1) (hk : inI k) (hg : ∀ s, 0 ≤ s → s < 2 ^ (D 2).toNat → C 79 s = prgS (lstB D r p) (D 2) s) : ∀ (j : Nat) (s n w u v : Int), prgS (lstB D r p) (D 2) s = j → 0 ≤ s → s < 2 ^ (D 2).toNat → 0 ≤ n → n ≤ k → n + j ≤ 20 → ∃ w' u' v', zr 261 89 [yR (some 72), yI (i32 d), yI (i32 r), yI (i32 p), yI (i32 k), yI (i32 s), yI (i32 n), none] [] (zw h (mlF F w u v) C) = some (zI (i32 (if k - n < prgS (lstB D r p) (D 2) s then prgK (lstB D r p) (D 2) (k - n).toNat s else -1)), zw h (mlF F w' u' v') C) := by
  have b2 := O.2.2.1
  have q3 := pw_8 (n := D 2) (by omega)
  unfold inI at hk
  intro j
  induction j with
  | zero =>
    intro s n w u v hs s0 s1 n0 n1 n2
    refine ⟨w, u, v, ?_⟩
    rw [e_Model_program_89]
    simp (disch := omega) only [if_true, if_false, not_true_eq_false, not_false_eq_true, zoI_s, zoR_s, zoH_s, zoL_s, zbI_s, zbV_s, zbR_s, zbL_s, zif_dec, i32_0, ne_eq, i32_lt, i32_le, i32_eq, i32_add, i32_mul, i32_sub, i32_neg, zrz_0, zrz_1, zif_t, zif_f, zsF_s, zsF_k, zsF_a, zsC_s, zsC_a, zsC_i, zsW_s, zsW_a, Int.add_zero, Int.zero_add, true_and, false_and, and_false, Bool.false_eq_true, decide_true, decide_false, Bool.true_and, Bool.false_and, Bool.true_or, Bool.false_or, sub1, if_pos, if_neg, wv_72 S, wr_768 S, wr_769 S, wr_777 S, wr_785 S, wr_786 S, wr_787 S, wr_789 S, wr_790 S, wr_791 S, wr_802 S, wr_803 S, wr_804 S, wr_805 S, wr_806 S, wr_807 S, wr_809 S, wg_770 S, wp_770 S, wg_771 S, wp_771 S, wg_772 S, wp_772 S, wg_773 S, wp_773 S, wg_774 S, wp_774 S, wg_775 S, wp_775 S, wg_776 S, wp_776 S, wg_778 S, wp_778 S, wg_779 S, wp_779 S, wg_780 S, wp_780 S, wg_781 S, wp_781 S, wg_782 S, wp_782 S, wg_783 S, wp_783 S, wg_784 S, wp_784 S, wg_788 S, wp_788 S, wg_792 S, wp_792 S, wg_793 S, wp_793 S, wg_794 S, wp_794 S, wg_795 S, wp_795 S, wg_796 S, wp_796 S, wg_797 S, wp_797 S, wg_798 S, wp_798 S, wg_799 S, wp_799 S, wg_800 S, wp_800 S, wg_801 S, wp_801 S, wg_808 S, wp_808 S, wg_810 S, wp_810 S, mlF_o, M.2.1.1, M.2.1.2.1, M.2.1.2.2, m_lays S (M.ml _ _ _) O, mlF_ml, m_ans S M O, m_nte S M O, m_meant S (M.ml _ _ _), mlF_0, mlF_1, mlF_2, mlF_w, mlF_k, mlF_c, wa_79 S, ws_79 S, hg, hs]
  | succ j ih =>
    intro s n w u v hs s0 s1 n0 n1 n2
    have sp := prgQ_spec (lstB D r p) (n := D 2) (by omega) (by omega) s0 s1 (by omega)
    have o := orI_lt (s := s) (r := prgQ (lstB D r p) (D 2) s) (n := D 2) s0 sp.1.1 sp.1.2 (by omega) s1
    have gs := hg s s0 s1
    have gr := prgS_rng (lstB D r p) (n := D 2) (by omega) (by omega) s
    obtain ⟨t, L1⟩ := zfstJ (fun q (t : Int × Int × Int) => zr 261 96 [yR (some 72), yI (i32 d), yI (i32 r), yI (i32 p), yI (i32 k), yI (i32 s), yI (i32 n), yI (i32 q)] [] (zw h (mlF F t.1 t.2.1 t.2.2) C)) (fun q t => if n = k then some (zI (i32 q), zw h (mlF F t.1 t.2.1 t.2.2) C) else zr 261 89 [yR (some 72), yI (i32 d), yI (i32 r), yI (i32 p), yI (i32 k), yI (i32 (orI s q)), yI (i32 (n + 1)), none] [] (zw h (mlF F t.1 t.2.1 t.2.2) C)) (prgP (lstB D r p) (D 2) s) 0 (D 2) (by omega) (by omega) (fun q t q0 q1 hp => by
      have oq := orI_lt (s := s) (r := q) (n := D 2) s0 q0 q1 (by omega) s1
      have gq := hg _ oq.1 oq.2.2
      have grq := prgS_rng (lstB D r p) (n := D 2) (by omega) (by omega) (orI s q)
      have ef := m_isFine S M O (s := s) (q := q) s0 (by omega) r0 r1 p0 p1 q0 q1 t.1 t.2.1 t.2.2
      unfold prgP at hp
      rw [Bool.and_eq_true] at hp
      have c2 := of_decide_eq_true hp.2
      rw [hp.1] at ef
      refine ⟨(driS (D (4 + 2 * r)) (bitsS s), D (5 + 2 * r), D 3), ?_⟩
      rw [e_Model_program_96]
      by_cases cn : n = k
      · simp (disch := omega) only [if_true, if_false, not_true_eq_false, not_false_eq_true, zoI_s, zoR_s, zoH_s, zoL_s, zbI_s, zbV_s, zbR_s, zbL_s, zif_dec, i32_0, ne_eq, i32_lt, i32_le, i32_eq, i32_add, i32_mul, i32_sub, i32_neg, zrz_0, zrz_1, zif_t, zif_f, zsF_s, zsF_k, zsF_a, zsC_s, zsC_a, zsC_i, zsW_s, zsW_a, Int.add_zero, Int.zero_add, true_and, false_and, and_false, Bool.false_eq_true, decide_true, decide_false, Bool.true_and, Bool.false_and, Bool.true_or, Bool.false_or, sub1, if_pos, if_neg, wv_72 S, wr_768 S, wr_769 S, wr_777 S, wr_785 S, wr_786 S, wr_787 S, wr_789 S, wr_790 S, wr_791 S, wr_802 S, wr_803 S, wr_804 S, wr_805 S, wr_806 S, wr_807 S, wr_809 S, wg_770 S, wp_770 S, wg_771 S, wp_771 S, wg_772 S, wp_772 S, wg_773 S, wp_773 S, wg_774 S, wp_774 S, wg_775 S, wp_775 S, wg_776 S, wp_776 S, wg_778 S, wp_778 S, wg_779 S, wp_779 S, wg_780 S, wp_780 S, wg_781 S, wp_781 S, wg_782 S, wp_782 S, wg_783 S, wp_783 S, wg_784 S, wp_784 S, wg_788 S, wp_788 S, wg_792 S, wp_792 S, wg_793 S, wp_793 S, wg_794 S, wp_794 S, wg_795 S, wp_795 S, wg_796 S, wp_796 S, wg_797 S, wp_797 S, wg_798 S, wp_798 S, wg_799 S, wp_799 S, wg_800 S, wp_800 S, wg_801 S, wp_801 S, wg_808 S, wp_808 S, wg_810 S, wp_810 S, mlF_o, M.2.1.1, M.2.1.2.1, M.2.1.2.2, m_lays S (M.ml _ _ _) O, mlF_ml, m_ans S M O, m_nte S M O, m_meant S (M.ml _ _ _), mlF_0, mlF_1, mlF_2, mlF_w, mlF_k, mlF_c, ef, b_or, wa_79 S, ws_79 S, gq, gs]
      · simp (disch := omega) only [if_true, if_false, not_true_eq_false, not_false_eq_true, zoI_s, zoR_s, zoH_s, zoL_s, zbI_s, zbV_s, zbR_s, zbL_s, zif_dec, i32_0, ne_eq, i32_lt, i32_le, i32_eq, i32_add, i32_mul, i32_sub, i32_neg, zrz_0, zrz_1, zif_t, zif_f, zsF_s, zsF_k, zsF_a, zsC_s, zsC_a, zsC_i, zsW_s, zsW_a, Int.add_zero, Int.zero_add, true_and, false_and, and_false, Bool.false_eq_true, decide_true, decide_false, Bool.true_and, Bool.false_and, Bool.true_or, Bool.false_or, sub1, if_pos, if_neg, wv_72 S, wr_768 S, wr_769 S, wr_777 S, wr_785 S, wr_786 S, wr_787 S, wr_789 S, wr_790 S, wr_791 S, wr_802 S, wr_803 S, wr_804 S, wr_805 S, wr_806 S, wr_807 S, wr_809 S, wg_770 S, wp_770 S, wg_771 S, wp_771 S, wg_772 S, wp_772 S, wg_773 S, wp_773 S, wg_774 S, wp_774 S, wg_775 S, wp_775 S, wg_776 S, wp_776 S, wg_778 S, wp_778 S, wg_779 S, wp_779 S, wg_780 S, wp_780 S, wg_781 S, wp_781 S, wg_782 S, wp_782 S, wg_783 S, wp_783 S, wg_784 S, wp_784 S, wg_788 S, wp_788 S, wg_792 S, wp_792 S, wg_793 S, wp_793 S, wg_794 S, wp_794 S, wg_795 S, wp_795 S, wg_796 S, wp_796 S, wg_797 S, wp_797 S, wg_798 S, wp_798 S, wg_799 S, wp_799 S, wg_800 S, wp_800 S, wg_801 S, wp_801 S, wg_808 S, wp_808 S, wg_810 S, wp_810 S, mlF_o, M.2.1.1, M.2.1.2.1, M.2.1.2.2, m_lays S (M.ml _ _ _) O, mlF_ml, m_ans S M O, m_nte S M O, m_meant S (M.ml _ _ _), mlF_0, mlF_1, mlF_2, mlF_w, mlF_k, mlF_c, ef, b_or, wa_79 S, ws_79 S, gq, gs, d_Model_program_24_w6, d_Model_program_89_w7]) (fun q t q0 q1 hp => by
      have oq := orI_lt (s := s) (r := q) (n := D 2) s0 q0 q1 (by omega) s1
      have gq := hg _ oq.1 oq.2.2
      have grq := prgS_rng (lstB D r p) (n := D 2) (by omega) (by omega) (orI s q)
      have ef := m_isFine S M O (s := s) (q := q) s0 (by omega) r0 r1 p0 p1 q0 q1 t.1 t.2.1 t.2.2
      unfold prgP at hp
      refine ⟨(driS (D (4 + 2 * r)) (bitsS s), D (5 + 2 * r), D 3), ?_⟩
      rw [e_Model_program_96]
      cases cf : finB (lstB D r p) s q with
      | true =>
        rw [cf, Bool.true_and] at hp
        have c2 := of_decide_eq_false hp
        rw [cf] at ef
        simp (disch := omega) only [if_true, if_false, not_true_eq_false, not_false_eq_true, zoI_s, zoR_s, zoH_s, zoL_s, zbI_s, zbV_s, zbR_s, zbL_s, zif_dec, i32_0, ne_eq, i32_lt, i32_le, i32_eq, i32_add, i32_mul, i32_sub, i32_neg, zrz_0, zrz_1, zif_t, zif_f, zsF_s, zsF_k, zsF_a, zsC_s, zsC_a, zsC_i, zsW_s, zsW_a, Int.add_zero, Int.zero_add, true_and, false_and, and_false, Bool.false_eq_true, decide_true, decide_false, Bool.true_and, Bool.false_and, Bool.true_or, Bool.false_or, sub1, if_pos, if_neg, wv_72 S, wr_768 S, wr_769 S, wr_777 S, wr_785 S, wr_786 S, wr_787 S, wr_789 S, wr_790 S, wr_791 S, wr_802 S, wr_803 S, wr_804 S, wr_805 S, wr_806 S, wr_807 S, wr_809 S, wg_770 S, wp_770 S, wg_771 S, wp_771 S, wg_772 S, wp_772 S, wg_773 S, wp_773 S, wg_774 S, wp_774 S, wg_775 S, wp_775 S, wg_776 S, wp_776 S, wg_778 S, wp_778 S, wg_779 S, wp_779 S, wg_780 S, wp_780 S, wg_781 S, wp_781 S, wg_782 S, wp_782 S, wg_783 S, wp_783 S, wg_784 S, wp_784 S, wg_788 S, wp_788 S, wg_792 S, wp_792 S, wg_793 S, wp_793 S, wg_794 S, wp_794 S, wg_795 S, wp_795 S, wg_796 S, wp_796 S, wg_797 S, wp_797 S, wg_798 S, wp_798 S, wg_799 S, wp_799 S, wg_800 S, wp_800 S, wg_801 S, wp_801 S, wg_808 S, wp_808 S, wg_810 S, wp_810 S, mlF_o, M.2.1.1, M.2.1.2.1, M.2.1.2.2, m_lays S (M.ml _ _ _) O, mlF_ml, m_ans S M O, m_nte S M O, m_meant S (M.ml _ _ _), mlF_0, mlF_1, mlF_2, mlF_w, mlF_k, mlF_c, ef, b_or, wa_79 S, ws_79 S, gq, gs]
      | false =>
        rw [cf] at ef
        simp (disch := omega) only [if_true, if_false, not_true_eq_false, not_false_eq_true, zoI_s, zoR_s, zoH_s, zoL_s, zbI_s, zbV_s, zbR_s, zbL_s, zif_dec, i32_0, ne_eq, i32_lt, i32_le, i32_eq, i32_add, i32_mul, i32_sub, i32_neg, zrz_0, zrz_1, zif_t, zif_f, zsF_s, zsF_k, zsF_a, zsC_s, zsC_a, zsC_i, zsW_s, zsW_a, Int.add_zero, Int.zero_add, true_and, false_and, and_false, Bool.false_eq_true, decide_true, decide_false, Bool.true_and, Bool.false_and, Bool.true_or, Bool.false_or, sub1, if_pos, if_neg, wv_72 S, wr_768 S, wr_769 S, wr_777 S, wr_785 S, wr_786 S, wr_787 S, wr_789 S, wr_790 S, wr_791 S, wr_802 S, wr_803 S, wr_804 S, wr_805 S, wr_806 S, wr_807 S, wr_809 S, wg_770 S, wp_770 S, wg_771 S, wp_771 S, wg_772 S, wp_772 S, wg_773 S, wp_773 S, wg_774 S, wp_774 S, wg_775 S, wp_775 S, wg_776 S, wp_776 S, wg_778 S, wp_778 S, wg_779 S, wp_779 S, wg_780 S, wp_780 S, wg_781 S, wp_781 S, wg_782 S, wp_782 S, wg_783 S, wp_783 S, wg_784 S, wp_784 S, wg_788 S, wp_788 S, wg_792 S, wp_792 S, wg_793 S, wp_793 S, wg_794 S, wp_794 S, wg_795 S, wp_795 S, wg_796 S, wp_796 S, wg_797 S, wp_797 S, wg_798 S, wp_798 S, wg_799 S, wp_799 S, wg_800 S, wp_800 S, wg_801 S, wp_801 S, wg_808 S, wp_808 S, wg_810 S, wp_810 S, mlF_o, M.2.1.1, M.2.1.2.1, M.2.1.2.2, m_lays S (M.ml _ _ _) O, mlF_ml, m_ans S M O, m_nte S M O, m_meant S (M.ml _ _ _), mlF_0, mlF_1, mlF_2, mlF_w, mlF_k, mlF_c, ef]) (w, u, v)
    dsimp only at L1
    rw [Int.sub_zero, show fstF (prgP (lstB D r p) (D 2) s) 0 (D 2).toNat = prgQ (lstB D r p) (D 2) s from rfl, if_neg (by omega)] at L1
    by_cases cn : n = k
    · rw [if_pos cn] at L1
      refine ⟨t.1, t.2.1, t.2.2, ?_⟩
      rw [e_Model_program_89]
      simp (disch := omega) only [if_true, if_false, not_true_eq_false, not_false_eq_true, zoI_s, zoR_s, zoH_s, zoL_s, zbI_s, zbV_s, zbR_s, zbL_s, zif_dec, i32_0, ne_eq, i32_lt, i32_le, i32_eq, i32_add, i32_mul, i32_sub, i32_neg, zrz_0, zrz_1, zif_t, zif_f, zsF_s, zsF_k, zsF_a, zsC_s, zsC_a, zsC_i, zsW_s, zsW_a, Int.add_zero, Int.zero_add, true_and, false_and, and_false, Bool.false_eq_true, decide_true, decide_false, Bool.true_and, Bool.false_and, Bool.true_or, Bool.false_or, sub1, if_pos, if_neg, wv_72 S, wr_768 S, wr_769 S, wr_777 S, wr_785 S, wr_786 S, wr_787 S, wr_789 S, wr_790 S, wr_791 S, wr_802 S, wr_803 S, wr_804 S, wr_805 S, wr_806 S, wr_807 S, wr_809 S, wg_770 S, wp_770 S, wg_771 S, wp_771 S, wg_772 S, wp_772 S, wg_773 S, wp_773 S, wg_774 S, wp_774 S, wg_775 S, wp_775 S, wg_776 S, wp_776 S, wg_778 S, wp_778 S, wg_779 S, wp_779 S, wg_780 S, wp_780 S, wg_781 S, wp_781 S, wg_782 S, wp_782 S, wg_783 S, wp_783 S, wg_784 S, wp_784 S, wg_788 S, wp_788 S, wg_792 S, wp_792 S, wg_793 S, wp_793 S, wg_794 S, wp_794 S, wg_795 S, wp_795 S, wg_796 S, wp_796 S, wg_797 S, wp_797 S, wg_798 S, wp_798 S, wg_799 S, wp_799 S, wg_800 S, wp_800 S, wg_801 S, wp_801 S, wg_808 S, wp_808 S, wg_810 S, wp_810 S, mlF_o, M.2.1.1, M.2.1.2.1, M.2.1.2.2, m_lays S (M.ml _ _ _) O, mlF_ml, m_ans S M O, m_nte S M O, m_meant S (M.ml _ _ _), mlF_0, mlF_1, mlF_2, mlF_w, mlF_k, mlF_c, wa_79 S, ws_79 S, gs, L1]
      rw [show (k - n).toNat = 0 by omega]
      rfl
    · rw [if_neg cn] at L1
      obtain ⟨w', u', v', e⟩ := ih (orI s (prgQ (lstB D r p) (D 2) s)) (n + 1) t.1 t.2.1 t.2.2 (by omega) o.1 o.2.2 (by omega) (by omega) (by omega)
      refine ⟨w', u', v', ?_⟩
      rw [e_Model_program_89]
      simp (disch := omega) only [if_true, if_false, not_true_eq_false, not_false_eq_true, zoI_s, zoR_s, zoH_s, zoL_s, zbI_s, zbV_s, zbR_s, zbL_s, zif_dec, i32_0, ne_eq, i32_lt, i32_le, i32_eq, i32_add, i32_mul, i32_sub, i32_neg, zrz_0, zrz_1, zif_t, zif_f, zsF_s, zsF_k, zsF_a, zsC_s, zsC_a, zsC_i, zsW_s, zsW_a, Int.add_zero, Int.zero_add, true_and, false_and, and_false, Bool.false_eq_true, decide_true, decide_false, Bool.true_and, Bool.false_and, Bool.true_or, Bool.false_or, sub1, if_pos, if_neg, wv_72 S, wr_768 S, wr_769 S, wr_777 S, wr_785 S, wr_786 S, wr_787 S, wr_789 S, wr_790 S, wr_791 S, wr_802 S, wr_803 S, wr_804 S, wr_805 S, wr_806 S, wr_807 S, wr_809 S, wg_770 S, wp_770 S, wg_771 S, wp_771 S, wg_772 S, wp_772 S, wg_773 S, wp_773 S, wg_774 S, wp_774 S, wg_775 S, wp_775 S, wg_776 S, wp_776 S, wg_778 S, wp_778 S, wg_779 S, wp_779 S, wg_780 S, wp_780 S, wg_781 S, wp_781 S, wg_782 S, wp_782 S, wg_783 S, wp_783 S, wg_784 S, wp_784 S, wg_788 S, wp_788 S, wg_792 S, wp_792 S, wg_793 S, wp_793 S, wg_794 S, wp_794 S, wg_795 S, wp_795 S, wg_796 S, wp_796 S, wg_797 S, wp_797 S, wg_798 S, wp_798 S, wg_799 S, wp_799 S, wg_800 S, wp_800 S, wg_801 S, wp_801 S, wg_808 S, wp_808 S, wg_810 S, wp_810 S, mlF_o, M.2.1.1, M.2.1.2.1, M.2.1.2.2, m_lays S (M.ml _ _ _) O, mlF_ml, m_ans S M O, m_nte S M O, m_meant S (M.ml _ _ _), mlF_0, mlF_1, mlF_2, mlF_w, mlF_k, mlF_c, wa_79 S, ws_79 S, gs, L1]
      rw [e, show (k - n).toNat = (k - (n + 1)).toNat + 1 by omega, prgK]
      by_cases c : k - n < prgS (lstB D r p) (D 2) s
      · rw [if_pos c, if_pos (by omega)]
      · rw [if_neg c, if_neg (by omega)]
end A18
def programQ (A : Int → Int) (d r p k : Int) : Int := if (0 ≤ d ∧ d < A 0) ∧ (0 ≤ r ∧ r < (dOf A d) 0) ∧ (0 ≤ p ∧ p < (dOf A d) 1) then progS (lstB (dOf A d) r p) ((dOf A d) 2) k else -1
theorem c_program {d r p k : Int} (hd : inI d) (hr : inI r) (hp : inI p) (hk : inI k) : ans1 173 0 [zI (i32 d), zI (i32 r), zI (i32 p), zI (i32 k)] (fun A => zI (i32 (programQ A d r p k))) := by
  intro h F C Q
  have S := Q.1
  unfold inI at hd hr hp hk
  unfold programQ
  by_cases c1 : 0 ≤ d ∧ d < C 73 0
  · have H := Q.dS c1.1 c1.2
    have V := Q.dV c1.1 c1.2
    have O := Q.dO c1.1 c1.2
    have ha : 8 + 13 * d.toNat ≤ 28 := by have := Q.2.2.1.1; omega
    by_cases g1 : 0 ≤ r ∧ r < (dOf (C 73) d) 0
    · by_cases g2 : 0 ≤ p ∧ p < (dOf (C 73) d) 1
      · skip
        obtain ⟨f, g, e, hf, hg⟩ := c_compose (F := F) (C := C) S H V O ha g1.1 g1.2 g2.1 g2.2
        have b2 := O.2.2.1
        have q4 := pw_le (n := (dOf (C 73) d) 2) (by omega)
        have V2 := (V.sW (b := 64) f ha (by omega)).sW (b := 63) g ha (by omega)
        have g0 := hg 0 (by omega) (by omega)
        have gr := prgS_rng (lstB (dOf (C 73) d) r p) (n := (dOf (C 73) d) 2) (by omega) (by omega) 0
        refine ⟨F, _, ?_, (tq.rfl.sW (a := 64) (f := f) (by omega) (by omega)).sW (a := 63) (f := g) (by omega) (by omega)⟩
        unfold progS
        by_cases cb : k = -1
        · simp (disch := omega) only [if_true, if_false, not_true_eq_false, not_false_eq_true, zoI_s, zoR_s, zoH_s, zoL_s, zbI_s, zbV_s, zbR_s, zbL_s, zif_dec, i32_0, ne_eq, i32_lt, i32_le, i32_eq, i32_add, i32_mul, i32_sub, i32_neg, zrz_0, zrz_1, zif_t, zif_f, zsF_s, zsF_k, zsF_a, zsC_s, zsC_a, zsC_i, zsW_s, zsW_a, Int.add_zero, Int.zero_add, true_and, false_and, and_false, Bool.false_eq_true, decide_true, decide_false, Bool.true_and, Bool.false_and, Bool.true_or, Bool.false_or, sub1, if_pos, if_neg, wv_0 S, wr_704 S, wr_705 S, wr_706 S, wr_707 S, wr_708 S, wr_709 S, wr_710 S, wr_711 S, wv_68 S, wr_384 S, wr_385 S, wr_386 S, tv_1 S, dv H, dg_128 H, dp_128 H, dg_129 H, dp_129 H, dg_130 H, dp_130 H, dg_131 H, dp_131 H, dr_132 H, da_132 H, dr_133 H, da_133 H, dr_134 H, da_134 H, dr_135 H, da_135 H, dr_136 H, da_136 H, dr_137 H, da_137 H, c_dAt Q, Option.isNone_some, Option.isSome_some, c_hasReed H V O, c_hasPlayer H V O, c_hasQuestion H V O, c_hasAll H V O, c_isAnswer, c_within, ib_0, e_Main_program, e, wv_60 S, wr_256 S, wr_257 S, wr_258 S, wr_259 S, e_Plans_longest, wa_63 S, ws_63 S, g0]
        · by_cases c2 : 0 ≤ k ∧ k < prgS (lstB (dOf (C 73) d) r p) ((dOf (C 73) d) 2) 0
          · have ef := c_programAtL (F := F) (C := zsW (zsW C 64 f) 63 g) (L := lstB (dOf (C 73) d) r p) (k := k) S H V2 O (by rw [zsW_a (by omega), zsW_s]; exact hf) (by rw [zsW_s]; exact hg) (by omega) k.toNat 0 0 (-1) (by omega) (by omega) (by omega) (by omega) (by omega)
            simp (disch := omega) only [if_true, if_false, not_true_eq_false, not_false_eq_true, zoI_s, zoR_s, zoH_s, zoL_s, zbI_s, zbV_s, zbR_s, zbL_s, zif_dec, i32_0, ne_eq, i32_lt, i32_le, i32_eq, i32_add, i32_mul, i32_sub, i32_neg, zrz_0, zrz_1, zif_t, zif_f, zsF_s, zsF_k, zsF_a, zsC_s, zsC_a, zsC_i, zsW_s, zsW_a, Int.add_zero, Int.zero_add, true_and, false_and, and_false, Bool.false_eq_true, decide_true, decide_false, Bool.true_and, Bool.false_and, Bool.true_or, Bool.false_or, sub1, if_pos, if_neg, wv_0 S, wr_704 S, wr_705 S, wr_706 S, wr_707 S, wr_708 S, wr_709 S, wr_710 S, wr_711 S, wv_68 S, wr_384 S, wr_385 S, wr_386 S, tv_1 S, dv H, dg_128 H, dp_128 H, dg_129 H, dp_129 H, dg_130 H, dp_130 H, dg_131 H, dp_131 H, dr_132 H, da_132 H, dr_133 H, da_133 H, dr_134 H, da_134 H, dr_135 H, da_135 H, dr_136 H, da_136 H, dr_137 H, da_137 H, c_dAt Q, Option.isNone_some, Option.isSome_some, c_hasReed H V O, c_hasPlayer H V O, c_hasQuestion H V O, c_hasAll H V O, c_isAnswer, c_within, ib_0, e_Main_program, e, wv_60 S, wr_256 S, wr_257 S, wr_258 S, wr_259 S, e_Plans_programAt, wa_63 S, ws_63 S, g0, ef]
          · by_cases c3 : k < 0
            · simp (disch := omega) only [if_true, if_false, not_true_eq_false, not_false_eq_true, zoI_s, zoR_s, zoH_s, zoL_s, zbI_s, zbV_s, zbR_s, zbL_s, zif_dec, i32_0, ne_eq, i32_lt, i32_le, i32_eq, i32_add, i32_mul, i32_sub, i32_neg, zrz_0, zrz_1, zif_t, zif_f, zsF_s, zsF_k, zsF_a, zsC_s, zsC_a, zsC_i, zsW_s, zsW_a, Int.add_zero, Int.zero_add, true_and, false_and, and_false, Bool.false_eq_true, decide_true, decide_false, Bool.true_and, Bool.false_and, Bool.true_or, Bool.false_or, sub1, if_pos, if_neg, wv_0 S, wr_704 S, wr_705 S, wr_706 S, wr_707 S, wr_708 S, wr_709 S, wr_710 S, wr_711 S, wv_68 S, wr_384 S, wr_385 S, wr_386 S, tv_1 S, dv H, dg_128 H, dp_128 H, dg_129 H, dp_129 H, dg_130 H, dp_130 H, dg_131 H, dp_131 H, dr_132 H, da_132 H, dr_133 H, da_133 H, dr_134 H, da_134 H, dr_135 H, da_135 H, dr_136 H, da_136 H, dr_137 H, da_137 H, c_dAt Q, Option.isNone_some, Option.isSome_some, c_hasReed H V O, c_hasPlayer H V O, c_hasQuestion H V O, c_hasAll H V O, c_isAnswer, c_within, ib_0, e_Main_program, e, wv_60 S, wr_256 S, wr_257 S, wr_258 S, wr_259 S, e_Plans_programAt, wa_63 S, ws_63 S, g0]
            · simp (disch := omega) only [if_true, if_false, not_true_eq_false, not_false_eq_true, zoI_s, zoR_s, zoH_s, zoL_s, zbI_s, zbV_s, zbR_s, zbL_s, zif_dec, i32_0, ne_eq, i32_lt, i32_le, i32_eq, i32_add, i32_mul, i32_sub, i32_neg, zrz_0, zrz_1, zif_t, zif_f, zsF_s, zsF_k, zsF_a, zsC_s, zsC_a, zsC_i, zsW_s, zsW_a, Int.add_zero, Int.zero_add, true_and, false_and, and_false, Bool.false_eq_true, decide_true, decide_false, Bool.true_and, Bool.false_and, Bool.true_or, Bool.false_or, sub1, if_pos, if_neg, wv_0 S, wr_704 S, wr_705 S, wr_706 S, wr_707 S, wr_708 S, wr_709 S, wr_710 S, wr_711 S, wv_68 S, wr_384 S, wr_385 S, wr_386 S, tv_1 S, dv H, dg_128 H, dp_128 H, dg_129 H, dp_129 H, dg_130 H, dp_130 H, dg_131 H, dp_131 H, dr_132 H, da_132 H, dr_133 H, da_133 H, dr_134 H, da_134 H, dr_135 H, da_135 H, dr_136 H, da_136 H, dr_137 H, da_137 H, c_dAt Q, Option.isNone_some, Option.isSome_some, c_hasReed H V O, c_hasPlayer H V O, c_hasQuestion H V O, c_hasAll H V O, c_isAnswer, c_within, ib_0, e_Main_program, e, wv_60 S, wr_256 S, wr_257 S, wr_258 S, wr_259 S, e_Plans_programAt, wa_63 S, ws_63 S, g0]
      · refine ⟨_, C, ?_, tq.rfl⟩
        simp (disch := omega) only [if_true, if_false, not_true_eq_false, not_false_eq_true, zoI_s, zoR_s, zoH_s, zoL_s, zbI_s, zbV_s, zbR_s, zbL_s, zif_dec, i32_0, ne_eq, i32_lt, i32_le, i32_eq, i32_add, i32_mul, i32_sub, i32_neg, zrz_0, zrz_1, zif_t, zif_f, zsF_s, zsF_k, zsF_a, zsC_s, zsC_a, zsC_i, zsW_s, zsW_a, Int.add_zero, Int.zero_add, true_and, false_and, and_false, Bool.false_eq_true, decide_true, decide_false, Bool.true_and, Bool.false_and, Bool.true_or, Bool.false_or, sub1, if_pos, if_neg, wv_0 S, wr_704 S, wr_705 S, wr_706 S, wr_707 S, wr_708 S, wr_709 S, wr_710 S, wr_711 S, wv_68 S, wr_384 S, wr_385 S, wr_386 S, tv_1 S, dv H, dg_128 H, dp_128 H, dg_129 H, dp_129 H, dg_130 H, dp_130 H, dg_131 H, dp_131 H, dr_132 H, da_132 H, dr_133 H, da_133 H, dr_134 H, da_134 H, dr_135 H, da_135 H, dr_136 H, da_136 H, dr_137 H, da_137 H, c_dAt Q, Option.isNone_some, Option.isSome_some, c_hasReed H V O, c_hasPlayer H V O, c_hasQuestion H V O, c_hasAll H V O, c_isAnswer, c_within, ib_0, e_Main_program]
        all_goals (split <;> rfl)
    · refine ⟨_, C, ?_, tq.rfl⟩
      simp (disch := omega) only [if_true, if_false, not_true_eq_false, not_false_eq_true, zoI_s, zoR_s, zoH_s, zoL_s, zbI_s, zbV_s, zbR_s, zbL_s, zif_dec, i32_0, ne_eq, i32_lt, i32_le, i32_eq, i32_add, i32_mul, i32_sub, i32_neg, zrz_0, zrz_1, zif_t, zif_f, zsF_s, zsF_k, zsF_a, zsC_s, zsC_a, zsC_i, zsW_s, zsW_a, Int.add_zero, Int.zero_add, true_and, false_and, and_false, Bool.false_eq_true, decide_true, decide_false, Bool.true_and, Bool.false_and, Bool.true_or, Bool.false_or, sub1, if_pos, if_neg, wv_0 S, wr_704 S, wr_705 S, wr_706 S, wr_707 S, wr_708 S, wr_709 S, wr_710 S, wr_711 S, wv_68 S, wr_384 S, wr_385 S, wr_386 S, tv_1 S, dv H, dg_128 H, dp_128 H, dg_129 H, dp_129 H, dg_130 H, dp_130 H, dg_131 H, dp_131 H, dr_132 H, da_132 H, dr_133 H, da_133 H, dr_134 H, da_134 H, dr_135 H, da_135 H, dr_136 H, da_136 H, dr_137 H, da_137 H, c_dAt Q, Option.isNone_some, Option.isSome_some, c_hasReed H V O, c_hasPlayer H V O, c_hasQuestion H V O, c_hasAll H V O, c_isAnswer, c_within, ib_0, e_Main_program]
      all_goals (split <;> rfl)
  · refine ⟨_, C, ?_, tq.rfl⟩
    simp (disch := omega) only [if_true, if_false, not_true_eq_false, not_false_eq_true, zoI_s, zoR_s, zoH_s, zoL_s, zbI_s, zbV_s, zbR_s, zbL_s, zif_dec, i32_0, ne_eq, i32_lt, i32_le, i32_eq, i32_add, i32_mul, i32_sub, i32_neg, zrz_0, zrz_1, zif_t, zif_f, zsF_s, zsF_k, zsF_a, zsC_s, zsC_a, zsC_i, zsW_s, zsW_a, Int.add_zero, Int.zero_add, true_and, false_and, and_false, Bool.false_eq_true, decide_true, decide_false, Bool.true_and, Bool.false_and, Bool.true_or, Bool.false_or, sub1, if_pos, if_neg, wv_0 S, wr_704 S, wr_705 S, wr_706 S, wr_707 S, wr_708 S, wr_709 S, wr_710 S, wr_711 S, tv_1 S, c_dAt0 Q, Option.isNone_none, Option.isSome_none, e_Main_program]
theorem m_program {d r p k : Int} (hd : inI d) (hr : inI r) (hp : inI p) (hk : inI k) : ans1 261 72 [zI (i32 d), zI (i32 r), zI (i32 p), zI (i32 k)] (fun A => zI (i32 (programQ A d r p k))) := by
  intro h F C Q
  have S := Q.1
  unfold inI at hd hr hp hk
  unfold programQ
  by_cases c1 : 0 ≤ d ∧ d < C 73 0
  · have M := miF_V Q c1.1 c1.2
    have O := Q.dO c1.1 c1.2
    by_cases g1 : 0 ≤ r ∧ r < (dOf (C 73) d) 0
    · by_cases g2 : 0 ≤ p ∧ p < (dOf (C 73) d) 1
      · skip
        have b2 := O.2.2.1
        have q3 := pw_8 (n := (dOf (C 73) d) 2) (by omega)
        have q4 := pw_le (n := (dOf (C 73) d) 2) (by omega)
        unfold progS
        by_cases ck : k < -1
        · refine ⟨_, C, ?_, miF_tq d⟩
          simp (disch := omega) only [if_true, if_false, not_true_eq_false, not_false_eq_true, zoI_s, zoR_s, zoH_s, zoL_s, zbI_s, zbV_s, zbR_s, zbL_s, zif_dec, i32_0, ne_eq, i32_lt, i32_le, i32_eq, i32_add, i32_mul, i32_sub, i32_neg, zrz_0, zrz_1, zif_t, zif_f, zsF_s, zsF_k, zsF_a, zsC_s, zsC_a, zsC_i, zsW_s, zsW_a, Int.add_zero, Int.zero_add, true_and, false_and, and_false, Bool.false_eq_true, decide_true, decide_false, Bool.true_and, Bool.false_and, Bool.true_or, Bool.false_or, sub1, if_pos, if_neg, wv_72 S, wr_768 S, wr_769 S, wr_777 S, wr_785 S, wr_786 S, wr_787 S, wr_789 S, wr_790 S, wr_791 S, wr_802 S, wr_803 S, wr_804 S, wr_805 S, wr_806 S, wr_807 S, wr_809 S, wg_770 S, wp_770 S, wg_771 S, wp_771 S, wg_772 S, wp_772 S, wg_773 S, wp_773 S, wg_774 S, wp_774 S, wg_775 S, wp_775 S, wg_776 S, wp_776 S, wg_778 S, wp_778 S, wg_779 S, wp_779 S, wg_780 S, wp_780 S, wg_781 S, wp_781 S, wg_782 S, wp_782 S, wg_783 S, wp_783 S, wg_784 S, wp_784 S, wg_788 S, wp_788 S, wg_792 S, wp_792 S, wg_793 S, wp_793 S, wg_794 S, wp_794 S, wg_795 S, wp_795 S, wg_796 S, wp_796 S, wg_797 S, wp_797 S, wg_798 S, wp_798 S, wg_799 S, wp_799 S, wg_800 S, wp_800 S, wg_801 S, wp_801 S, wg_808 S, wp_808 S, wg_810 S, wp_810 S, m_isD Q, m_isReed S M O, m_isPlayer S M O, m_isQuestion S M O, m_isIn, m_are3 Q, ib_0, e_Model_program]
        · obtain ⟨g, w, u, v, e, hg⟩ := m_programA S M O (d := d) (k := k) g1.1 g1.2 g2.1 g2.2
          have g0 := hg 0 (by omega) (by omega)
          have gr := prgS_rng (lstB (dOf (C 73) d) r p) (n := (dOf (C 73) d) 2) (by omega) (by omega) 0
          by_cases cb : k = -1
          · refine ⟨_, _, ?_, ((miF_tq d).ml w u v).sW (a := 79) (f := g) (by omega) (by omega)⟩
            simp (disch := omega) only [if_true, if_false, not_true_eq_false, not_false_eq_true, zoI_s, zoR_s, zoH_s, zoL_s, zbI_s, zbV_s, zbR_s, zbL_s, zif_dec, i32_0, ne_eq, i32_lt, i32_le, i32_eq, i32_add, i32_mul, i32_sub, i32_neg, zrz_0, zrz_1, zif_t, zif_f, zsF_s, zsF_k, zsF_a, zsC_s, zsC_a, zsC_i, zsW_s, zsW_a, Int.add_zero, Int.zero_add, true_and, false_and, and_false, Bool.false_eq_true, decide_true, decide_false, Bool.true_and, Bool.false_and, Bool.true_or, Bool.false_or, sub1, if_pos, if_neg, wv_72 S, wr_768 S, wr_769 S, wr_777 S, wr_785 S, wr_786 S, wr_787 S, wr_789 S, wr_790 S, wr_791 S, wr_802 S, wr_803 S, wr_804 S, wr_805 S, wr_806 S, wr_807 S, wr_809 S, wg_770 S, wp_770 S, wg_771 S, wp_771 S, wg_772 S, wp_772 S, wg_773 S, wp_773 S, wg_774 S, wp_774 S, wg_775 S, wp_775 S, wg_776 S, wp_776 S, wg_778 S, wp_778 S, wg_779 S, wp_779 S, wg_780 S, wp_780 S, wg_781 S, wp_781 S, wg_782 S, wp_782 S, wg_783 S, wp_783 S, wg_784 S, wp_784 S, wg_788 S, wp_788 S, wg_792 S, wp_792 S, wg_793 S, wp_793 S, wg_794 S, wp_794 S, wg_795 S, wp_795 S, wg_796 S, wp_796 S, wg_797 S, wp_797 S, wg_798 S, wp_798 S, wg_799 S, wp_799 S, wg_800 S, wp_800 S, wg_801 S, wp_801 S, wg_808 S, wp_808 S, wg_810 S, wp_810 S, m_isD Q, m_isReed S M O, m_isPlayer S M O, m_isQuestion S M O, m_isIn, m_are3 Q, ib_0, e_Model_program, wv_72 S, wr_768 S, wr_769 S, wr_777 S, wr_785 S, wr_786 S, wr_787 S, wr_789 S, wr_790 S, wr_791 S, wr_802 S, wr_803 S, wr_804 S, wr_805 S, wr_806 S, wr_807 S, wr_809 S, wg_770 S, wp_770 S, wg_771 S, wp_771 S, wg_772 S, wp_772 S, wg_773 S, wp_773 S, wg_774 S, wp_774 S, wg_775 S, wp_775 S, wg_776 S, wp_776 S, wg_778 S, wp_778 S, wg_779 S, wp_779 S, wg_780 S, wp_780 S, wg_781 S, wp_781 S, wg_782 S, wp_782 S, wg_783 S, wp_783 S, wg_784 S, wp_784 S, wg_788 S, wp_788 S, wg_792 S, wp_792 S, wg_793 S, wp_793 S, wg_794 S, wp_794 S, wg_795 S, wp_795 S, wg_796 S, wp_796 S, wg_797 S, wp_797 S, wg_798 S, wp_798 S, wg_799 S, wp_799 S, wg_800 S, wp_800 S, wg_801 S, wp_801 S, wg_808 S, wp_808 S, wg_810 S, wp_810 S, mlF_o, M.2.1.1, M.2.1.2.1, M.2.1.2.2, m_lays S (M.ml _ _ _) O, mlF_ml, m_ans S M O, m_nte S M O, m_meant S (M.ml _ _ _), mlF_0, mlF_1, mlF_2, mlF_w, mlF_k, mlF_c, b_pow, e]
            rw [e_Model_program_24]
            simp (disch := omega) only [if_true, if_false, not_true_eq_false, not_false_eq_true, zoI_s, zoR_s, zoH_s, zoL_s, zbI_s, zbV_s, zbR_s, zbL_s, zif_dec, i32_0, ne_eq, i32_lt, i32_le, i32_eq, i32_add, i32_mul, i32_sub, i32_neg, zrz_0, zrz_1, zif_t, zif_f, zsF_s, zsF_k, zsF_a, zsC_s, zsC_a, zsC_i, zsW_s, zsW_a, Int.add_zero, Int.zero_add, true_and, false_and, and_false, Bool.false_eq_true, decide_true, decide_false, Bool.true_and, Bool.false_and, Bool.true_or, Bool.false_or, sub1, if_pos, if_neg, wv_72 S, wr_768 S, wr_769 S, wr_777 S, wr_785 S, wr_786 S, wr_787 S, wr_789 S, wr_790 S, wr_791 S, wr_802 S, wr_803 S, wr_804 S, wr_805 S, wr_806 S, wr_807 S, wr_809 S, wg_770 S, wp_770 S, wg_771 S, wp_771 S, wg_772 S, wp_772 S, wg_773 S, wp_773 S, wg_774 S, wp_774 S, wg_775 S, wp_775 S, wg_776 S, wp_776 S, wg_778 S, wp_778 S, wg_779 S, wp_779 S, wg_780 S, wp_780 S, wg_781 S, wp_781 S, wg_782 S, wp_782 S, wg_783 S, wp_783 S, wg_784 S, wp_784 S, wg_788 S, wp_788 S, wg_792 S, wp_792 S, wg_793 S, wp_793 S, wg_794 S, wp_794 S, wg_795 S, wp_795 S, wg_796 S, wp_796 S, wg_797 S, wp_797 S, wg_798 S, wp_798 S, wg_799 S, wp_799 S, wg_800 S, wp_800 S, wg_801 S, wp_801 S, wg_808 S, wp_808 S, wg_810 S, wp_810 S, wa_79 S, ws_79 S, g0]
          · have M2 : moV (miF F C d) (zsW C 79 g) (dOf (C 73) d) := M.sW g (by omega)
            obtain ⟨w2, u2, v2, e2⟩ := m_programB S M2 O (d := d) (k := k) g1.1 g1.2 g2.1 g2.2 hk (by rw [zsW_s]; exact hg) (prgS (lstB (dOf (C 73) d) r p) ((dOf (C 73) d) 2) 0).toNat 0 0 w u v (by omega) (by omega) (by omega) (by omega) (by omega) (by omega)
            refine ⟨_, _, ?_, ((miF_tq d).ml w2 u2 v2).sW (a := 79) (f := g) (by omega) (by omega)⟩
            rw [Int.sub_zero] at e2
            simp (disch := omega) only [if_true, if_false, not_true_eq_false, not_false_eq_true, zoI_s, zoR_s, zoH_s, zoL_s, zbI_s, zbV_s, zbR_s, zbL_s, zif_dec, i32_0, ne_eq, i32_lt, i32_le, i32_eq, i32_add, i32_mul, i32_sub, i32_neg, zrz_0, zrz_1, zif_t, zif_f, zsF_s, zsF_k, zsF_a, zsC_s, zsC_a, zsC_i, zsW_s, zsW_a, Int.add_zero, Int.zero_add, true_and, false_and, and_false, Bool.false_eq_true, decide_true, decide_false, Bool.true_and, Bool.false_and, Bool.true_or, Bool.false_or, sub1, if_pos, if_neg, wv_72 S, wr_768 S, wr_769 S, wr_777 S, wr_785 S, wr_786 S, wr_787 S, wr_789 S, wr_790 S, wr_791 S, wr_802 S, wr_803 S, wr_804 S, wr_805 S, wr_806 S, wr_807 S, wr_809 S, wg_770 S, wp_770 S, wg_771 S, wp_771 S, wg_772 S, wp_772 S, wg_773 S, wp_773 S, wg_774 S, wp_774 S, wg_775 S, wp_775 S, wg_776 S, wp_776 S, wg_778 S, wp_778 S, wg_779 S, wp_779 S, wg_780 S, wp_780 S, wg_781 S, wp_781 S, wg_782 S, wp_782 S, wg_783 S, wp_783 S, wg_784 S, wp_784 S, wg_788 S, wp_788 S, wg_792 S, wp_792 S, wg_793 S, wp_793 S, wg_794 S, wp_794 S, wg_795 S, wp_795 S, wg_796 S, wp_796 S, wg_797 S, wp_797 S, wg_798 S, wp_798 S, wg_799 S, wp_799 S, wg_800 S, wp_800 S, wg_801 S, wp_801 S, wg_808 S, wp_808 S, wg_810 S, wp_810 S, m_isD Q, m_isReed S M O, m_isPlayer S M O, m_isQuestion S M O, m_isIn, m_are3 Q, ib_0, e_Model_program, wv_72 S, wr_768 S, wr_769 S, wr_777 S, wr_785 S, wr_786 S, wr_787 S, wr_789 S, wr_790 S, wr_791 S, wr_802 S, wr_803 S, wr_804 S, wr_805 S, wr_806 S, wr_807 S, wr_809 S, wg_770 S, wp_770 S, wg_771 S, wp_771 S, wg_772 S, wp_772 S, wg_773 S, wp_773 S, wg_774 S, wp_774 S, wg_775 S, wp_775 S, wg_776 S, wp_776 S, wg_778 S, wp_778 S, wg_779 S, wp_779 S, wg_780 S, wp_780 S, wg_781 S, wp_781 S, wg_782 S, wp_782 S, wg_783 S, wp_783 S, wg_784 S, wp_784 S, wg_788 S, wp_788 S, wg_792 S, wp_792 S, wg_793 S, wp_793 S, wg_794 S, wp_794 S, wg_795 S, wp_795 S, wg_796 S, wp_796 S, wg_797 S, wp_797 S, wg_798 S, wp_798 S, wg_799 S, wp_799 S, wg_800 S, wp_800 S, wg_801 S, wp_801 S, wg_808 S, wp_808 S, wg_810 S, wp_810 S, mlF_o, M.2.1.1, M.2.1.2.1, M.2.1.2.2, m_lays S (M.ml _ _ _) O, mlF_ml, m_ans S M O, m_nte S M O, m_meant S (M.ml _ _ _), mlF_0, mlF_1, mlF_2, mlF_w, mlF_k, mlF_c, b_pow, e]
            rw [e_Model_program_24]
            simp (disch := omega) only [if_true, if_false, not_true_eq_false, not_false_eq_true, zoI_s, zoR_s, zoH_s, zoL_s, zbI_s, zbV_s, zbR_s, zbL_s, zif_dec, i32_0, ne_eq, i32_lt, i32_le, i32_eq, i32_add, i32_mul, i32_sub, i32_neg, zrz_0, zrz_1, zif_t, zif_f, zsF_s, zsF_k, zsF_a, zsC_s, zsC_a, zsC_i, zsW_s, zsW_a, Int.add_zero, Int.zero_add, true_and, false_and, and_false, Bool.false_eq_true, decide_true, decide_false, Bool.true_and, Bool.false_and, Bool.true_or, Bool.false_or, sub1, if_pos, if_neg, e2]
            by_cases c2 : k < prgS (lstB (dOf (C 73) d) r p) ((dOf (C 73) d) 2) 0
            · simp (disch := omega) only [if_true, if_false, not_true_eq_false, not_false_eq_true, zoI_s, zoR_s, zoH_s, zoL_s, zbI_s, zbV_s, zbR_s, zbL_s, zif_dec, i32_0, ne_eq, i32_lt, i32_le, i32_eq, i32_add, i32_mul, i32_sub, i32_neg, zrz_0, zrz_1, zif_t, zif_f, zsF_s, zsF_k, zsF_a, zsC_s, zsC_a, zsC_i, zsW_s, zsW_a, Int.add_zero, Int.zero_add, true_and, false_and, and_false, Bool.false_eq_true, decide_true, decide_false, Bool.true_and, Bool.false_and, Bool.true_or, Bool.false_or, sub1, if_pos, if_neg]
            · simp (disch := omega) only [if_true, if_false, not_true_eq_false, not_false_eq_true, zoI_s, zoR_s, zoH_s, zoL_s, zbI_s, zbV_s, zbR_s, zbL_s, zif_dec, i32_0, ne_eq, i32_lt, i32_le, i32_eq, i32_add, i32_mul, i32_sub, i32_neg, zrz_0, zrz_1, zif_t, zif_f, zsF_s, zsF_k, zsF_a, zsC_s, zsC_a, zsC_i, zsW_s, zsW_a, Int.add_zero, Int.zero_add, true_and, false_and, and_false, Bool.false_eq_true, decide_true, decide_false, Bool.true_and, Bool.false_and, Bool.true_or, Bool.false_or, sub1, if_pos, if_neg]
      · refine ⟨_, C, ?_, miF_tq d⟩
        simp (disch := omega) only [if_true, if_false, not_true_eq_false, not_false_eq_true, zoI_s, zoR_s, zoH_s, zoL_s, zbI_s, zbV_s, zbR_s, zbL_s, zif_dec, i32_0, ne_eq, i32_lt, i32_le, i32_eq, i32_add, i32_mul, i32_sub, i32_neg, zrz_0, zrz_1, zif_t, zif_f, zsF_s, zsF_k, zsF_a, zsC_s, zsC_a, zsC_i, zsW_s, zsW_a, Int.add_zero, Int.zero_add, true_and, false_and, and_false, Bool.false_eq_true, decide_true, decide_false, Bool.true_and, Bool.false_and, Bool.true_or, Bool.false_or, sub1, if_pos, if_neg, wv_72 S, wr_768 S, wr_769 S, wr_777 S, wr_785 S, wr_786 S, wr_787 S, wr_789 S, wr_790 S, wr_791 S, wr_802 S, wr_803 S, wr_804 S, wr_805 S, wr_806 S, wr_807 S, wr_809 S, wg_770 S, wp_770 S, wg_771 S, wp_771 S, wg_772 S, wp_772 S, wg_773 S, wp_773 S, wg_774 S, wp_774 S, wg_775 S, wp_775 S, wg_776 S, wp_776 S, wg_778 S, wp_778 S, wg_779 S, wp_779 S, wg_780 S, wp_780 S, wg_781 S, wp_781 S, wg_782 S, wp_782 S, wg_783 S, wp_783 S, wg_784 S, wp_784 S, wg_788 S, wp_788 S, wg_792 S, wp_792 S, wg_793 S, wp_793 S, wg_794 S, wp_794 S, wg_795 S, wp_795 S, wg_796 S, wp_796 S, wg_797 S, wp_797 S, wg_798 S, wp_798 S, wg_799 S, wp_799 S, wg_800 S, wp_800 S, wg_801 S, wp_801 S, wg_808 S, wp_808 S, wg_810 S, wp_810 S, m_isD Q, m_isReed S M O, m_isPlayer S M O, m_isQuestion S M O, m_isIn, m_are3 Q, ib_0, e_Model_program]
        all_goals (split <;> rfl)
    · refine ⟨_, C, ?_, miF_tq d⟩
      simp (disch := omega) only [if_true, if_false, not_true_eq_false, not_false_eq_true, zoI_s, zoR_s, zoH_s, zoL_s, zbI_s, zbV_s, zbR_s, zbL_s, zif_dec, i32_0, ne_eq, i32_lt, i32_le, i32_eq, i32_add, i32_mul, i32_sub, i32_neg, zrz_0, zrz_1, zif_t, zif_f, zsF_s, zsF_k, zsF_a, zsC_s, zsC_a, zsC_i, zsW_s, zsW_a, Int.add_zero, Int.zero_add, true_and, false_and, and_false, Bool.false_eq_true, decide_true, decide_false, Bool.true_and, Bool.false_and, Bool.true_or, Bool.false_or, sub1, if_pos, if_neg, wv_72 S, wr_768 S, wr_769 S, wr_777 S, wr_785 S, wr_786 S, wr_787 S, wr_789 S, wr_790 S, wr_791 S, wr_802 S, wr_803 S, wr_804 S, wr_805 S, wr_806 S, wr_807 S, wr_809 S, wg_770 S, wp_770 S, wg_771 S, wp_771 S, wg_772 S, wp_772 S, wg_773 S, wp_773 S, wg_774 S, wp_774 S, wg_775 S, wp_775 S, wg_776 S, wp_776 S, wg_778 S, wp_778 S, wg_779 S, wp_779 S, wg_780 S, wp_780 S, wg_781 S, wp_781 S, wg_782 S, wp_782 S, wg_783 S, wp_783 S, wg_784 S, wp_784 S, wg_788 S, wp_788 S, wg_792 S, wp_792 S, wg_793 S, wp_793 S, wg_794 S, wp_794 S, wg_795 S, wp_795 S, wg_796 S, wp_796 S, wg_797 S, wp_797 S, wg_798 S, wp_798 S, wg_799 S, wp_799 S, wg_800 S, wp_800 S, wg_801 S, wp_801 S, wg_808 S, wp_808 S, wg_810 S, wp_810 S, m_isD Q, m_isReed S M O, m_isPlayer S M O, m_isQuestion S M O, m_isIn, m_are3 Q, ib_0, e_Model_program]
      all_goals (split <;> rfl)
  · refine ⟨_, C, ?_, tq.rfl⟩
    simp (disch := omega) only [if_true, if_false, not_true_eq_false, not_false_eq_true, zoI_s, zoR_s, zoH_s, zoL_s, zbI_s, zbV_s, zbR_s, zbL_s, zif_dec, i32_0, ne_eq, i32_lt, i32_le, i32_eq, i32_add, i32_mul, i32_sub, i32_neg, zrz_0, zrz_1, zif_t, zif_f, zsF_s, zsF_k, zsF_a, zsC_s, zsC_a, zsC_i, zsW_s, zsW_a, Int.add_zero, Int.zero_add, true_and, false_and, and_false, Bool.false_eq_true, decide_true, decide_false, Bool.true_and, Bool.false_and, Bool.true_or, Bool.false_or, sub1, if_pos, if_neg, wv_72 S, wr_768 S, wr_769 S, wr_777 S, wr_785 S, wr_786 S, wr_787 S, wr_789 S, wr_790 S, wr_791 S, wr_802 S, wr_803 S, wr_804 S, wr_805 S, wr_806 S, wr_807 S, wr_809 S, wg_770 S, wp_770 S, wg_771 S, wp_771 S, wg_772 S, wp_772 S, wg_773 S, wp_773 S, wg_774 S, wp_774 S, wg_775 S, wp_775 S, wg_776 S, wp_776 S, wg_778 S, wp_778 S, wg_779 S, wp_779 S, wg_780 S, wp_780 S, wg_781 S, wp_781 S, wg_782 S, wp_782 S, wg_783 S, wp_783 S, wg_784 S, wp_784 S, wg_788 S, wp_788 S, wg_792 S, wp_792 S, wg_793 S, wp_793 S, wg_794 S, wp_794 S, wg_795 S, wp_795 S, wg_796 S, wp_796 S, wg_797 S, wp_797 S, wg_798 S, wp_798 S, wg_799 S, wp_799 S, wg_800 S, wp_800 S, wg_801 S, wp_801 S, wg_808 S, wp_808 S, wg_810 S, wp_810 S, m_isD0 Q, m_are30 Q, e_Model_program]
