/-! sums -/
theorem sm_add (f g : Int → Int) (n : Int) : sm (fun k => f k + g k) n = sm f n + sm g n := by
  by_cases h0 : 0 ≤ n
  · have key : ∀ j : Nat, sm (fun k => f k + g k) j = sm f j + sm g j := by
      intro j
      induction j with
      | zero => rfl
      | succ j ih => rw [show ((j + 1 : Nat) : Int) = (j : Int) + 1 from rfl, sm_succ _ (by omega), sm_succ _ (by omega), sm_succ _ (by omega), ih]; omega
    have := key n.toNat
    rwa [show (n.toNat : Int) = n by omega] at this
  · unfold sm; rw [show n.toNat = 0 by omega]; rfl
theorem sm_z (n : Int) : sm (fun _ => 0) n = 0 := by
  by_cases h0 : 0 ≤ n
  · have := sm_rng (f := fun _ => 0) (n := n) (lo := 0) (hi := 0) h0 (fun _ _ _ => by omega)
    omega
  · unfold sm; rw [show n.toNat = 0 by omega]; rfl
theorem sm_comm (f : Int → Int → Int) (n m : Int) : sm (fun i => sm (fun j => f i j) m) n = sm (fun j => sm (fun i => f i j) n) m := by
  by_cases h0 : 0 ≤ n
  · have key : ∀ k : Nat, sm (fun i => sm (fun j => f i j) m) k = sm (fun j => sm (fun i => f i j) k) m := by
      intro k
      induction k with
      | zero => rw [show ((0 : Nat) : Int) = 0 from rfl, sm_0]; exact (sm_z m).symm
      | succ k ih =>
        rw [show ((k + 1 : Nat) : Int) = (k : Int) + 1 from rfl, sm_succ _ (by omega), ih, ← sm_add]
        congr 1
        funext j
        rw [sm_succ _ (by omega)]
    have := key n.toNat
    rwa [show (n.toNat : Int) = n by omega] at this
  · unfold sm
    rw [show n.toNat = 0 by omega]
    exact (sm_z m).symm
theorem sm_mul (c : Int) (f : Int → Int) (n : Int) : sm (fun k => c * f k) n = c * sm f n := by
  by_cases h0 : 0 ≤ n
  · have key : ∀ j : Nat, sm (fun k => c * f k) j = c * sm f j := by
      intro j
      induction j with
      | zero => rw [show ((0 : Nat) : Int) = 0 from rfl, sm_0, sm_0, Int.mul_zero]
      | succ j ih => rw [show ((j + 1 : Nat) : Int) = (j : Int) + 1 from rfl, sm_succ _ (by omega), sm_succ _ (by omega), ih, Int.mul_add]
    have := key n.toNat
    rwa [show (n.toNat : Int) = n by omega] at this
  · unfold sm; rw [show n.toNat = 0 by omega]; simp [sumF]
theorem sm_cut {f : Int → Int} {m n : Int} (h0 : 0 ≤ m) (h1 : m ≤ n) : sm f m = sm (fun k => if k < m then f k else 0) n := by
  have key : ∀ j : Nat, sm (fun k => if k < m then f k else 0) (m + j) = sm f m := by
    intro j
    induction j with
    | zero => rw [show m + ((0 : Nat) : Int) = m by omega]; exact sm_congr (fun k _ h => if_pos h)
    | succ j ih => rw [show m + ((j + 1 : Nat) : Int) = (m + j) + 1 by omega, sm_succ _ (by omega), ih, if_neg (by omega), Int.add_zero]
  have := key (n - m).toNat
  rw [show m + ((n - m).toNat : Int) = n by omega] at this
  exact this.symm
/-- from lo on -/
def smR (f : Int → Int) (lo n : Int) : Int := sumF f lo (n - lo).toNat
theorem smR_0 (f : Int → Int) (lo : Int) : smR f lo lo = 0 := by unfold smR; rw [show (lo - lo).toNat = 0 by omega]; rfl
theorem smR_succ (f : Int → Int) {lo n : Int} (h : lo ≤ n) : smR f lo (n + 1) = smR f lo n + f n := by
  unfold smR
  rw [show (n + 1 - lo).toNat = (n - lo).toNat + 1 by omega, sumF_succ, show lo + ((n - lo).toNat : Int) = n by omega]
theorem smR_sm (f : Int → Int) {lo n : Int} (h0 : 0 ≤ lo) (h1 : lo ≤ n) : smR f lo n = sm (fun k => if lo ≤ k then f k else 0) n := by
  have key : ∀ j : Nat, smR f lo (lo + j) = sm (fun k => if lo ≤ k then f k else 0) (lo + j) := by
    intro j
    induction j with
    | zero =>
      rw [show lo + ((0 : Nat) : Int) = lo by omega, smR_0]
      exact ((sm_congr (fun k _ h => by rw [if_neg (by omega)])).trans (sm_z lo)).symm
    | succ j ih => rw [show lo + ((j + 1 : Nat) : Int) = (lo + j) + 1 by omega, sm_succ _ (by omega), smR_succ _ (by omega), ih, if_pos (by omega)]
  have := key (n - lo).toNat
  rwa [show lo + ((n - lo).toNat : Int) = n by omega] at this
theorem zsmRJ {J : Type} (X : Int → Int → J → Option zRes) (f : Int → Int) (I : J → Prop) (lo n : Int) (hn : lo ≤ n) (hs : ∀ k a s, lo ≤ k → k < n → I s → ∃ s', X k a s = X (k + 1) (a + f k) s' ∧ I s') (a : Int) (s : J) (hi : I s) : ∃ s', X lo a s = X n (a + smR f lo n) s' ∧ I s' := by
  obtain ⟨⟨s1, s2⟩, e, i, i2⟩ := zinv (fun k (s : Int × J) => X k s.1 s.2) (fun k s => s.1 = a + smR f lo k ∧ I s.2) lo n hn (fun k s h0 h1 hi => by
    obtain ⟨s', e, i⟩ := hs k s.1 s.2 h0 h1 hi.2
    exact ⟨(s.1 + f k, s'), e, by dsimp only; rw [hi.1, smR_succ f h0]; omega, i⟩) (a, s) ⟨by dsimp only; rw [smR_0]; omega, hi⟩
  dsimp only at e i i2
  exact ⟨s2, by rw [e, i], i2⟩
theorem zsmR (X : Int → Int → Option zRes) (f : Int → Int) (lo n : Int) (hn : lo ≤ n) (hs : ∀ k a, lo ≤ k → k < n → X k a = X (k + 1) (a + f k)) (a : Int) : X lo a = X n (a + smR f lo n) := by
  obtain ⟨_, e, _⟩ := zsmRJ (fun k a (_ : Unit) => X k a) f (fun _ => True) lo n hn (fun k a _ h0 h1 _ => ⟨(), hs k a h0 h1, trivial⟩) a () trivial
  exact e
/-- one of them -/
theorem sm_one {n m : Int} (v : Int → Int) (h0 : 0 ≤ m) (h1 : m < n) : sm (fun k => if k = m then v k else 0) n = v m := by
  have key : ∀ j : Nat, sm (fun k => if k = m then v k else 0) j = if m < j then v m else 0 := by
    intro j
    induction j with
    | zero => rw [if_neg (by omega)]; rfl
    | succ j ih =>
      rw [show ((j + 1 : Nat) : Int) = (j : Int) + 1 from rfl, sm_succ _ (by omega), ih]
      by_cases c : (j : Int) = m
      · rw [if_neg (by omega), if_pos c, if_pos (by omega), c, Int.zero_add]
      · rw [if_neg c, Int.add_zero]
        by_cases c2 : m < j
        · rw [if_pos c2, if_pos (by omega)]
        · rw [if_neg c2, if_neg (by omega)]
  have := key n.toNat
  rw [show (n.toNat : Int) = n by omega, if_pos h1] at this
  exact this
theorem nt_c {D : Int → Int} {w u c p q : Int} : (noteS D w u c p q = -1) = (w + D (16 + p) < D (20 + 2 * q)) := by
  unfold noteS
  rw [eq_iff_iff]
  split <;> omega
/-! wets -/
def nevB (D : Int → Int) (w : Int) : Bool := alB (fun p => alB (fun q => decide (D (20 + 2 * q) ≤ w + D (16 + p))) (D 2)) (D 1)
def wtI (w t : Int) : Int := if 9 < w + 3 * t then 9 else w + 3 * t
def wetsS (D : Int → Int) (r : Int) : Int := fstF (fun t => nevB D (wtI (D (4 + 2 * r)) t)) 0 4
theorem wtI_s {w t : Int} (h0 : 0 ≤ w) (h1 : 0 ≤ t) : wetS (wtI w t) = wtI w (t + 1) := by
  unfold wetS wtI
  split <;> split <;> (try split) <;> omega
theorem wtI_rng {w t : Int} (h0 : 0 ≤ w) (h1 : 0 ≤ t) : 0 ≤ wtI w t ∧ wtI w t ≤ 9 := by unfold wtI; split <;> omega
def wetsQ (A : Int → Int) (d r : Int) : Int := if (0 ≤ d ∧ d < A 0) ∧ (0 ≤ r ∧ r < (dOf A d) 0) then wetsS (dOf A d) r else -1
section A7
variable {h : zHeap} {F : Nat → Nat → Int} {C : Nat → Int → Int} {a : Nat} {D : Int → Int}
theorem c_neverCoughs (H : duS h a) (V : duV F C a D) (O : dOK D) {w : Int} (w0 : 0 ≤ w) (w1 : w ≤ 9) : zc 120 [zR (some a), zI (i32 w)] (zw h F C) = some (zI (i32 (if nevB D w = true then 1 else 0)), zw h F C) := by
  have b1 := O.2.1
  have b2 := O.2.2.1
  have L2 := fun p (p0 : 0 ≤ p) (p1 : p < D 1) => zall_ (fun q => zr 120 8 [yR (some a), yI (i32 w), yI (i32 p), yI (i32 q)] [] (zw h F C)) (some (zI (i32 0), zw h F C)) (fun q => decide (D (20 + 2 * q) ≤ w + D (16 + p))) (D 2) (by omega) (fun q q0 q1 c => by
    have c := of_decide_eq_true c
    rw [e_Survey_neverCoughs_8]
    simp (disch := omega) only [if_true, if_false, not_true_eq_false, not_false_eq_true, zoI_s, zoR_s, zoH_s, zoL_s, zbI_s, zbV_s, zbR_s, zbL_s, zif_dec, i32_0, ne_eq, i32_lt, i32_le, i32_eq, i32_add, i32_mul, i32_sub, i32_neg, zrz_0, zrz_1, zif_t, zif_f, zsF_s, zsF_k, zsF_a, zsC_s, zsC_a, zsC_i, zsW_s, zsW_a, Int.add_zero, Int.zero_add, if_pos, if_neg, dv H, dg_128 H, dp_128 H, dg_129 H, dp_129 H, dg_130 H, dp_130 H, dg_131 H, dp_131 H, dr_132 H, da_132 H, dr_133 H, da_133 H, dr_134 H, da_134 H, dr_135 H, da_135 H, dr_136 H, da_136 H, dr_137 H, da_137 H, V.1.1, V.1.2.1, V.1.2.2.1, V.1.2.2.2, c_answerOf H V O, c_noteOf H V O, c_meaning H V, c_coughs H V O]) (fun q q0 q1 c => by
    have c := of_decide_eq_false c
    rw [e_Survey_neverCoughs_8]
    simp (disch := omega) only [if_true, if_false, not_true_eq_false, not_false_eq_true, zoI_s, zoR_s, zoH_s, zoL_s, zbI_s, zbV_s, zbR_s, zbL_s, zif_dec, i32_0, ne_eq, i32_lt, i32_le, i32_eq, i32_add, i32_mul, i32_sub, i32_neg, zrz_0, zrz_1, zif_t, zif_f, zsF_s, zsF_k, zsF_a, zsC_s, zsC_a, zsC_i, zsW_s, zsW_a, Int.add_zero, Int.zero_add, if_pos, if_neg, dv H, dg_128 H, dp_128 H, dg_129 H, dp_129 H, dg_130 H, dp_130 H, dg_131 H, dp_131 H, dr_132 H, da_132 H, dr_133 H, da_133 H, dr_134 H, da_134 H, dr_135 H, da_135 H, dr_136 H, da_136 H, dr_137 H, da_137 H, V.1.1, V.1.2.1, V.1.2.2.1, V.1.2.2.2, c_answerOf H V O, c_noteOf H V O, c_meaning H V, c_coughs H V O])
  have L1 := zall_ (fun p => zr 120 2 [yR (some a), yI (i32 w), yI (i32 p), none] [] (zw h F C)) (some (zI (i32 0), zw h F C)) (fun p => alB (fun q => decide (D (20 + 2 * q) ≤ w + D (16 + p))) (D 2)) (D 1) (by omega) (fun p p0 p1 c => by
    rw [e_Survey_neverCoughs_2]
    simp (disch := omega) only [if_true, if_false, not_true_eq_false, not_false_eq_true, zoI_s, zoR_s, zoH_s, zoL_s, zbI_s, zbV_s, zbR_s, zbL_s, zif_dec, i32_0, ne_eq, i32_lt, i32_le, i32_eq, i32_add, i32_mul, i32_sub, i32_neg, zrz_0, zrz_1, zif_t, zif_f, zsF_s, zsF_k, zsF_a, zsC_s, zsC_a, zsC_i, zsW_s, zsW_a, Int.add_zero, Int.zero_add, if_pos, if_neg, dv H, dg_128 H, dp_128 H, dg_129 H, dp_129 H, dg_130 H, dp_130 H, dg_131 H, dp_131 H, dr_132 H, da_132 H, dr_133 H, da_133 H, dr_134 H, da_134 H, dr_135 H, da_135 H, dr_136 H, da_136 H, dr_137 H, da_137 H, V.1.1, V.1.2.1, V.1.2.2.1, V.1.2.2.2, c_answerOf H V O, c_noteOf H V O, c_meaning H V]
    rw [L2 p p0 p1, if_pos c, e_Survey_neverCoughs_8]
    simp (disch := omega) only [if_true, if_false, not_true_eq_false, not_false_eq_true, zoI_s, zoR_s, zoH_s, zoL_s, zbI_s, zbV_s, zbR_s, zbL_s, zif_dec, i32_0, ne_eq, i32_lt, i32_le, i32_eq, i32_add, i32_mul, i32_sub, i32_neg, zrz_0, zrz_1, zif_t, zif_f, zsF_s, zsF_k, zsF_a, zsC_s, zsC_a, zsC_i, zsW_s, zsW_a, Int.add_zero, Int.zero_add, if_pos, if_neg, dv H, dg_128 H, dp_128 H, dg_129 H, dp_129 H, dg_130 H, dp_130 H, dg_131 H, dp_131 H, dr_132 H, da_132 H, dr_133 H, da_133 H, dr_134 H, da_134 H, dr_135 H, da_135 H, dr_136 H, da_136 H, dr_137 H, da_137 H, V.1.1, V.1.2.1, V.1.2.2.1, V.1.2.2.2, c_answerOf H V O, c_noteOf H V O, c_meaning H V, d_Survey_neverCoughs_2_w3]) (fun p p0 p1 c => by
    rw [e_Survey_neverCoughs_2]
    simp (disch := omega) only [if_true, if_false, not_true_eq_false, not_false_eq_true, zoI_s, zoR_s, zoH_s, zoL_s, zbI_s, zbV_s, zbR_s, zbL_s, zif_dec, i32_0, ne_eq, i32_lt, i32_le, i32_eq, i32_add, i32_mul, i32_sub, i32_neg, zrz_0, zrz_1, zif_t, zif_f, zsF_s, zsF_k, zsF_a, zsC_s, zsC_a, zsC_i, zsW_s, zsW_a, Int.add_zero, Int.zero_add, if_pos, if_neg, dv H, dg_128 H, dp_128 H, dg_129 H, dp_129 H, dg_130 H, dp_130 H, dg_131 H, dp_131 H, dr_132 H, da_132 H, dr_133 H, da_133 H, dr_134 H, da_134 H, dr_135 H, da_135 H, dr_136 H, da_136 H, dr_137 H, da_137 H, V.1.1, V.1.2.1, V.1.2.2.1, V.1.2.2.2, c_answerOf H V O, c_noteOf H V O, c_meaning H V]
    rw [L2 p p0 p1, if_neg (by rw [c]; simp)])
  rw [e_Survey_neverCoughs, L1, e_Survey_neverCoughs_2]
  unfold nevB
  by_cases c : alB (fun p => alB (fun q => decide (D (20 + 2 * q) ≤ w + D (16 + p))) (D 2)) (D 1) = true
  · rw [if_pos c, if_pos c]
    simp (disch := omega) only [if_true, if_false, not_true_eq_false, not_false_eq_true, zoI_s, zoR_s, zoH_s, zoL_s, zbI_s, zbV_s, zbR_s, zbL_s, zif_dec, i32_0, ne_eq, i32_lt, i32_le, i32_eq, i32_add, i32_mul, i32_sub, i32_neg, zrz_0, zrz_1, zif_t, zif_f, zsF_s, zsF_k, zsF_a, zsC_s, zsC_a, zsC_i, zsW_s, zsW_a, Int.add_zero, Int.zero_add, if_pos, if_neg, dv H, dg_128 H, dp_128 H, dg_129 H, dp_129 H, dg_130 H, dp_130 H, dg_131 H, dp_131 H, dr_132 H, da_132 H, dr_133 H, da_133 H, dr_134 H, da_134 H, dr_135 H, da_135 H, dr_136 H, da_136 H, dr_137 H, da_137 H, V.1.1, V.1.2.1, V.1.2.2.1, V.1.2.2.2, c_answerOf H V O, c_noteOf H V O, c_meaning H V]
  · rw [if_neg c, if_neg c]
theorem c_wettings (H : duS h a) (V : duV F C a D) (O : dOK D) {r : Int} (r0 : 0 ≤ r) (r1 : r < D 0) : zc 119 [zR (some 68), zR (some a), zI (i32 r)] (zw h F C) = some (zI (i32 (wetsS D r)), zw h F C) := by
  have b0 := O.1
  have b1 := O.2.2.2.2.1 r r0 r1
  have L1 := zfst (fun t => zr 119 7 [yR (some 68), yR (some a), yI (i32 r), yI (i32 (wtI (D (4 + 2 * r)) t)), yI (i32 t)] [] (zw h F C)) (fun t => some (zI (i32 t), zw h F C)) (fun t => nevB D (wtI (D (4 + 2 * r)) t)) 0 4 (by omega) (by omega) (fun t t0 t1 c => by
    have g := wtI_rng b1.1 t0
    rw [e_Survey_wettings_7]
    simp (disch := omega) only [if_true, if_false, not_true_eq_false, not_false_eq_true, zoI_s, zoR_s, zoH_s, zoL_s, zbI_s, zbV_s, zbR_s, zbL_s, zif_dec, i32_0, ne_eq, i32_lt, i32_le, i32_eq, i32_add, i32_mul, i32_sub, i32_neg, zrz_0, zrz_1, zif_t, zif_f, zsF_s, zsF_k, zsF_a, zsC_s, zsC_a, zsC_i, zsW_s, zsW_a, Int.add_zero, Int.zero_add, if_pos, if_neg, dv H, dg_128 H, dp_128 H, dg_129 H, dp_129 H, dg_130 H, dp_130 H, dg_131 H, dp_131 H, dr_132 H, da_132 H, dr_133 H, da_133 H, dr_134 H, da_134 H, dr_135 H, da_135 H, dr_136 H, da_136 H, dr_137 H, da_137 H, V.1.1, V.1.2.1, V.1.2.2.1, V.1.2.2.2, c_answerOf H V O, c_noteOf H V O, c_meaning H V, c_neverCoughs H V O, c]) (fun t t0 t1 c => by
    have g := wtI_rng b1.1 t0
    rw [e_Survey_wettings_7]
    simp (disch := omega) only [if_true, if_false, not_true_eq_false, not_false_eq_true, zoI_s, zoR_s, zoH_s, zoL_s, zbI_s, zbV_s, zbR_s, zbL_s, zif_dec, i32_0, ne_eq, i32_lt, i32_le, i32_eq, i32_add, i32_mul, i32_sub, i32_neg, zrz_0, zrz_1, zif_t, zif_f, zsF_s, zsF_k, zsF_a, zsC_s, zsC_a, zsC_i, zsW_s, zsW_a, Int.add_zero, Int.zero_add, if_pos, if_neg, dv H, dg_128 H, dp_128 H, dg_129 H, dp_129 H, dg_130 H, dp_130 H, dg_131 H, dp_131 H, dr_132 H, da_132 H, dr_133 H, da_133 H, dr_134 H, da_134 H, dr_135 H, da_135 H, dr_136 H, da_136 H, dr_137 H, da_137 H, V.1.1, V.1.2.1, V.1.2.2.1, V.1.2.2.2, c_answerOf H V O, c_noteOf H V O, c_meaning H V, c_neverCoughs H V O, c, Bool.false_eq_true, c_wetted, wtI_s])
  have e0 : wtI (D (4 + 2 * r)) 0 = D (4 + 2 * r) := by unfold wtI; rw [if_neg (by omega)]; omega
  rw [e0] at L1
  rw [e_Survey_wettings]
  simp (disch := omega) only [if_true, if_false, not_true_eq_false, not_false_eq_true, zoI_s, zoR_s, zoH_s, zoL_s, zbI_s, zbV_s, zbR_s, zbL_s, zif_dec, i32_0, ne_eq, i32_lt, i32_le, i32_eq, i32_add, i32_mul, i32_sub, i32_neg, zrz_0, zrz_1, zif_t, zif_f, zsF_s, zsF_k, zsF_a, zsC_s, zsC_a, zsC_i, zsW_s, zsW_a, Int.add_zero, Int.zero_add, if_pos, if_neg, dv H, dg_128 H, dp_128 H, dg_129 H, dp_129 H, dg_130 H, dp_130 H, dg_131 H, dp_131 H, dr_132 H, da_132 H, dr_133 H, da_133 H, dr_134 H, da_134 H, dr_135 H, da_135 H, dr_136 H, da_136 H, dr_137 H, da_137 H, V.1.1, V.1.2.1, V.1.2.2.1, V.1.2.2.2, c_answerOf H V O, c_noteOf H V O, c_meaning H V, V.2.1, L1]
  show (if wetsS D r = -1 then _ else some (zI (i32 (wetsS D r)), _)) = _
  by_cases c : wetsS D r = -1
  · rw [if_pos c, c, e_Survey_wettings_7]
    simp (disch := omega) only [if_true, if_false, not_true_eq_false, not_false_eq_true, zoI_s, zoR_s, zoH_s, zoL_s, zbI_s, zbV_s, zbR_s, zbL_s, zif_dec, i32_0, ne_eq, i32_lt, i32_le, i32_eq, i32_add, i32_mul, i32_sub, i32_neg, zrz_0, zrz_1, zif_t, zif_f, zsF_s, zsF_k, zsF_a, zsC_s, zsC_a, zsC_i, zsW_s, zsW_a, Int.add_zero, Int.zero_add, if_pos, if_neg]
  · rw [if_neg c]
theorem m_wetsL (S : St h) (M : moV F C D) (O : dOK D) {d r : Int} (r0 : 0 ≤ r) (r1 : r < D 0) : ∃ w u c, zr 281 12 [yR (some 72), yI (i32 d), yI (i32 r), yI (i32 0), none, none, none] [] (zw h F C) = some (zI (i32 (wetsS D r)), zw h (mlF F w u c) C) := by
  have b1 := O.2.2.2.2.1 r r0 r1
  have b2 := O.2.2.2.2.2.1 r r0 r1
  have b3 := O.2.2.2.1
  have b4 := O.2.1
  have b5 := O.2.2.1
  have L3 := fun n w p b (w0 : 0 ≤ w) (w1 : w ≤ 9) (p0 : 0 ≤ p) (p1 : p < D 1) => zandJ (fun q b (_ : Unit) => zr 281 46 [yR (some 72), yI (i32 d), yI (i32 r), yI (i32 n), yI (i32 (if b = true then 1 else 0)), yI (i32 p), yI (i32 q)] [] (zw h (mlF F w (D (5 + 2 * r)) (D 3)) C)) (fun q => decide (D (20 + 2 * q) ≤ w + D (16 + p))) (fun _ => True) (D 2) (by omega) (fun q b _ q0 q1 _ => by
    refine ⟨(), ?_, trivial⟩
    have g1 := noteS_rng (D := D) (w := w) (k := D (5 + 2 * r)) (c := D 3) (p := p) (q := q)
    have g2 := nt_c (D := D) (w := w) (u := D (5 + 2 * r)) (c := D 3) (p := p) (q := q)
    rw [e_Model_wets_46]
    cases b with
    | false => simp (disch := omega) only [if_true, if_false, not_true_eq_false, not_false_eq_true, zoI_s, zoR_s, zoH_s, zoL_s, zbI_s, zbV_s, zbR_s, zbL_s, zif_dec, i32_0, ne_eq, i32_lt, i32_le, i32_eq, i32_add, i32_mul, i32_sub, i32_neg, zrz_0, zrz_1, zif_t, zif_f, zsF_s, zsF_k, zsF_a, zsC_s, zsC_a, zsC_i, zsW_s, zsW_a, Int.add_zero, Int.zero_add, if_pos, if_neg, wv_72 S, wr_768 S, wr_769 S, wr_777 S, wr_785 S, wr_786 S, wr_787 S, wr_789 S, wr_790 S, wr_791 S, wr_802 S, wr_803 S, wr_804 S, wr_805 S, wr_806 S, wr_807 S, wr_809 S, wg_770 S, wp_770 S, wg_771 S, wp_771 S, wg_772 S, wp_772 S, wg_773 S, wp_773 S, wg_774 S, wp_774 S, wg_775 S, wp_775 S, wg_776 S, wp_776 S, wg_778 S, wp_778 S, wg_779 S, wp_779 S, wg_780 S, wp_780 S, wg_781 S, wp_781 S, wg_782 S, wp_782 S, wg_783 S, wp_783 S, wg_784 S, wp_784 S, wg_788 S, wp_788 S, wg_792 S, wp_792 S, wg_793 S, wp_793 S, wg_794 S, wp_794 S, wg_795 S, wp_795 S, wg_796 S, wp_796 S, wg_797 S, wp_797 S, wg_798 S, wp_798 S, wg_799 S, wp_799 S, wg_800 S, wp_800 S, wg_801 S, wp_801 S, wg_808 S, wp_808 S, wg_810 S, wp_810 S, mlF_o, M.2.1.1, M.2.1.2.1, M.2.1.2.2, m_lays S (M.ml _ _ _) O, mlF_ml, m_ans S M O, m_nte S M O, m_meant S (M.ml _ _ _), mlF_0, mlF_1, mlF_2, mlF_w, mlF_k, mlF_c, Bool.false_and, Bool.false_eq_true]
    | true =>
      by_cases c : D (20 + 2 * q) ≤ w + D (16 + p)
      · simp (disch := omega) only [if_true, if_false, not_true_eq_false, not_false_eq_true, zoI_s, zoR_s, zoH_s, zoL_s, zbI_s, zbV_s, zbR_s, zbL_s, zif_dec, i32_0, ne_eq, i32_lt, i32_le, i32_eq, i32_add, i32_mul, i32_sub, i32_neg, zrz_0, zrz_1, zif_t, zif_f, zsF_s, zsF_k, zsF_a, zsC_s, zsC_a, zsC_i, zsW_s, zsW_a, Int.add_zero, Int.zero_add, if_pos, if_neg, wv_72 S, wr_768 S, wr_769 S, wr_777 S, wr_785 S, wr_786 S, wr_787 S, wr_789 S, wr_790 S, wr_791 S, wr_802 S, wr_803 S, wr_804 S, wr_805 S, wr_806 S, wr_807 S, wr_809 S, wg_770 S, wp_770 S, wg_771 S, wp_771 S, wg_772 S, wp_772 S, wg_773 S, wp_773 S, wg_774 S, wp_774 S, wg_775 S, wp_775 S, wg_776 S, wp_776 S, wg_778 S, wp_778 S, wg_779 S, wp_779 S, wg_780 S, wp_780 S, wg_781 S, wp_781 S, wg_782 S, wp_782 S, wg_783 S, wp_783 S, wg_784 S, wp_784 S, wg_788 S, wp_788 S, wg_792 S, wp_792 S, wg_793 S, wp_793 S, wg_794 S, wp_794 S, wg_795 S, wp_795 S, wg_796 S, wp_796 S, wg_797 S, wp_797 S, wg_798 S, wp_798 S, wg_799 S, wp_799 S, wg_800 S, wp_800 S, wg_801 S, wp_801 S, wg_808 S, wp_808 S, wg_810 S, wp_810 S, mlF_o, M.2.1.1, M.2.1.2.1, M.2.1.2.2, m_lays S (M.ml _ _ _) O, mlF_ml, m_ans S M O, m_nte S M O, m_meant S (M.ml _ _ _), mlF_0, mlF_1, mlF_2, mlF_w, mlF_k, mlF_c, m_notw S M O, nt_c, c, decide_true, Bool.true_and]
      · simp (disch := omega) only [if_true, if_false, not_true_eq_false, not_false_eq_true, zoI_s, zoR_s, zoH_s, zoL_s, zbI_s, zbV_s, zbR_s, zbL_s, zif_dec, i32_0, ne_eq, i32_lt, i32_le, i32_eq, i32_add, i32_mul, i32_sub, i32_neg, zrz_0, zrz_1, zif_t, zif_f, zsF_s, zsF_k, zsF_a, zsC_s, zsC_a, zsC_i, zsW_s, zsW_a, Int.add_zero, Int.zero_add, if_pos, if_neg, wv_72 S, wr_768 S, wr_769 S, wr_777 S, wr_785 S, wr_786 S, wr_787 S, wr_789 S, wr_790 S, wr_791 S, wr_802 S, wr_803 S, wr_804 S, wr_805 S, wr_806 S, wr_807 S, wr_809 S, wg_770 S, wp_770 S, wg_771 S, wp_771 S, wg_772 S, wp_772 S, wg_773 S, wp_773 S, wg_774 S, wp_774 S, wg_775 S, wp_775 S, wg_776 S, wp_776 S, wg_778 S, wp_778 S, wg_779 S, wp_779 S, wg_780 S, wp_780 S, wg_781 S, wp_781 S, wg_782 S, wp_782 S, wg_783 S, wp_783 S, wg_784 S, wp_784 S, wg_788 S, wp_788 S, wg_792 S, wp_792 S, wg_793 S, wp_793 S, wg_794 S, wp_794 S, wg_795 S, wp_795 S, wg_796 S, wp_796 S, wg_797 S, wp_797 S, wg_798 S, wp_798 S, wg_799 S, wp_799 S, wg_800 S, wp_800 S, wg_801 S, wp_801 S, wg_808 S, wp_808 S, wg_810 S, wp_810 S, mlF_o, M.2.1.1, M.2.1.2.1, M.2.1.2.2, m_lays S (M.ml _ _ _) O, mlF_ml, m_ans S M O, m_nte S M O, m_meant S (M.ml _ _ _), mlF_0, mlF_1, mlF_2, mlF_w, mlF_k, mlF_c, m_notw S M O, nt_c, c, decide_false, Bool.true_and, Bool.false_eq_true]) b () trivial
  have L2 := fun n w (w0 : 0 ≤ w) (w1 : w ≤ 9) s => zandJ (fun p b (s : Option zVal) => zr 281 40 [yR (some 72), yI (i32 d), yI (i32 r), yI (i32 n), yI (i32 (if b = true then 1 else 0)), yI (i32 p), s] [] (zw h (mlF F w (D (5 + 2 * r)) (D 3)) C)) (fun p => alB (fun q => decide (D (20 + 2 * q) ≤ w + D (16 + p))) (D 2)) (fun _ => True) (D 1) (by omega) (fun p b s p0 p1 _ => by
    obtain ⟨_, e, _⟩ := L3 n w p b w0 w1 p0 p1
    rw [e_Model_wets_40]
    simp (disch := omega) only [if_true, if_false, not_true_eq_false, not_false_eq_true, zoI_s, zoR_s, zoH_s, zoL_s, zbI_s, zbV_s, zbR_s, zbL_s, zif_dec, i32_0, ne_eq, i32_lt, i32_le, i32_eq, i32_add, i32_mul, i32_sub, i32_neg, zrz_0, zrz_1, zif_t, zif_f, zsF_s, zsF_k, zsF_a, zsC_s, zsC_a, zsC_i, zsW_s, zsW_a, Int.add_zero, Int.zero_add, if_pos, if_neg, wv_72 S, wr_768 S, wr_769 S, wr_777 S, wr_785 S, wr_786 S, wr_787 S, wr_789 S, wr_790 S, wr_791 S, wr_802 S, wr_803 S, wr_804 S, wr_805 S, wr_806 S, wr_807 S, wr_809 S, wg_770 S, wp_770 S, wg_771 S, wp_771 S, wg_772 S, wp_772 S, wg_773 S, wp_773 S, wg_774 S, wp_774 S, wg_775 S, wp_775 S, wg_776 S, wp_776 S, wg_778 S, wp_778 S, wg_779 S, wp_779 S, wg_780 S, wp_780 S, wg_781 S, wp_781 S, wg_782 S, wp_782 S, wg_783 S, wp_783 S, wg_784 S, wp_784 S, wg_788 S, wp_788 S, wg_792 S, wp_792 S, wg_793 S, wp_793 S, wg_794 S, wp_794 S, wg_795 S, wp_795 S, wg_796 S, wp_796 S, wg_797 S, wp_797 S, wg_798 S, wp_798 S, wg_799 S, wp_799 S, wg_800 S, wp_800 S, wg_801 S, wp_801 S, wg_808 S, wp_808 S, wg_810 S, wp_810 S, mlF_o, M.2.1.1, M.2.1.2.1, M.2.1.2.2, m_lays S (M.ml _ _ _) O, mlF_ml, m_ans S M O, m_nte S M O, m_meant S (M.ml _ _ _), mlF_0, mlF_1, mlF_2, mlF_w, mlF_k, mlF_c]
    rw [e, e_Model_wets_46]
    simp (disch := omega) only [if_true, if_false, not_true_eq_false, not_false_eq_true, zoI_s, zoR_s, zoH_s, zoL_s, zbI_s, zbV_s, zbR_s, zbL_s, zif_dec, i32_0, ne_eq, i32_lt, i32_le, i32_eq, i32_add, i32_mul, i32_sub, i32_neg, zrz_0, zrz_1, zif_t, zif_f, zsF_s, zsF_k, zsF_a, zsC_s, zsC_a, zsC_i, zsW_s, zsW_a, Int.add_zero, Int.zero_add, if_pos, if_neg, wv_72 S, wr_768 S, wr_769 S, wr_777 S, wr_785 S, wr_786 S, wr_787 S, wr_789 S, wr_790 S, wr_791 S, wr_802 S, wr_803 S, wr_804 S, wr_805 S, wr_806 S, wr_807 S, wr_809 S, wg_770 S, wp_770 S, wg_771 S, wp_771 S, wg_772 S, wp_772 S, wg_773 S, wp_773 S, wg_774 S, wp_774 S, wg_775 S, wp_775 S, wg_776 S, wp_776 S, wg_778 S, wp_778 S, wg_779 S, wp_779 S, wg_780 S, wp_780 S, wg_781 S, wp_781 S, wg_782 S, wp_782 S, wg_783 S, wp_783 S, wg_784 S, wp_784 S, wg_788 S, wp_788 S, wg_792 S, wp_792 S, wg_793 S, wp_793 S, wg_794 S, wp_794 S, wg_795 S, wp_795 S, wg_796 S, wp_796 S, wg_797 S, wp_797 S, wg_798 S, wp_798 S, wg_799 S, wp_799 S, wg_800 S, wp_800 S, wg_801 S, wp_801 S, wg_808 S, wp_808 S, wg_810 S, wp_810 S, mlF_o, M.2.1.1, M.2.1.2.1, M.2.1.2.2, m_lays S (M.ml _ _ _) O, mlF_ml, m_ans S M O, m_nte S M O, m_meant S (M.ml _ _ _), mlF_0, mlF_1, mlF_2, mlF_w, mlF_k, mlF_c]
    exact ⟨_, rfl, trivial⟩) true s trivial
  obtain ⟨s, L1⟩ := zfstJ (fun n (s : Option zVal × Int × Int × Int) => zr 281 12 [yR (some 72), yI (i32 d), yI (i32 r), yI (i32 n), none, none, s.1] [] (zw h (mlF F s.2.1 s.2.2.1 s.2.2.2) C)) (fun n s => some (zI (i32 n), zw h (mlF F s.2.1 s.2.2.1 s.2.2.2) C)) (fun t => nevB D (wtI (D (4 + 2 * r)) t)) 0 4 (by omega) (by omega) (fun n s n0 n1 c => by
    have g := wtI_rng b1.1 n0
    obtain ⟨s', e, _⟩ := L2 n (wtI (D (4 + 2 * r)) n) g.1 g.2 s.1
    rw [Bool.true_and, show alB _ _ = true from c] at e
    rw [if_pos rfl] at e
    unfold wtI at e
    rw [e_Model_wets_12]
    by_cases c2 : 9 < D (4 + 2 * r) + 3 * n
    · rw [if_pos c2] at e
      simp (disch := omega) only [if_true, if_false, not_true_eq_false, not_false_eq_true, zoI_s, zoR_s, zoH_s, zoL_s, zbI_s, zbV_s, zbR_s, zbL_s, zif_dec, i32_0, ne_eq, i32_lt, i32_le, i32_eq, i32_add, i32_mul, i32_sub, i32_neg, zrz_0, zrz_1, zif_t, zif_f, zsF_s, zsF_k, zsF_a, zsC_s, zsC_a, zsC_i, zsW_s, zsW_a, Int.add_zero, Int.zero_add, if_pos, if_neg, wv_72 S, wr_768 S, wr_769 S, wr_777 S, wr_785 S, wr_786 S, wr_787 S, wr_789 S, wr_790 S, wr_791 S, wr_802 S, wr_803 S, wr_804 S, wr_805 S, wr_806 S, wr_807 S, wr_809 S, wg_770 S, wp_770 S, wg_771 S, wp_771 S, wg_772 S, wp_772 S, wg_773 S, wp_773 S, wg_774 S, wp_774 S, wg_775 S, wp_775 S, wg_776 S, wp_776 S, wg_778 S, wp_778 S, wg_779 S, wp_779 S, wg_780 S, wp_780 S, wg_781 S, wp_781 S, wg_782 S, wp_782 S, wg_783 S, wp_783 S, wg_784 S, wp_784 S, wg_788 S, wp_788 S, wg_792 S, wp_792 S, wg_793 S, wp_793 S, wg_794 S, wp_794 S, wg_795 S, wp_795 S, wg_796 S, wp_796 S, wg_797 S, wp_797 S, wg_798 S, wp_798 S, wg_799 S, wp_799 S, wg_800 S, wp_800 S, wg_801 S, wp_801 S, wg_808 S, wp_808 S, wg_810 S, wp_810 S, mlF_o, M.2.1.1, M.2.1.2.1, M.2.1.2.2, m_lays S (M.ml _ _ _) O, mlF_ml, m_ans S M O, m_nte S M O, m_meant S (M.ml _ _ _), mlF_0, mlF_1, mlF_2, mlF_w, mlF_k, mlF_c, e]
      rw [e_Model_wets_40]
      simp (disch := omega) only [if_true, if_false, not_true_eq_false, not_false_eq_true, zoI_s, zoR_s, zoH_s, zoL_s, zbI_s, zbV_s, zbR_s, zbL_s, zif_dec, i32_0, ne_eq, i32_lt, i32_le, i32_eq, i32_add, i32_mul, i32_sub, i32_neg, zrz_0, zrz_1, zif_t, zif_f, zsF_s, zsF_k, zsF_a, zsC_s, zsC_a, zsC_i, zsW_s, zsW_a, Int.add_zero, Int.zero_add, if_pos, if_neg, wv_72 S, wr_768 S, wr_769 S, wr_777 S, wr_785 S, wr_786 S, wr_787 S, wr_789 S, wr_790 S, wr_791 S, wr_802 S, wr_803 S, wr_804 S, wr_805 S, wr_806 S, wr_807 S, wr_809 S, wg_770 S, wp_770 S, wg_771 S, wp_771 S, wg_772 S, wp_772 S, wg_773 S, wp_773 S, wg_774 S, wp_774 S, wg_775 S, wp_775 S, wg_776 S, wp_776 S, wg_778 S, wp_778 S, wg_779 S, wp_779 S, wg_780 S, wp_780 S, wg_781 S, wp_781 S, wg_782 S, wp_782 S, wg_783 S, wp_783 S, wg_784 S, wp_784 S, wg_788 S, wp_788 S, wg_792 S, wp_792 S, wg_793 S, wp_793 S, wg_794 S, wp_794 S, wg_795 S, wp_795 S, wg_796 S, wp_796 S, wg_797 S, wp_797 S, wg_798 S, wp_798 S, wg_799 S, wp_799 S, wg_800 S, wp_800 S, wg_801 S, wp_801 S, wg_808 S, wp_808 S, wg_810 S, wp_810 S, mlF_o, M.2.1.1, M.2.1.2.1, M.2.1.2.2, m_lays S (M.ml _ _ _) O, mlF_ml, m_ans S M O, m_nte S M O, m_meant S (M.ml _ _ _), mlF_0, mlF_1, mlF_2, mlF_w, mlF_k, mlF_c]
      exact ⟨(s', _, _, _), rfl⟩
    · rw [if_neg c2] at e
      simp (disch := omega) only [if_true, if_false, not_true_eq_false, not_false_eq_true, zoI_s, zoR_s, zoH_s, zoL_s, zbI_s, zbV_s, zbR_s, zbL_s, zif_dec, i32_0, ne_eq, i32_lt, i32_le, i32_eq, i32_add, i32_mul, i32_sub, i32_neg, zrz_0, zrz_1, zif_t, zif_f, zsF_s, zsF_k, zsF_a, zsC_s, zsC_a, zsC_i, zsW_s, zsW_a, Int.add_zero, Int.zero_add, if_pos, if_neg, wv_72 S, wr_768 S, wr_769 S, wr_777 S, wr_785 S, wr_786 S, wr_787 S, wr_789 S, wr_790 S, wr_791 S, wr_802 S, wr_803 S, wr_804 S, wr_805 S, wr_806 S, wr_807 S, wr_809 S, wg_770 S, wp_770 S, wg_771 S, wp_771 S, wg_772 S, wp_772 S, wg_773 S, wp_773 S, wg_774 S, wp_774 S, wg_775 S, wp_775 S, wg_776 S, wp_776 S, wg_778 S, wp_778 S, wg_779 S, wp_779 S, wg_780 S, wp_780 S, wg_781 S, wp_781 S, wg_782 S, wp_782 S, wg_783 S, wp_783 S, wg_784 S, wp_784 S, wg_788 S, wp_788 S, wg_792 S, wp_792 S, wg_793 S, wp_793 S, wg_794 S, wp_794 S, wg_795 S, wp_795 S, wg_796 S, wp_796 S, wg_797 S, wp_797 S, wg_798 S, wp_798 S, wg_799 S, wp_799 S, wg_800 S, wp_800 S, wg_801 S, wp_801 S, wg_808 S, wp_808 S, wg_810 S, wp_810 S, mlF_o, M.2.1.1, M.2.1.2.1, M.2.1.2.2, m_lays S (M.ml _ _ _) O, mlF_ml, m_ans S M O, m_nte S M O, m_meant S (M.ml _ _ _), mlF_0, mlF_1, mlF_2, mlF_w, mlF_k, mlF_c, e]
      rw [e_Model_wets_40]
      simp (disch := omega) only [if_true, if_false, not_true_eq_false, not_false_eq_true, zoI_s, zoR_s, zoH_s, zoL_s, zbI_s, zbV_s, zbR_s, zbL_s, zif_dec, i32_0, ne_eq, i32_lt, i32_le, i32_eq, i32_add, i32_mul, i32_sub, i32_neg, zrz_0, zrz_1, zif_t, zif_f, zsF_s, zsF_k, zsF_a, zsC_s, zsC_a, zsC_i, zsW_s, zsW_a, Int.add_zero, Int.zero_add, if_pos, if_neg, wv_72 S, wr_768 S, wr_769 S, wr_777 S, wr_785 S, wr_786 S, wr_787 S, wr_789 S, wr_790 S, wr_791 S, wr_802 S, wr_803 S, wr_804 S, wr_805 S, wr_806 S, wr_807 S, wr_809 S, wg_770 S, wp_770 S, wg_771 S, wp_771 S, wg_772 S, wp_772 S, wg_773 S, wp_773 S, wg_774 S, wp_774 S, wg_775 S, wp_775 S, wg_776 S, wp_776 S, wg_778 S, wp_778 S, wg_779 S, wp_779 S, wg_780 S, wp_780 S, wg_781 S, wp_781 S, wg_782 S, wp_782 S, wg_783 S, wp_783 S, wg_784 S, wp_784 S, wg_788 S, wp_788 S, wg_792 S, wp_792 S, wg_793 S, wp_793 S, wg_794 S, wp_794 S, wg_795 S, wp_795 S, wg_796 S, wp_796 S, wg_797 S, wp_797 S, wg_798 S, wp_798 S, wg_799 S, wp_799 S, wg_800 S, wp_800 S, wg_801 S, wp_801 S, wg_808 S, wp_808 S, wg_810 S, wp_810 S, mlF_o, M.2.1.1, M.2.1.2.1, M.2.1.2.2, m_lays S (M.ml _ _ _) O, mlF_ml, m_ans S M O, m_nte S M O, m_meant S (M.ml _ _ _), mlF_0, mlF_1, mlF_2, mlF_w, mlF_k, mlF_c]
      exact ⟨(s', _, _, _), rfl⟩) (fun n s n0 n1 c => by
    have g := wtI_rng b1.1 n0
    obtain ⟨s', e, _⟩ := L2 n (wtI (D (4 + 2 * r)) n) g.1 g.2 s.1
    rw [Bool.true_and, show alB _ _ = false from c] at e
    rw [if_pos rfl] at e
    unfold wtI at e
    rw [e_Model_wets_12]
    by_cases c2 : 9 < D (4 + 2 * r) + 3 * n
    · rw [if_pos c2] at e
      simp (disch := omega) only [if_true, if_false, not_true_eq_false, not_false_eq_true, zoI_s, zoR_s, zoH_s, zoL_s, zbI_s, zbV_s, zbR_s, zbL_s, zif_dec, i32_0, ne_eq, i32_lt, i32_le, i32_eq, i32_add, i32_mul, i32_sub, i32_neg, zrz_0, zrz_1, zif_t, zif_f, zsF_s, zsF_k, zsF_a, zsC_s, zsC_a, zsC_i, zsW_s, zsW_a, Int.add_zero, Int.zero_add, if_pos, if_neg, wv_72 S, wr_768 S, wr_769 S, wr_777 S, wr_785 S, wr_786 S, wr_787 S, wr_789 S, wr_790 S, wr_791 S, wr_802 S, wr_803 S, wr_804 S, wr_805 S, wr_806 S, wr_807 S, wr_809 S, wg_770 S, wp_770 S, wg_771 S, wp_771 S, wg_772 S, wp_772 S, wg_773 S, wp_773 S, wg_774 S, wp_774 S, wg_775 S, wp_775 S, wg_776 S, wp_776 S, wg_778 S, wp_778 S, wg_779 S, wp_779 S, wg_780 S, wp_780 S, wg_781 S, wp_781 S, wg_782 S, wp_782 S, wg_783 S, wp_783 S, wg_784 S, wp_784 S, wg_788 S, wp_788 S, wg_792 S, wp_792 S, wg_793 S, wp_793 S, wg_794 S, wp_794 S, wg_795 S, wp_795 S, wg_796 S, wp_796 S, wg_797 S, wp_797 S, wg_798 S, wp_798 S, wg_799 S, wp_799 S, wg_800 S, wp_800 S, wg_801 S, wp_801 S, wg_808 S, wp_808 S, wg_810 S, wp_810 S, mlF_o, M.2.1.1, M.2.1.2.1, M.2.1.2.2, m_lays S (M.ml _ _ _) O, mlF_ml, m_ans S M O, m_nte S M O, m_meant S (M.ml _ _ _), mlF_0, mlF_1, mlF_2, mlF_w, mlF_k, mlF_c, e]
      rw [e_Model_wets_40]
      simp (disch := omega) only [if_true, if_false, not_true_eq_false, not_false_eq_true, zoI_s, zoR_s, zoH_s, zoL_s, zbI_s, zbV_s, zbR_s, zbL_s, zif_dec, i32_0, ne_eq, i32_lt, i32_le, i32_eq, i32_add, i32_mul, i32_sub, i32_neg, zrz_0, zrz_1, zif_t, zif_f, zsF_s, zsF_k, zsF_a, zsC_s, zsC_a, zsC_i, zsW_s, zsW_a, Int.add_zero, Int.zero_add, if_pos, if_neg, wv_72 S, wr_768 S, wr_769 S, wr_777 S, wr_785 S, wr_786 S, wr_787 S, wr_789 S, wr_790 S, wr_791 S, wr_802 S, wr_803 S, wr_804 S, wr_805 S, wr_806 S, wr_807 S, wr_809 S, wg_770 S, wp_770 S, wg_771 S, wp_771 S, wg_772 S, wp_772 S, wg_773 S, wp_773 S, wg_774 S, wp_774 S, wg_775 S, wp_775 S, wg_776 S, wp_776 S, wg_778 S, wp_778 S, wg_779 S, wp_779 S, wg_780 S, wp_780 S, wg_781 S, wp_781 S, wg_782 S, wp_782 S, wg_783 S, wp_783 S, wg_784 S, wp_784 S, wg_788 S, wp_788 S, wg_792 S, wp_792 S, wg_793 S, wp_793 S, wg_794 S, wp_794 S, wg_795 S, wp_795 S, wg_796 S, wp_796 S, wg_797 S, wp_797 S, wg_798 S, wp_798 S, wg_799 S, wp_799 S, wg_800 S, wp_800 S, wg_801 S, wp_801 S, wg_808 S, wp_808 S, wg_810 S, wp_810 S, mlF_o, M.2.1.1, M.2.1.2.1, M.2.1.2.2, m_lays S (M.ml _ _ _) O, mlF_ml, m_ans S M O, m_nte S M O, m_meant S (M.ml _ _ _), mlF_0, mlF_1, mlF_2, mlF_w, mlF_k, mlF_c, Bool.false_eq_true, d_Model_wets_12_w4, d_Model_wets_12_w5]
      exact ⟨(s', _, _, _), rfl⟩
    · rw [if_neg c2] at e
      simp (disch := omega) only [if_true, if_false, not_true_eq_false, not_false_eq_true, zoI_s, zoR_s, zoH_s, zoL_s, zbI_s, zbV_s, zbR_s, zbL_s, zif_dec, i32_0, ne_eq, i32_lt, i32_le, i32_eq, i32_add, i32_mul, i32_sub, i32_neg, zrz_0, zrz_1, zif_t, zif_f, zsF_s, zsF_k, zsF_a, zsC_s, zsC_a, zsC_i, zsW_s, zsW_a, Int.add_zero, Int.zero_add, if_pos, if_neg, wv_72 S, wr_768 S, wr_769 S, wr_777 S, wr_785 S, wr_786 S, wr_787 S, wr_789 S, wr_790 S, wr_791 S, wr_802 S, wr_803 S, wr_804 S, wr_805 S, wr_806 S, wr_807 S, wr_809 S, wg_770 S, wp_770 S, wg_771 S, wp_771 S, wg_772 S, wp_772 S, wg_773 S, wp_773 S, wg_774 S, wp_774 S, wg_775 S, wp_775 S, wg_776 S, wp_776 S, wg_778 S, wp_778 S, wg_779 S, wp_779 S, wg_780 S, wp_780 S, wg_781 S, wp_781 S, wg_782 S, wp_782 S, wg_783 S, wp_783 S, wg_784 S, wp_784 S, wg_788 S, wp_788 S, wg_792 S, wp_792 S, wg_793 S, wp_793 S, wg_794 S, wp_794 S, wg_795 S, wp_795 S, wg_796 S, wp_796 S, wg_797 S, wp_797 S, wg_798 S, wp_798 S, wg_799 S, wp_799 S, wg_800 S, wp_800 S, wg_801 S, wp_801 S, wg_808 S, wp_808 S, wg_810 S, wp_810 S, mlF_o, M.2.1.1, M.2.1.2.1, M.2.1.2.2, m_lays S (M.ml _ _ _) O, mlF_ml, m_ans S M O, m_nte S M O, m_meant S (M.ml _ _ _), mlF_0, mlF_1, mlF_2, mlF_w, mlF_k, mlF_c, e]
      rw [e_Model_wets_40]
      simp (disch := omega) only [if_true, if_false, not_true_eq_false, not_false_eq_true, zoI_s, zoR_s, zoH_s, zoL_s, zbI_s, zbV_s, zbR_s, zbL_s, zif_dec, i32_0, ne_eq, i32_lt, i32_le, i32_eq, i32_add, i32_mul, i32_sub, i32_neg, zrz_0, zrz_1, zif_t, zif_f, zsF_s, zsF_k, zsF_a, zsC_s, zsC_a, zsC_i, zsW_s, zsW_a, Int.add_zero, Int.zero_add, if_pos, if_neg, wv_72 S, wr_768 S, wr_769 S, wr_777 S, wr_785 S, wr_786 S, wr_787 S, wr_789 S, wr_790 S, wr_791 S, wr_802 S, wr_803 S, wr_804 S, wr_805 S, wr_806 S, wr_807 S, wr_809 S, wg_770 S, wp_770 S, wg_771 S, wp_771 S, wg_772 S, wp_772 S, wg_773 S, wp_773 S, wg_774 S, wp_774 S, wg_775 S, wp_775 S, wg_776 S, wp_776 S, wg_778 S, wp_778 S, wg_779 S, wp_779 S, wg_780 S, wp_780 S, wg_781 S, wp_781 S, wg_782 S, wp_782 S, wg_783 S, wp_783 S, wg_784 S, wp_784 S, wg_788 S, wp_788 S, wg_792 S, wp_792 S, wg_793 S, wp_793 S, wg_794 S, wp_794 S, wg_795 S, wp_795 S, wg_796 S, wp_796 S, wg_797 S, wp_797 S, wg_798 S, wp_798 S, wg_799 S, wp_799 S, wg_800 S, wp_800 S, wg_801 S, wp_801 S, wg_808 S, wp_808 S, wg_810 S, wp_810 S, mlF_o, M.2.1.1, M.2.1.2.1, M.2.1.2.2, m_lays S (M.ml _ _ _) O, mlF_ml, m_ans S M O, m_nte S M O, m_meant S (M.ml _ _ _), mlF_0, mlF_1, mlF_2, mlF_w, mlF_k, mlF_c, Bool.false_eq_true, d_Model_wets_12_w4, d_Model_wets_12_w5]
      exact ⟨(s', _, _, _), rfl⟩) (none, F 782 72, F 783 72, F 784 72)
  dsimp only at L1
  rw [mlF_id] at L1
  refine ⟨s.2.1, s.2.2.1, s.2.2.2, ?_⟩
  rw [L1]
  show (if wetsS D r = -1 then _ else some (zI (i32 (wetsS D r)), _)) = _
  by_cases c : wetsS D r = -1
  · rw [if_pos c, c, e_Model_wets_12]
    simp (disch := omega) only [if_true, if_false, not_true_eq_false, not_false_eq_true, zoI_s, zoR_s, zoH_s, zoL_s, zbI_s, zbV_s, zbR_s, zbL_s, zif_dec, i32_0, ne_eq, i32_lt, i32_le, i32_eq, i32_add, i32_mul, i32_sub, i32_neg, zrz_0, zrz_1, zif_t, zif_f, zsF_s, zsF_k, zsF_a, zsC_s, zsC_a, zsC_i, zsW_s, zsW_a, Int.add_zero, Int.zero_add, if_pos, if_neg]
  · rw [if_neg c]
end A7
theorem c_wets {d r : Int} (hd : inI d) (hr : inI r) : ans1 184 0 [zI (i32 d), zI (i32 r)] (fun A => zI (i32 (wetsQ A d r))) := by
  intro h F C Q
  have S := Q.1
  unfold inI at hd hr
  unfold wetsQ
  by_cases c1 : 0 ≤ d ∧ d < C 73 0
  · have H := Q.dS c1.1 c1.2
    have V := Q.dV c1.1 c1.2
    have O := Q.dO c1.1 c1.2
    have ha : 8 + 13 * d.toNat ≤ 28 := by have := Q.2.2.1.1; omega
    by_cases g1 : 0 ≤ r ∧ r < (dOf (C 73) d) 0
    · skip
      refine ⟨_, C, ?_, tq.rfl⟩
      simp (disch := omega) only [if_true, if_false, not_true_eq_false, not_false_eq_true, zoI_s, zoR_s, zoH_s, zoL_s, zbI_s, zbV_s, zbR_s, zbL_s, zif_dec, i32_0, ne_eq, i32_lt, i32_le, i32_eq, i32_add, i32_mul, i32_sub, i32_neg, zrz_0, zrz_1, zif_t, zif_f, zsF_s, zsF_k, zsF_a, zsC_s, zsC_a, zsC_i, zsW_s, zsW_a, Int.add_zero, Int.zero_add, if_pos, if_neg, wv_0 S, wr_704 S, wr_705 S, wr_706 S, wr_707 S, wr_708 S, wr_709 S, wr_710 S, wr_711 S, wv_68 S, wr_384 S, wr_385 S, wr_386 S, tv_1 S, dv H, dg_128 H, dp_128 H, dg_129 H, dp_129 H, dg_130 H, dp_130 H, dg_131 H, dp_131 H, dr_132 H, da_132 H, dr_133 H, da_133 H, dr_134 H, da_134 H, dr_135 H, da_135 H, dr_136 H, da_136 H, dr_137 H, da_137 H, c_dAt Q, Option.isNone_some, Option.isSome_some, c_hasReed H V O, c_hasPlayer H V O, c_hasQuestion H V O, c_hasAll H V O, c_isAnswer, c_within, ib_0, e_Main_wets, c_wettings H V O]
    · refine ⟨_, C, ?_, tq.rfl⟩
      simp (disch := omega) only [if_true, if_false, not_true_eq_false, not_false_eq_true, zoI_s, zoR_s, zoH_s, zoL_s, zbI_s, zbV_s, zbR_s, zbL_s, zif_dec, i32_0, ne_eq, i32_lt, i32_le, i32_eq, i32_add, i32_mul, i32_sub, i32_neg, zrz_0, zrz_1, zif_t, zif_f, zsF_s, zsF_k, zsF_a, zsC_s, zsC_a, zsC_i, zsW_s, zsW_a, Int.add_zero, Int.zero_add, if_pos, if_neg, wv_0 S, wr_704 S, wr_705 S, wr_706 S, wr_707 S, wr_708 S, wr_709 S, wr_710 S, wr_711 S, wv_68 S, wr_384 S, wr_385 S, wr_386 S, tv_1 S, dv H, dg_128 H, dp_128 H, dg_129 H, dp_129 H, dg_130 H, dp_130 H, dg_131 H, dp_131 H, dr_132 H, da_132 H, dr_133 H, da_133 H, dr_134 H, da_134 H, dr_135 H, da_135 H, dr_136 H, da_136 H, dr_137 H, da_137 H, c_dAt Q, Option.isNone_some, Option.isSome_some, c_hasReed H V O, c_hasPlayer H V O, c_hasQuestion H V O, c_hasAll H V O, c_isAnswer, c_within, ib_0, e_Main_wets]
  · refine ⟨_, C, ?_, tq.rfl⟩
    simp (disch := omega) only [if_true, if_false, not_true_eq_false, not_false_eq_true, zoI_s, zoR_s, zoH_s, zoL_s, zbI_s, zbV_s, zbR_s, zbL_s, zif_dec, i32_0, ne_eq, i32_lt, i32_le, i32_eq, i32_add, i32_mul, i32_sub, i32_neg, zrz_0, zrz_1, zif_t, zif_f, zsF_s, zsF_k, zsF_a, zsC_s, zsC_a, zsC_i, zsW_s, zsW_a, Int.add_zero, Int.zero_add, if_pos, if_neg, wv_0 S, wr_704 S, wr_705 S, wr_706 S, wr_707 S, wr_708 S, wr_709 S, wr_710 S, wr_711 S, tv_1 S, c_dAt0 Q, Option.isNone_none, Option.isSome_none, e_Main_wets]
theorem m_wets {d r : Int} (hd : inI d) (hr : inI r) : ans1 281 72 [zI (i32 d), zI (i32 r)] (fun A => zI (i32 (wetsQ A d r))) := by
  intro h F C Q
  have S := Q.1
  unfold inI at hd hr
  unfold wetsQ
  by_cases c1 : 0 ≤ d ∧ d < C 73 0
  · have M := miF_V Q c1.1 c1.2
    have O := Q.dO c1.1 c1.2
    by_cases g1 : 0 ≤ r ∧ r < (dOf (C 73) d) 0
    · skip
      obtain ⟨w, u, c, e⟩ := m_wetsL S M O (d := d) g1.1 g1.2
      refine ⟨_, C, ?_, (miF_tq d).ml w u c⟩
      simp (disch := omega) only [if_true, if_false, not_true_eq_false, not_false_eq_true, zoI_s, zoR_s, zoH_s, zoL_s, zbI_s, zbV_s, zbR_s, zbL_s, zif_dec, i32_0, ne_eq, i32_lt, i32_le, i32_eq, i32_add, i32_mul, i32_sub, i32_neg, zrz_0, zrz_1, zif_t, zif_f, zsF_s, zsF_k, zsF_a, zsC_s, zsC_a, zsC_i, zsW_s, zsW_a, Int.add_zero, Int.zero_add, if_pos, if_neg, wv_72 S, wr_768 S, wr_769 S, wr_777 S, wr_785 S, wr_786 S, wr_787 S, wr_789 S, wr_790 S, wr_791 S, wr_802 S, wr_803 S, wr_804 S, wr_805 S, wr_806 S, wr_807 S, wr_809 S, wg_770 S, wp_770 S, wg_771 S, wp_771 S, wg_772 S, wp_772 S, wg_773 S, wp_773 S, wg_774 S, wp_774 S, wg_775 S, wp_775 S, wg_776 S, wp_776 S, wg_778 S, wp_778 S, wg_779 S, wp_779 S, wg_780 S, wp_780 S, wg_781 S, wp_781 S, wg_782 S, wp_782 S, wg_783 S, wp_783 S, wg_784 S, wp_784 S, wg_788 S, wp_788 S, wg_792 S, wp_792 S, wg_793 S, wp_793 S, wg_794 S, wp_794 S, wg_795 S, wp_795 S, wg_796 S, wp_796 S, wg_797 S, wp_797 S, wg_798 S, wp_798 S, wg_799 S, wp_799 S, wg_800 S, wp_800 S, wg_801 S, wp_801 S, wg_808 S, wp_808 S, wg_810 S, wp_810 S, m_isD Q, m_isReed S M O, m_isPlayer S M O, m_isQuestion S M O, m_isIn, m_are3 Q, ib_0, e_Model_wets, e]
    · refine ⟨_, C, ?_, miF_tq d⟩
      simp (disch := omega) only [if_true, if_false, not_true_eq_false, not_false_eq_true, zoI_s, zoR_s, zoH_s, zoL_s, zbI_s, zbV_s, zbR_s, zbL_s, zif_dec, i32_0, ne_eq, i32_lt, i32_le, i32_eq, i32_add, i32_mul, i32_sub, i32_neg, zrz_0, zrz_1, zif_t, zif_f, zsF_s, zsF_k, zsF_a, zsC_s, zsC_a, zsC_i, zsW_s, zsW_a, Int.add_zero, Int.zero_add, if_pos, if_neg, wv_72 S, wr_768 S, wr_769 S, wr_777 S, wr_785 S, wr_786 S, wr_787 S, wr_789 S, wr_790 S, wr_791 S, wr_802 S, wr_803 S, wr_804 S, wr_805 S, wr_806 S, wr_807 S, wr_809 S, wg_770 S, wp_770 S, wg_771 S, wp_771 S, wg_772 S, wp_772 S, wg_773 S, wp_773 S, wg_774 S, wp_774 S, wg_775 S, wp_775 S, wg_776 S, wp_776 S, wg_778 S, wp_778 S, wg_779 S, wp_779 S, wg_780 S, wp_780 S, wg_781 S, wp_781 S, wg_782 S, wp_782 S, wg_783 S, wp_783 S, wg_784 S, wp_784 S, wg_788 S, wp_788 S, wg_792 S, wp_792 S, wg_793 S, wp_793 S, wg_794 S, wp_794 S, wg_795 S, wp_795 S, wg_796 S, wp_796 S, wg_797 S, wp_797 S, wg_798 S, wp_798 S, wg_799 S, wp_799 S, wg_800 S, wp_800 S, wg_801 S, wp_801 S, wg_808 S, wp_808 S, wg_810 S, wp_810 S, m_isD Q, m_isReed S M O, m_isPlayer S M O, m_isQuestion S M O, m_isIn, m_are3 Q, ib_0, e_Model_wets]
  · refine ⟨_, C, ?_, tq.rfl⟩
    simp (disch := omega) only [if_true, if_false, not_true_eq_false, not_false_eq_true, zoI_s, zoR_s, zoH_s, zoL_s, zbI_s, zbV_s, zbR_s, zbL_s, zif_dec, i32_0, ne_eq, i32_lt, i32_le, i32_eq, i32_add, i32_mul, i32_sub, i32_neg, zrz_0, zrz_1, zif_t, zif_f, zsF_s, zsF_k, zsF_a, zsC_s, zsC_a, zsC_i, zsW_s, zsW_a, Int.add_zero, Int.zero_add, if_pos, if_neg, wv_72 S, wr_768 S, wr_769 S, wr_777 S, wr_785 S, wr_786 S, wr_787 S, wr_789 S, wr_790 S, wr_791 S, wr_802 S, wr_803 S, wr_804 S, wr_805 S, wr_806 S, wr_807 S, wr_809 S, wg_770 S, wp_770 S, wg_771 S, wp_771 S, wg_772 S, wp_772 S, wg_773 S, wp_773 S, wg_774 S, wp_774 S, wg_775 S, wp_775 S, wg_776 S, wp_776 S, wg_778 S, wp_778 S, wg_779 S, wp_779 S, wg_780 S, wp_780 S, wg_781 S, wp_781 S, wg_782 S, wp_782 S, wg_783 S, wp_783 S, wg_784 S, wp_784 S, wg_788 S, wp_788 S, wg_792 S, wp_792 S, wg_793 S, wp_793 S, wg_794 S, wp_794 S, wg_795 S, wp_795 S, wg_796 S, wp_796 S, wg_797 S, wp_797 S, wg_798 S, wp_798 S, wg_799 S, wp_799 S, wg_800 S, wp_800 S, wg_801 S, wp_801 S, wg_808 S, wp_808 S, wg_810 S, wp_810 S, m_isD0 Q, m_are30 Q, e_Model_wets]
