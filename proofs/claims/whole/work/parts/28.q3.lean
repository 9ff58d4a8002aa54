/-! more loops -/
theorem zfstJ {J : Type} (X R : Int → J → Option zRes) (P : Int → Bool) (lo n : Int) (h0 : 0 ≤ lo) (hn : lo ≤ n) (hp : ∀ k s, lo ≤ k → k < n → P k = true → ∃ s', X k s = R k s') (hq : ∀ k s, lo ≤ k → k < n → P k = false → ∃ s', X k s = X (k + 1) s') (s : J) : ∃ s', X lo s = if fstF P lo (n - lo).toNat = -1 then X n s' else R (fstF P lo (n - lo).toNat) s' := by
  have key : ∀ (j : Nat) k s, lo ≤ k → k + j = n → ∃ s', X k s = if fstF P k j = -1 then X n s' else R (fstF P k j) s' := by
    intro j
    induction j with
    | zero => intro k s _ hk; obtain rfl : k = n := by omega
              exact ⟨s, rfl⟩
    | succ j ih =>
      intro k s h1 hk
      rw [fstF]
      cases c : P k with
      | true =>
        obtain ⟨s', e⟩ := hp k s h1 (by omega) c
        exact ⟨s', by rw [if_pos rfl, if_neg (by omega), e]⟩
      | false =>
        obtain ⟨s1, e1⟩ := hq k s h1 (by omega) c
        obtain ⟨s2, e2⟩ := ih (k + 1) s1 (by omega) (by omega)
        exact ⟨s2, by simp only [Bool.false_eq_true, if_false]; rw [e1, e2]⟩
  exact key _ lo s (by omega) (by omega)
theorem allB_succ (P : Int → Bool) : ∀ (j : Nat) (k : Int), allB P k (j + 1) = (allB P k j && P (k + j)) := by
  intro j
  induction j with
  | zero => intro k; simp [allB]
  | succ j ih =>
    intro k
    rw [allB, ih (k + 1), allB, show k + 1 + (j : Int) = k + ((j + 1 : Nat) : Int) by omega, Bool.and_assoc]
theorem alB_0 (P : Int → Bool) : alB P 0 = true := rfl
theorem alB_succ (P : Int → Bool) {n : Int} (h : 0 ≤ n) : alB P (n + 1) = (alB P n && P n) := by
  unfold alB
  rw [show (n + 1).toNat = n.toNat + 1 by omega, allB_succ, show 0 + (n.toNat : Int) = n by omega]
def exB (P : Int → Bool) (n : Int) : Bool := !alB (fun k => !P k) n
theorem exB_0 (P : Int → Bool) : exB P 0 = false := rfl
theorem exB_succ (P : Int → Bool) {n : Int} (h : 0 ≤ n) : exB P (n + 1) = (exB P n || P n) := by
  unfold exB
  rw [alB_succ _ h, Bool.not_and, Bool.not_not]
theorem exB_iff (P : Int → Bool) (n : Int) : exB P n = true ↔ ∃ i, 0 ≤ i ∧ i < n ∧ P i = true := by
  unfold exB
  rw [Bool.not_eq_true', ← Bool.not_eq_true, alB_iff]
  constructor
  · intro hh
    apply Classical.byContradiction
    intro hx
    apply hh
    intro i h0 h1
    cases c : P i with
    | false => rfl
    | true => exact absurd ⟨i, h0, h1, c⟩ hx
  · intro ⟨i, h0, h1, c⟩ hh
    have := hh i h0 h1
    rw [c] at this
    cases this
theorem zandJ {J : Type} (X : Int → Bool → J → Option zRes) (P : Int → Bool) (I : J → Prop) (n : Int) (hn : 0 ≤ n) (hs : ∀ k b s, 0 ≤ k → k < n → I s → ∃ s', X k b s = X (k + 1) (b && P k) s' ∧ I s') (b : Bool) (s : J) (hi : I s) : ∃ s', X 0 b s = X n (b && alB P n) s' ∧ I s' := by
  obtain ⟨⟨s1, s2⟩, e, i, i2⟩ := zinv (fun k (s : Bool × J) => X k s.1 s.2) (fun k s => s.1 = (b && alB P k) ∧ I s.2) 0 n hn (fun k s h0 h1 hi => by
    obtain ⟨s', e, i⟩ := hs k s.1 s.2 h0 h1 hi.2
    exact ⟨(s.1 && P k, s'), e, by dsimp only; rw [hi.1, alB_succ P h0, Bool.and_assoc], i⟩) (b, s) ⟨by dsimp only; rw [alB_0, Bool.and_true], hi⟩
  dsimp only at e i i2
  exact ⟨s2, by rw [e, i], i2⟩
theorem zorJ {J : Type} (X : Int → Bool → J → Option zRes) (P : Int → Bool) (I : J → Prop) (n : Int) (hn : 0 ≤ n) (hs : ∀ k b s, 0 ≤ k → k < n → I s → ∃ s', X k b s = X (k + 1) (b || P k) s' ∧ I s') (b : Bool) (s : J) (hi : I s) : ∃ s', X 0 b s = X n (b || exB P n) s' ∧ I s' := by
  obtain ⟨⟨s1, s2⟩, e, i, i2⟩ := zinv (fun k (s : Bool × J) => X k s.1 s.2) (fun k s => s.1 = (b || exB P k) ∧ I s.2) 0 n hn (fun k s h0 h1 hi => by
    obtain ⟨s', e, i⟩ := hs k s.1 s.2 h0 h1 hi.2
    exact ⟨(s.1 || P k, s'), e, by dsimp only; rw [hi.1, exB_succ P h0, Bool.or_assoc], i⟩) (b, s) ⟨by dsimp only; rw [exB_0, Bool.or_false], hi⟩
  dsimp only at e i i2
  exact ⟨s2, by rw [e, i], i2⟩
theorem zfoI {A : Type} (X : Int → A → Option zRes) (f : Int → A → A) (I : Int → A → Prop) (lo n : Int) (hn : lo ≤ n) (hs : ∀ k s, lo ≤ k → k < n → I k s → X k s = X (k + 1) (f k s)) (hI : ∀ k s, lo ≤ k → k < n → I k s → I (k + 1) (f k s)) (s : A) (hi : I lo s) : X lo s = X n (foldF f lo (n - lo).toNat s) ∧ I n (foldF f lo (n - lo).toNat s) := by
  have key : ∀ (j : Nat) k s, lo ≤ k → k + j = n → I k s → X k s = X n (foldF f k j s) ∧ I n (foldF f k j s) := by
    intro j
    induction j with
    | zero => intro k s _ hk hi; obtain rfl : k = n := by omega
              exact ⟨rfl, hi⟩
    | succ j ih =>
      intro k s h0 hk hi
      rw [hs k s h0 (by omega) hi]
      exact ih (k + 1) _ (by omega) (by omega) (hI k s h0 (by omega) hi)
  exact key _ lo s (by omega) (by omega) hi
theorem foldI {A : Type} (f : Int → A → A) (I : Int → A → Prop) (lo n : Int) (hn : lo ≤ n) (hI : ∀ k s, lo ≤ k → k < n → I k s → I (k + 1) (f k s)) (s : A) (hi : I lo s) : I n (foldF f lo (n - lo).toNat s) := (zfoI (fun _ _ => none) f I lo n hn (fun _ _ _ _ _ => rfl) hI s hi).2
theorem zfoJ {A J : Type} (X : Int → A → J → Option zRes) (f : Int → A → A) (I : Int → A → J → Prop) (lo n : Int) (hn : lo ≤ n) (hs : ∀ k a s, lo ≤ k → k < n → I k a s → ∃ s', X k a s = X (k + 1) (f k a) s' ∧ I (k + 1) (f k a) s') (a : A) (s : J) (hi : I lo a s) : ∃ s', X lo a s = X n (foldF f lo (n - lo).toNat a) s' ∧ I n (foldF f lo (n - lo).toNat a) s' := by
  have key : ∀ (j : Nat) k a s, lo ≤ k → k + j = n → I k a s → ∃ s', X k a s = X n (foldF f k j a) s' ∧ I n (foldF f k j a) s' := by
    intro j
    induction j with
    | zero => intro k a s _ hk hi; obtain rfl : k = n := by omega
              exact ⟨s, rfl, hi⟩
    | succ j ih =>
      intro k a s h0 hk hi
      obtain ⟨s1, e1, i1⟩ := hs k a s h0 (by omega) hi
      obtain ⟨s2, e2, i2⟩ := ih (k + 1) _ s1 (by omega) (by omega) i1
      exact ⟨s2, e1.trans e2, i2⟩
  exact key _ lo a s (by omega) (by omega) hi
theorem zrowJ {J : Type} (X : Int → (Int → Int) → J → Option zRes) (g : Int → Int → Int) (I : J → Prop) (n : Int) (hn : 0 ≤ n) (hs : ∀ k f s, 0 ≤ k → k < n → I s → ∃ s', X k f s = X (k + 1) (fun j => f j + g k j) s' ∧ I s') (f : Int → Int) (s : J) (hi : I s) : ∃ s', X 0 f s = X n (fun j => f j + sm (fun k => g k j) n) s' ∧ I s' := by
  obtain ⟨⟨s1, s2⟩, e, i, i2⟩ := zinv (fun k (s : (Int → Int) × J) => X k s.1 s.2) (fun k s => s.1 = (fun j => f j + sm (fun k => g k j) k) ∧ I s.2) 0 n hn (fun k s h0 h1 hi => by
    obtain ⟨s', e, i⟩ := hs k s.1 s.2 h0 h1 hi.2
    refine ⟨(fun j => s.1 j + g k j, s'), e, ?_, i⟩
    dsimp only
    funext j
    simp only [hi.1, sm_succ _ h0]
    omega) (f, s) ⟨by funext j; dsimp only; rw [sm_0]; omega, hi⟩
  dsimp only at e i i2
  exact ⟨s2, by rw [e, i], i2⟩
section A4
variable {h : zHeap} {F : Nat → Nat → Int} {C : Nat → Int → Int} {a : Nat} {D : Int → Int}
theorem m_notw (S : St h) (M : moV F C D) (O : dOK D) {p q w u c : Int} (h1 : 0 ≤ w) (h2 : w ≤ 9) (h3 : 0 ≤ u) (h4 : u ≤ 7) (h5 : 0 ≤ c) (h6 : c ≤ 9) (p0 : 0 ≤ p) (p1 : p < D 1) (q0 : 0 ≤ q) (q1 : q < D 2) : zc 237 [zR (some 72), zI (i32 p), zI (i32 q)] (zw h (mlF F w u c) C) = some (zI (i32 (noteS D w u c p q)), zw h (mlF F w u c) C) := m_noteOf S (M.ml w u c) O h1 h2 h3 h4 h5 h6 p0 p1 q0 q1
theorem m_answ (S : St h) (M : moV F C D) (O : dOK D) {p q w u c : Int} (h1 : 0 ≤ w) (h2 : w ≤ 9) (h3 : 0 ≤ u) (h4 : u ≤ 7) (h5 : 0 ≤ c) (h6 : c ≤ 9) (p0 : 0 ≤ p) (p1 : p < D 1) (q0 : 0 ≤ q) (q1 : q < D 2) : zc 239 [zR (some 72), zI (i32 p), zI (i32 q)] (zw h (mlF F w u c) C) = some (zI (i32 (meanS D (noteS D w u c p q))), zw h (mlF F w u c) C) := m_answerOf S (M.ml w u c) O h1 h2 h3 h4 h5 h6 p0 p1 q0 q1
theorem m_dries (S : St h) (M : moV F C D) (O : dOK D) {r n : Int} (r0 : 0 ≤ r) (r1 : r < D 0) (n0 : 0 ≤ n) (n1 : n ≤ 1000) : zc 256 [zR (some 72), zI (i32 r), zI (i32 n)] (zw h F C) = some (zI 0, zw h (mlF F (driS (D (4 + 2 * r)) n) (D (5 + 2 * r)) (D 3)) C) := by
  have b1 := O.2.2.2.2.1 r r0 r1
  unfold driS
  rw [e_Model_dries]
  by_cases c : D (4 + 2 * r) ≤ n
  · by_cases c2 : D (4 + 2 * r) < n
    · simp (disch := omega) only [if_true, if_false, not_true_eq_false, not_false_eq_true, zoI_s, zoR_s, zoH_s, zoL_s, zbI_s, zbV_s, zbR_s, zbL_s, zif_dec, i32_0, ne_eq, i32_lt, i32_le, i32_eq, i32_add, i32_mul, i32_sub, i32_neg, zrz_0, zrz_1, zif_t, zif_f, zsF_s, zsF_k, zsF_a, zsC_s, zsC_a, zsC_i, zsW_s, zsW_a, Int.add_zero, Int.zero_add, if_pos, if_neg, wv_72 S, wr_768 S, wr_769 S, wr_777 S, wr_785 S, wr_786 S, wr_787 S, wr_789 S, wr_790 S, wr_791 S, wr_802 S, wr_803 S, wr_804 S, wr_805 S, wr_806 S, wr_807 S, wr_809 S, wg_770 S, wp_770 S, wg_771 S, wp_771 S, wg_772 S, wp_772 S, wg_773 S, wp_773 S, wg_774 S, wp_774 S, wg_775 S, wp_775 S, wg_776 S, wp_776 S, wg_778 S, wp_778 S, wg_779 S, wp_779 S, wg_780 S, wp_780 S, wg_781 S, wp_781 S, wg_782 S, wp_782 S, wg_783 S, wp_783 S, wg_784 S, wp_784 S, wg_788 S, wp_788 S, wg_792 S, wp_792 S, wg_793 S, wp_793 S, wg_794 S, wp_794 S, wg_795 S, wp_795 S, wg_796 S, wp_796 S, wg_797 S, wp_797 S, wg_798 S, wp_798 S, wg_799 S, wp_799 S, wg_800 S, wp_800 S, wg_801 S, wp_801 S, wg_808 S, wp_808 S, wg_810 S, wp_810 S, mlF_o, M.2.1.1, M.2.1.2.1, M.2.1.2.2, m_lays S (M.ml _ _ _) O, mlF_ml, m_ans S M O, m_nte S M O, m_meant S (M.ml _ _ _), mlF_0, mlF_1, mlF_2, mlF_w, mlF_k, mlF_c, m_lays S M O]
    · simp (disch := omega) only [if_true, if_false, not_true_eq_false, not_false_eq_true, zoI_s, zoR_s, zoH_s, zoL_s, zbI_s, zbV_s, zbR_s, zbL_s, zif_dec, i32_0, ne_eq, i32_lt, i32_le, i32_eq, i32_add, i32_mul, i32_sub, i32_neg, zrz_0, zrz_1, zif_t, zif_f, zsF_s, zsF_k, zsF_a, zsC_s, zsC_a, zsC_i, zsW_s, zsW_a, Int.add_zero, Int.zero_add, if_pos, if_neg, wv_72 S, wr_768 S, wr_769 S, wr_777 S, wr_785 S, wr_786 S, wr_787 S, wr_789 S, wr_790 S, wr_791 S, wr_802 S, wr_803 S, wr_804 S, wr_805 S, wr_806 S, wr_807 S, wr_809 S, wg_770 S, wp_770 S, wg_771 S, wp_771 S, wg_772 S, wp_772 S, wg_773 S, wp_773 S, wg_774 S, wp_774 S, wg_775 S, wp_775 S, wg_776 S, wp_776 S, wg_778 S, wp_778 S, wg_779 S, wp_779 S, wg_780 S, wp_780 S, wg_781 S, wp_781 S, wg_782 S, wp_782 S, wg_783 S, wp_783 S, wg_784 S, wp_784 S, wg_788 S, wp_788 S, wg_792 S, wp_792 S, wg_793 S, wp_793 S, wg_794 S, wp_794 S, wg_795 S, wp_795 S, wg_796 S, wp_796 S, wg_797 S, wp_797 S, wg_798 S, wp_798 S, wg_799 S, wp_799 S, wg_800 S, wp_800 S, wg_801 S, wp_801 S, wg_808 S, wp_808 S, wg_810 S, wp_810 S, mlF_o, M.2.1.1, M.2.1.2.1, M.2.1.2.2, m_lays S (M.ml _ _ _) O, mlF_ml, m_ans S M O, m_nte S M O, m_meant S (M.ml _ _ _), mlF_0, mlF_1, mlF_2, mlF_w, mlF_k, mlF_c, m_lays S M O]
      rw [show D (4 + 2 * r) - n = 0 by omega]
  · simp (disch := omega) only [if_true, if_false, not_true_eq_false, not_false_eq_true, zoI_s, zoR_s, zoH_s, zoL_s, zbI_s, zbV_s, zbR_s, zbL_s, zif_dec, i32_0, ne_eq, i32_lt, i32_le, i32_eq, i32_add, i32_mul, i32_sub, i32_neg, zrz_0, zrz_1, zif_t, zif_f, zsF_s, zsF_k, zsF_a, zsC_s, zsC_a, zsC_i, zsW_s, zsW_a, Int.add_zero, Int.zero_add, if_pos, if_neg, wv_72 S, wr_768 S, wr_769 S, wr_777 S, wr_785 S, wr_786 S, wr_787 S, wr_789 S, wr_790 S, wr_791 S, wr_802 S, wr_803 S, wr_804 S, wr_805 S, wr_806 S, wr_807 S, wr_809 S, wg_770 S, wp_770 S, wg_771 S, wp_771 S, wg_772 S, wp_772 S, wg_773 S, wp_773 S, wg_774 S, wp_774 S, wg_775 S, wp_775 S, wg_776 S, wp_776 S, wg_778 S, wp_778 S, wg_779 S, wp_779 S, wg_780 S, wp_780 S, wg_781 S, wp_781 S, wg_782 S, wp_782 S, wg_783 S, wp_783 S, wg_784 S, wp_784 S, wg_788 S, wp_788 S, wg_792 S, wp_792 S, wg_793 S, wp_793 S, wg_794 S, wp_794 S, wg_795 S, wp_795 S, wg_796 S, wp_796 S, wg_797 S, wp_797 S, wg_798 S, wp_798 S, wg_799 S, wp_799 S, wg_800 S, wp_800 S, wg_801 S, wp_801 S, wg_808 S, wp_808 S, wg_810 S, wp_810 S, mlF_o, M.2.1.1, M.2.1.2.1, M.2.1.2.2, m_lays S (M.ml _ _ _) O, mlF_ml, m_ans S M O, m_nte S M O, m_meant S (M.ml _ _ _), mlF_0, mlF_1, mlF_2, mlF_w, mlF_k, mlF_c, m_lays S M O]
/-! weather -/
def weaS (D : Int → Int) (r p q x : Int) : Int := sm (fun c => if meanS D (noteS D (D (4 + 2 * r)) (D (5 + 2 * r)) c p q) = x then 1 else 0) 10
theorem c_fitColds (H : duS h a) (V : duV F C a D) (O : dOK D) {r p q x : Int} (r0 : 0 ≤ r) (r1 : r < D 0) (p0 : 0 ≤ p) (p1 : p < D 1) (q0 : 0 ≤ q) (q1 : q < D 2) (x0 : 0 ≤ x) (x1 : x < 3) : zc 97 [zR (some 68), zR (some a), zI (i32 r), zI (i32 p), zI (i32 q), zI (i32 x)] (zw h F C) = some (zI (i32 (weaS D r p q x)), zw h F C) := by
  have b0 := O.1
  have b1 := O.2.2.2.2.1 r r0 r1
  have b2 := O.2.2.2.2.2.1 r r0 r1
  have L1 := zsm (fun c s => zr 97 4 [yR (some 68), yR (some a), yI (i32 r), yI (i32 p), yI (i32 q), yI (i32 x), yI (i32 s), yI (i32 c), none] [] (zw h F C)) (fun c => if meanS D (noteS D (D (4 + 2 * r)) (D (5 + 2 * r)) c p q) = x then 1 else 0) 10 (by omega) (fun c s c0 c1 => by
    have g1 := noteS_rng (D := D) (w := D (4 + 2 * r)) (k := D (5 + 2 * r)) (c := c) (p := p) (q := q)
    have g2 := meanS_rng O g1.2
    rw [e_Survey_fitColds_4]
    by_cases cc : meanS D (noteS D (D (4 + 2 * r)) (D (5 + 2 * r)) c p q) = x
    · simp (disch := omega) only [if_true, if_false, not_true_eq_false, not_false_eq_true, zoI_s, zoR_s, zoH_s, zoL_s, zbI_s, zbV_s, zbR_s, zbL_s, zif_dec, i32_0, ne_eq, i32_lt, i32_le, i32_eq, i32_add, i32_mul, i32_sub, i32_neg, zrz_0, zrz_1, zif_t, zif_f, zsF_s, zsF_k, zsF_a, zsC_s, zsC_a, zsC_i, zsW_s, zsW_a, Int.add_zero, Int.zero_add, if_pos, if_neg, dv H, dg_128 H, dp_128 H, dg_129 H, dp_129 H, dg_130 H, dp_130 H, dg_131 H, dp_131 H, dr_132 H, da_132 H, dr_133 H, da_133 H, dr_134 H, da_134 H, dr_135 H, da_135 H, dr_136 H, da_136 H, dr_137 H, da_137 H, V.1.1, V.1.2.1, V.1.2.2.1, V.1.2.2.2, c_answerOf H V O, c_noteOf H V O, c_meaning H V, V.2.1, V.2.2.1, c_noteAt H V O, d_Survey_fitColds_4_w8]
    · simp (disch := omega) only [if_true, if_false, not_true_eq_false, not_false_eq_true, zoI_s, zoR_s, zoH_s, zoL_s, zbI_s, zbV_s, zbR_s, zbL_s, zif_dec, i32_0, ne_eq, i32_lt, i32_le, i32_eq, i32_add, i32_mul, i32_sub, i32_neg, zrz_0, zrz_1, zif_t, zif_f, zsF_s, zsF_k, zsF_a, zsC_s, zsC_a, zsC_i, zsW_s, zsW_a, Int.add_zero, Int.zero_add, if_pos, if_neg, dv H, dg_128 H, dp_128 H, dg_129 H, dp_129 H, dg_130 H, dp_130 H, dg_131 H, dp_131 H, dr_132 H, da_132 H, dr_133 H, da_133 H, dr_134 H, da_134 H, dr_135 H, da_135 H, dr_136 H, da_136 H, dr_137 H, da_137 H, V.1.1, V.1.2.1, V.1.2.2.1, V.1.2.2.2, c_answerOf H V O, c_noteOf H V O, c_meaning H V, V.2.1, V.2.2.1, c_noteAt H V O, d_Survey_fitColds_4_w8]) 0
  rw [e_Survey_fitColds, L1, e_Survey_fitColds_4]
  simp (disch := omega) only [if_true, if_false, not_true_eq_false, not_false_eq_true, zoI_s, zoR_s, zoH_s, zoL_s, zbI_s, zbV_s, zbR_s, zbL_s, zif_dec, i32_0, ne_eq, i32_lt, i32_le, i32_eq, i32_add, i32_mul, i32_sub, i32_neg, zrz_0, zrz_1, zif_t, zif_f, zsF_s, zsF_k, zsF_a, zsC_s, zsC_a, zsC_i, zsW_s, zsW_a, Int.add_zero, Int.zero_add, if_pos, if_neg, dv H, dg_128 H, dp_128 H, dg_129 H, dp_129 H, dg_130 H, dp_130 H, dg_131 H, dp_131 H, dr_132 H, da_132 H, dr_133 H, da_133 H, dr_134 H, da_134 H, dr_135 H, da_135 H, dr_136 H, da_136 H, dr_137 H, da_137 H, V.1.1, V.1.2.1, V.1.2.2.1, V.1.2.2.2, c_answerOf H V O, c_noteOf H V O, c_meaning H V]
  rfl
theorem m_weatherL (S : St h) (M : moV F C D) (O : dOK D) {d r p q x : Int} (r0 : 0 ≤ r) (r1 : r < D 0) (p0 : 0 ≤ p) (p1 : p < D 1) (q0 : 0 ≤ q) (q1 : q < D 2) (x0 : 0 ≤ x) (x1 : x < 3) : zr 255 22 [yR (some 72), yI (i32 d), yI (i32 r), yI (i32 p), yI (i32 q), yI (i32 x), yI (i32 0)] [] (zw h (mlF F (D (4 + 2 * r)) (D (5 + 2 * r)) 0) C) = some (zI (i32 (weaS D r p q x)), zw h (mlF F (D (4 + 2 * r)) (D (5 + 2 * r)) 10) C) := by
  have b1 := O.2.2.2.2.1 r r0 r1
  have b2 := O.2.2.2.2.2.1 r r0 r1
  have L1 := zsm (fun c s => zr 255 22 [yR (some 72), yI (i32 d), yI (i32 r), yI (i32 p), yI (i32 q), yI (i32 x), yI (i32 s)] [] (zw h (mlF F (D (4 + 2 * r)) (D (5 + 2 * r)) c) C)) (fun c => if meanS D (noteS D (D (4 + 2 * r)) (D (5 + 2 * r)) c p q) = x then 1 else 0) 10 (by omega) (fun c s c0 c1 => by
    have g1 := noteS_rng (D := D) (w := D (4 + 2 * r)) (k := D (5 + 2 * r)) (c := c) (p := p) (q := q)
    have g2 := meanS_rng O g1.2
    rw [e_Model_weather_22]
    by_cases cc : meanS D (noteS D (D (4 + 2 * r)) (D (5 + 2 * r)) c p q) = x
    · simp (disch := omega) only [if_true, if_false, not_true_eq_false, not_false_eq_true, zoI_s, zoR_s, zoH_s, zoL_s, zbI_s, zbV_s, zbR_s, zbL_s, zif_dec, i32_0, ne_eq, i32_lt, i32_le, i32_eq, i32_add, i32_mul, i32_sub, i32_neg, zrz_0, zrz_1, zif_t, zif_f, zsF_s, zsF_k, zsF_a, zsC_s, zsC_a, zsC_i, zsW_s, zsW_a, Int.add_zero, Int.zero_add, if_pos, if_neg, wv_72 S, wr_768 S, wr_769 S, wr_777 S, wr_785 S, wr_786 S, wr_787 S, wr_789 S, wr_790 S, wr_791 S, wr_802 S, wr_803 S, wr_804 S, wr_805 S, wr_806 S, wr_807 S, wr_809 S, wg_770 S, wp_770 S, wg_771 S, wp_771 S, wg_772 S, wp_772 S, wg_773 S, wp_773 S, wg_774 S, wp_774 S, wg_775 S, wp_775 S, wg_776 S, wp_776 S, wg_778 S, wp_778 S, wg_779 S, wp_779 S, wg_780 S, wp_780 S, wg_781 S, wp_781 S, wg_782 S, wp_782 S, wg_783 S, wp_783 S, wg_784 S, wp_784 S, wg_788 S, wp_788 S, wg_792 S, wp_792 S, wg_793 S, wp_793 S, wg_794 S, wp_794 S, wg_795 S, wp_795 S, wg_796 S, wp_796 S, wg_797 S, wp_797 S, wg_798 S, wp_798 S, wg_799 S, wp_799 S, wg_800 S, wp_800 S, wg_801 S, wp_801 S, wg_808 S, wp_808 S, wg_810 S, wp_810 S, mlF_o, M.2.1.1, M.2.1.2.1, M.2.1.2.2, m_lays S (M.ml _ _ _) O, mlF_ml, m_ans S M O, m_nte S M O, m_meant S (M.ml _ _ _), mlF_0, mlF_1, mlF_2, mlF_w, mlF_k, mlF_c, m_answ S M O]
    · simp (disch := omega) only [if_true, if_false, not_true_eq_false, not_false_eq_true, zoI_s, zoR_s, zoH_s, zoL_s, zbI_s, zbV_s, zbR_s, zbL_s, zif_dec, i32_0, ne_eq, i32_lt, i32_le, i32_eq, i32_add, i32_mul, i32_sub, i32_neg, zrz_0, zrz_1, zif_t, zif_f, zsF_s, zsF_k, zsF_a, zsC_s, zsC_a, zsC_i, zsW_s, zsW_a, Int.add_zero, Int.zero_add, if_pos, if_neg, wv_72 S, wr_768 S, wr_769 S, wr_777 S, wr_785 S, wr_786 S, wr_787 S, wr_789 S, wr_790 S, wr_791 S, wr_802 S, wr_803 S, wr_804 S, wr_805 S, wr_806 S, wr_807 S, wr_809 S, wg_770 S, wp_770 S, wg_771 S, wp_771 S, wg_772 S, wp_772 S, wg_773 S, wp_773 S, wg_774 S, wp_774 S, wg_775 S, wp_775 S, wg_776 S, wp_776 S, wg_778 S, wp_778 S, wg_779 S, wp_779 S, wg_780 S, wp_780 S, wg_781 S, wp_781 S, wg_782 S, wp_782 S, wg_783 S, wp_783 S, wg_784 S, wp_784 S, wg_788 S, wp_788 S, wg_792 S, wp_792 S, wg_793 S, wp_793 S, wg_794 S, wp_794 S, wg_795 S, wp_795 S, wg_796 S, wp_796 S, wg_797 S, wp_797 S, wg_798 S, wp_798 S, wg_799 S, wp_799 S, wg_800 S, wp_800 S, wg_801 S, wp_801 S, wg_808 S, wp_808 S, wg_810 S, wp_810 S, mlF_o, M.2.1.1, M.2.1.2.1, M.2.1.2.2, m_lays S (M.ml _ _ _) O, mlF_ml, m_ans S M O, m_nte S M O, m_meant S (M.ml _ _ _), mlF_0, mlF_1, mlF_2, mlF_w, mlF_k, mlF_c, m_answ S M O]) 0
  rw [L1, e_Model_weather_22]
  simp (disch := omega) only [if_true, if_false, not_true_eq_false, not_false_eq_true, zoI_s, zoR_s, zoH_s, zoL_s, zbI_s, zbV_s, zbR_s, zbL_s, zif_dec, i32_0, ne_eq, i32_lt, i32_le, i32_eq, i32_add, i32_mul, i32_sub, i32_neg, zrz_0, zrz_1, zif_t, zif_f, zsF_s, zsF_k, zsF_a, zsC_s, zsC_a, zsC_i, zsW_s, zsW_a, Int.add_zero, Int.zero_add, if_pos, if_neg, wv_72 S, wr_768 S, wr_769 S, wr_777 S, wr_785 S, wr_786 S, wr_787 S, wr_789 S, wr_790 S, wr_791 S, wr_802 S, wr_803 S, wr_804 S, wr_805 S, wr_806 S, wr_807 S, wr_809 S, wg_770 S, wp_770 S, wg_771 S, wp_771 S, wg_772 S, wp_772 S, wg_773 S, wp_773 S, wg_774 S, wp_774 S, wg_775 S, wp_775 S, wg_776 S, wp_776 S, wg_778 S, wp_778 S, wg_779 S, wp_779 S, wg_780 S, wp_780 S, wg_781 S, wp_781 S, wg_782 S, wp_782 S, wg_783 S, wp_783 S, wg_784 S, wp_784 S, wg_788 S, wp_788 S, wg_792 S, wp_792 S, wg_793 S, wp_793 S, wg_794 S, wp_794 S, wg_795 S, wp_795 S, wg_796 S, wp_796 S, wg_797 S, wp_797 S, wg_798 S, wp_798 S, wg_799 S, wp_799 S, wg_800 S, wp_800 S, wg_801 S, wp_801 S, wg_808 S, wp_808 S, wg_810 S, wp_810 S, mlF_o, M.2.1.1, M.2.1.2.1, M.2.1.2.2, m_lays S (M.ml _ _ _) O, mlF_ml, m_ans S M O, m_nte S M O, m_meant S (M.ml _ _ _), mlF_0, mlF_1, mlF_2, mlF_w, mlF_k, mlF_c]
  rfl
/-! ripe -/
def ripA (D : Int → Int) (r p q n : Int) : Int := meanS D (noteS D (driS (D (4 + 2 * r)) n) (D (5 + 2 * r)) (D 3) p q)
def ripS (D : Int → Int) (r p q x : Int) : Int := fstF (fun n => decide (ripA D r p q n = x)) 0 10
theorem c_nightsTill (H : duS h a) (V : duV F C a D) (O : dOK D) {r p q x : Int} (r0 : 0 ≤ r) (r1 : r < D 0) (p0 : 0 ≤ p) (p1 : p < D 1) (q0 : 0 ≤ q) (q1 : q < D 2) (x0 : 0 ≤ x) (x1 : x < 3) : zc 98 [zR (some 68), zR (some a), zI (i32 r), zI (i32 p), zI (i32 q), zI (i32 x)] (zw h F C) = some (zI (i32 (ripS D r p q x)), zw h F C) := by
  have b1 := O.2.2.2.2.1 r r0 r1
  have b2 := O.2.2.2.2.2.1 r r0 r1
  have L1 := zfst (fun n => zr 98 2 [yR (some 68), yR (some a), yI (i32 r), yI (i32 p), yI (i32 q), yI (i32 x), yI (i32 n)] [] (zw h F C)) (fun n => some (zI (i32 n), zw h F C)) (fun n => decide (ripA D r p q n = x)) 0 10 (by omega) (by omega) (fun n n0 n1 hp => by
    have hp := of_decide_eq_true hp
    unfold ripA at hp
    have g1 := noteS_rng (D := D) (w := driS (D (4 + 2 * r)) n) (k := D (5 + 2 * r)) (c := D 3) (p := p) (q := q)
    have g2 := meanS_rng O g1.2
    rw [e_Survey_nightsTill_2]
    simp (disch := omega) only [if_true, if_false, not_true_eq_false, not_false_eq_true, zoI_s, zoR_s, zoH_s, zoL_s, zbI_s, zbV_s, zbR_s, zbL_s, zif_dec, i32_0, ne_eq, i32_lt, i32_le, i32_eq, i32_add, i32_mul, i32_sub, i32_neg, zrz_0, zrz_1, zif_t, zif_f, zsF_s, zsF_k, zsF_a, zsC_s, zsC_a, zsC_i, zsW_s, zsW_a, Int.add_zero, Int.zero_add, if_pos, if_neg, dv H, dg_128 H, dp_128 H, dg_129 H, dp_129 H, dg_130 H, dp_130 H, dg_131 H, dp_131 H, dr_132 H, da_132 H, dr_133 H, da_133 H, dr_134 H, da_134 H, dr_135 H, da_135 H, dr_136 H, da_136 H, dr_137 H, da_137 H, V.1.1, V.1.2.1, V.1.2.2.1, V.1.2.2.2, c_answerOf H V O, c_noteOf H V O, c_meaning H V, c_noteDried H V O]) (fun n n0 n1 hp => by
    have hp := of_decide_eq_false hp
    unfold ripA at hp
    have g1 := noteS_rng (D := D) (w := driS (D (4 + 2 * r)) n) (k := D (5 + 2 * r)) (c := D 3) (p := p) (q := q)
    have g2 := meanS_rng O g1.2
    rw [e_Survey_nightsTill_2]
    simp (disch := omega) only [if_true, if_false, not_true_eq_false, not_false_eq_true, zoI_s, zoR_s, zoH_s, zoL_s, zbI_s, zbV_s, zbR_s, zbL_s, zif_dec, i32_0, ne_eq, i32_lt, i32_le, i32_eq, i32_add, i32_mul, i32_sub, i32_neg, zrz_0, zrz_1, zif_t, zif_f, zsF_s, zsF_k, zsF_a, zsC_s, zsC_a, zsC_i, zsW_s, zsW_a, Int.add_zero, Int.zero_add, if_pos, if_neg, dv H, dg_128 H, dp_128 H, dg_129 H, dp_129 H, dg_130 H, dp_130 H, dg_131 H, dp_131 H, dr_132 H, da_132 H, dr_133 H, da_133 H, dr_134 H, da_134 H, dr_135 H, da_135 H, dr_136 H, da_136 H, dr_137 H, da_137 H, V.1.1, V.1.2.1, V.1.2.2.1, V.1.2.2.2, c_answerOf H V O, c_noteOf H V O, c_meaning H V, c_noteDried H V O])
  rw [e_Survey_nightsTill, L1]
  show (if ripS D r p q x = -1 then _ else some (zI (i32 (ripS D r p q x)), _)) = _
  by_cases c : ripS D r p q x = -1
  · rw [if_pos c, c, e_Survey_nightsTill_2]
    simp (disch := omega) only [if_true, if_false, not_true_eq_false, not_false_eq_true, zoI_s, zoR_s, zoH_s, zoL_s, zbI_s, zbV_s, zbR_s, zbL_s, zif_dec, i32_0, ne_eq, i32_lt, i32_le, i32_eq, i32_add, i32_mul, i32_sub, i32_neg, zrz_0, zrz_1, zif_t, zif_f, zsF_s, zsF_k, zsF_a, zsC_s, zsC_a, zsC_i, zsW_s, zsW_a, Int.add_zero, Int.zero_add, if_pos, if_neg]
  · rw [if_neg c]
theorem m_ripeL (S : St h) (M : moV F C D) (O : dOK D) {d r p q x : Int} (r0 : 0 ≤ r) (r1 : r < D 0) (p0 : 0 ≤ p) (p1 : p < D 1) (q0 : 0 ≤ q) (q1 : q < D 2) (x0 : 0 ≤ x) (x1 : x < 3) : ∃ w u c, zr 258 20 [yR (some 72), yI (i32 d), yI (i32 r), yI (i32 p), yI (i32 q), yI (i32 x), yI (i32 0)] [] (zw h (mlF F (driS (D (4 + 2 * r)) 0) (D (5 + 2 * r)) (D 3)) C) = some (zI (i32 (ripS D r p q x)), zw h (mlF F w u c) C) := by
  have b1 := O.2.2.2.2.1 r r0 r1
  have b2 := O.2.2.2.2.2.1 r r0 r1
  have b3 := O.2.2.2.1
  have L1 := zfst (fun n => zr 258 20 [yR (some 72), yI (i32 d), yI (i32 r), yI (i32 p), yI (i32 q), yI (i32 x), yI (i32 n)] [] (zw h (mlF F (driS (D (4 + 2 * r)) n) (D (5 + 2 * r)) (D 3)) C)) (fun n => some (zI (i32 n), zw h (mlF F (driS (D (4 + 2 * r)) n) (D (5 + 2 * r)) (D 3)) C)) (fun n => decide (ripA D r p q n = x)) 0 10 (by omega) (by omega) (fun n n0 n1 hp => by
    have hp := of_decide_eq_true hp
    unfold ripA at hp
    have g1 := noteS_rng (D := D) (w := driS (D (4 + 2 * r)) n) (k := D (5 + 2 * r)) (c := D 3) (p := p) (q := q)
    have g2 := meanS_rng O g1.2
    have g3 := driS_rng b1.1 b1.2 n0
    rw [e_Model_ripe_20]
    simp (disch := omega) only [if_true, if_false, not_true_eq_false, not_false_eq_true, zoI_s, zoR_s, zoH_s, zoL_s, zbI_s, zbV_s, zbR_s, zbL_s, zif_dec, i32_0, ne_eq, i32_lt, i32_le, i32_eq, i32_add, i32_mul, i32_sub, i32_neg, zrz_0, zrz_1, zif_t, zif_f, zsF_s, zsF_k, zsF_a, zsC_s, zsC_a, zsC_i, zsW_s, zsW_a, Int.add_zero, Int.zero_add, if_pos, if_neg, wv_72 S, wr_768 S, wr_769 S, wr_777 S, wr_785 S, wr_786 S, wr_787 S, wr_789 S, wr_790 S, wr_791 S, wr_802 S, wr_803 S, wr_804 S, wr_805 S, wr_806 S, wr_807 S, wr_809 S, wg_770 S, wp_770 S, wg_771 S, wp_771 S, wg_772 S, wp_772 S, wg_773 S, wp_773 S, wg_774 S, wp_774 S, wg_775 S, wp_775 S, wg_776 S, wp_776 S, wg_778 S, wp_778 S, wg_779 S, wp_779 S, wg_780 S, wp_780 S, wg_781 S, wp_781 S, wg_782 S, wp_782 S, wg_783 S, wp_783 S, wg_784 S, wp_784 S, wg_788 S, wp_788 S, wg_792 S, wp_792 S, wg_793 S, wp_793 S, wg_794 S, wp_794 S, wg_795 S, wp_795 S, wg_796 S, wp_796 S, wg_797 S, wp_797 S, wg_798 S, wp_798 S, wg_799 S, wp_799 S, wg_800 S, wp_800 S, wg_801 S, wp_801 S, wg_808 S, wp_808 S, wg_810 S, wp_810 S, mlF_o, M.2.1.1, M.2.1.2.1, M.2.1.2.2, m_lays S (M.ml _ _ _) O, mlF_ml, m_ans S M O, m_nte S M O, m_meant S (M.ml _ _ _), mlF_0, mlF_1, mlF_2, mlF_w, mlF_k, mlF_c, m_answ S M O, m_dries S (M.ml _ _ _) O]) (fun n n0 n1 hp => by
    have hp := of_decide_eq_false hp
    unfold ripA at hp
    have g1 := noteS_rng (D := D) (w := driS (D (4 + 2 * r)) n) (k := D (5 + 2 * r)) (c := D 3) (p := p) (q := q)
    have g2 := meanS_rng O g1.2
    have g3 := driS_rng b1.1 b1.2 n0
    rw [e_Model_ripe_20]
    simp (disch := omega) only [if_true, if_false, not_true_eq_false, not_false_eq_true, zoI_s, zoR_s, zoH_s, zoL_s, zbI_s, zbV_s, zbR_s, zbL_s, zif_dec, i32_0, ne_eq, i32_lt, i32_le, i32_eq, i32_add, i32_mul, i32_sub, i32_neg, zrz_0, zrz_1, zif_t, zif_f, zsF_s, zsF_k, zsF_a, zsC_s, zsC_a, zsC_i, zsW_s, zsW_a, Int.add_zero, Int.zero_add, if_pos, if_neg, wv_72 S, wr_768 S, wr_769 S, wr_777 S, wr_785 S, wr_786 S, wr_787 S, wr_789 S, wr_790 S, wr_791 S, wr_802 S, wr_803 S, wr_804 S, wr_805 S, wr_806 S, wr_807 S, wr_809 S, wg_770 S, wp_770 S, wg_771 S, wp_771 S, wg_772 S, wp_772 S, wg_773 S, wp_773 S, wg_774 S, wp_774 S, wg_775 S, wp_775 S, wg_776 S, wp_776 S, wg_778 S, wp_778 S, wg_779 S, wp_779 S, wg_780 S, wp_780 S, wg_781 S, wp_781 S, wg_782 S, wp_782 S, wg_783 S, wp_783 S, wg_784 S, wp_784 S, wg_788 S, wp_788 S, wg_792 S, wp_792 S, wg_793 S, wp_793 S, wg_794 S, wp_794 S, wg_795 S, wp_795 S, wg_796 S, wp_796 S, wg_797 S, wp_797 S, wg_798 S, wp_798 S, wg_799 S, wp_799 S, wg_800 S, wp_800 S, wg_801 S, wp_801 S, wg_808 S, wp_808 S, wg_810 S, wp_810 S, mlF_o, M.2.1.1, M.2.1.2.1, M.2.1.2.2, m_lays S (M.ml _ _ _) O, mlF_ml, m_ans S M O, m_nte S M O, m_meant S (M.ml _ _ _), mlF_0, mlF_1, mlF_2, mlF_w, mlF_k, mlF_c, m_answ S M O, m_dries S (M.ml _ _ _) O])
  rw [L1]
  show ∃ w u c, (if ripS D r p q x = -1 then _ else some (zI (i32 (ripS D r p q x)), _)) = _
  by_cases c : ripS D r p q x = -1
  · rw [if_pos c, c, e_Model_ripe_20]
    simp (disch := omega) only [if_true, if_false, not_true_eq_false, not_false_eq_true, zoI_s, zoR_s, zoH_s, zoL_s, zbI_s, zbV_s, zbR_s, zbL_s, zif_dec, i32_0, ne_eq, i32_lt, i32_le, i32_eq, i32_add, i32_mul, i32_sub, i32_neg, zrz_0, zrz_1, zif_t, zif_f, zsF_s, zsF_k, zsF_a, zsC_s, zsC_a, zsC_i, zsW_s, zsW_a, Int.add_zero, Int.zero_add, if_pos, if_neg]
    exact ⟨_, _, _, rfl⟩
  · rw [if_neg c]
    exact ⟨_, _, _, rfl⟩
end A4
def weatherQ (A : Int → Int) (d r p q x : Int) : Int := if (0 ≤ d ∧ d < A 0) ∧ ((0 ≤ r ∧ r < dOf A d 0) ∧ (0 ≤ p ∧ p < dOf A d 1) ∧ (0 ≤ q ∧ q < dOf A d 2)) ∧ (0 ≤ x ∧ x < 3) then weaS (dOf A d) r p q x else -1
def ripeQ (A : Int → Int) (d r p q x : Int) : Int := if (0 ≤ d ∧ d < A 0) ∧ ((0 ≤ r ∧ r < dOf A d 0) ∧ (0 ≤ p ∧ p < dOf A d 1) ∧ (0 ≤ q ∧ q < dOf A d 2)) ∧ (0 ≤ x ∧ x < 3) then ripS (dOf A d) r p q x else -1
def chantQ (A : Int → Int) (d r p q x : Int) : Int := if (0 ≤ d ∧ d < A 0) ∧ ((0 ≤ r ∧ r < dOf A d 0) ∧ (0 ≤ p ∧ p < dOf A d 1) ∧ (0 ≤ q ∧ q < dOf A d 2)) ∧ (0 ≤ x ∧ x ≤ 20) then noteS (dOf A d) (driS (dOf A d (4 + 2 * r)) x) (dOf A d (5 + 2 * r)) (dOf A d 3) p q else -2
theorem c_weather {d r p q x : Int} (hd : inI d) (hr : inI r) (hp : inI p) (hq : inI q) (hx : inI x) : ans1 165 0 [zI (i32 d), zI (i32 r), zI (i32 p), zI (i32 q), zI (i32 x)] (fun A => zI (i32 (weatherQ A d r p q x))) := by
  intro h F C Q
  have S := Q.1
  unfold inI at hd hr hp hq hx
  refine ⟨F, C, ?_, tq.rfl⟩
  unfold weatherQ
  by_cases c1 : 0 ≤ d ∧ d < C 73 0
  · have H := Q.dS c1.1 c1.2
    have V := Q.dV c1.1 c1.2
    have O := Q.dO c1.1 c1.2
    by_cases c2 : (0 ≤ r ∧ r < dOf (C 73) d 0) ∧ (0 ≤ p ∧ p < dOf (C 73) d 1) ∧ (0 ≤ q ∧ q < dOf (C 73) d 2)
    · by_cases c3 : 0 ≤ x ∧ x < 3
      · simp (disch := omega) only [if_true, if_false, not_true_eq_false, not_false_eq_true, zoI_s, zoR_s, zoH_s, zoL_s, zbI_s, zbV_s, zbR_s, zbL_s, zif_dec, i32_0, ne_eq, i32_lt, i32_le, i32_eq, i32_add, i32_mul, i32_sub, i32_neg, zrz_0, zrz_1, zif_t, zif_f, zsF_s, zsF_k, zsF_a, zsC_s, zsC_a, zsC_i, zsW_s, zsW_a, Int.add_zero, Int.zero_add, if_pos, if_neg, wv_0 S, wr_704 S, wr_705 S, wr_706 S, wr_707 S, wr_708 S, wr_709 S, wr_710 S, wr_711 S, wv_68 S, wr_384 S, wr_385 S, wr_386 S, tv_1 S, dv H, dg_128 H, dp_128 H, dg_129 H, dp_129 H, dg_130 H, dp_130 H, dg_131 H, dp_131 H, dr_132 H, da_132 H, dr_133 H, da_133 H, dr_134 H, da_134 H, dr_135 H, da_135 H, dr_136 H, da_136 H, dr_137 H, da_137 H, c_dAt Q, Option.isNone_some, Option.isSome_some, c_hasReed H V O, c_hasPlayer H V O, c_hasQuestion H V O, c_hasAll H V O, c_isAnswer, c_within, ib_0, e_Main_weather, c_fitColds H V O]
      · simp (disch := omega) only [if_true, if_false, not_true_eq_false, not_false_eq_true, zoI_s, zoR_s, zoH_s, zoL_s, zbI_s, zbV_s, zbR_s, zbL_s, zif_dec, i32_0, ne_eq, i32_lt, i32_le, i32_eq, i32_add, i32_mul, i32_sub, i32_neg, zrz_0, zrz_1, zif_t, zif_f, zsF_s, zsF_k, zsF_a, zsC_s, zsC_a, zsC_i, zsW_s, zsW_a, Int.add_zero, Int.zero_add, if_pos, if_neg, wv_0 S, wr_704 S, wr_705 S, wr_706 S, wr_707 S, wr_708 S, wr_709 S, wr_710 S, wr_711 S, wv_68 S, wr_384 S, wr_385 S, wr_386 S, tv_1 S, dv H, dg_128 H, dp_128 H, dg_129 H, dp_129 H, dg_130 H, dp_130 H, dg_131 H, dp_131 H, dr_132 H, da_132 H, dr_133 H, da_133 H, dr_134 H, da_134 H, dr_135 H, da_135 H, dr_136 H, da_136 H, dr_137 H, da_137 H, c_dAt Q, Option.isNone_some, Option.isSome_some, c_hasReed H V O, c_hasPlayer H V O, c_hasQuestion H V O, c_hasAll H V O, c_isAnswer, c_within, ib_0, e_Main_weather]
    · simp (disch := omega) only [if_true, if_false, not_true_eq_false, not_false_eq_true, zoI_s, zoR_s, zoH_s, zoL_s, zbI_s, zbV_s, zbR_s, zbL_s, zif_dec, i32_0, ne_eq, i32_lt, i32_le, i32_eq, i32_add, i32_mul, i32_sub, i32_neg, zrz_0, zrz_1, zif_t, zif_f, zsF_s, zsF_k, zsF_a, zsC_s, zsC_a, zsC_i, zsW_s, zsW_a, Int.add_zero, Int.zero_add, if_pos, if_neg, wv_0 S, wr_704 S, wr_705 S, wr_706 S, wr_707 S, wr_708 S, wr_709 S, wr_710 S, wr_711 S, wv_68 S, wr_384 S, wr_385 S, wr_386 S, tv_1 S, dv H, dg_128 H, dp_128 H, dg_129 H, dp_129 H, dg_130 H, dp_130 H, dg_131 H, dp_131 H, dr_132 H, da_132 H, dr_133 H, da_133 H, dr_134 H, da_134 H, dr_135 H, da_135 H, dr_136 H, da_136 H, dr_137 H, da_137 H, c_dAt Q, Option.isNone_some, Option.isSome_some, c_hasReed H V O, c_hasPlayer H V O, c_hasQuestion H V O, c_hasAll H V O, c_isAnswer, c_within, ib_0, e_Main_weather]
  · simp (disch := omega) only [if_true, if_false, not_true_eq_false, not_false_eq_true, zoI_s, zoR_s, zoH_s, zoL_s, zbI_s, zbV_s, zbR_s, zbL_s, zif_dec, i32_0, ne_eq, i32_lt, i32_le, i32_eq, i32_add, i32_mul, i32_sub, i32_neg, zrz_0, zrz_1, zif_t, zif_f, zsF_s, zsF_k, zsF_a, zsC_s, zsC_a, zsC_i, zsW_s, zsW_a, Int.add_zero, Int.zero_add, if_pos, if_neg, wv_0 S, wr_704 S, wr_705 S, wr_706 S, wr_707 S, wr_708 S, wr_709 S, wr_710 S, wr_711 S, tv_1 S, c_dAt0 Q, Option.isNone_none, Option.isSome_none, e_Main_weather]
theorem m_weather {d r p q x : Int} (hd : inI d) (hr : inI r) (hp : inI p) (hq : inI q) (hx : inI x) : ans1 255 72 [zI (i32 d), zI (i32 r), zI (i32 p), zI (i32 q), zI (i32 x)] (fun A => zI (i32 (weatherQ A d r p q x))) := by
  intro h F C Q
  have S := Q.1
  unfold inI at hd hr hp hq hx
  unfold weatherQ
  by_cases c1 : 0 ≤ d ∧ d < C 73 0
  · have M := miF_V Q c1.1 c1.2
    have O := Q.dO c1.1 c1.2
    by_cases c2 : (0 ≤ r ∧ r < dOf (C 73) d 0) ∧ (0 ≤ p ∧ p < dOf (C 73) d 1) ∧ (0 ≤ q ∧ q < dOf (C 73) d 2)
    · by_cases c3 : 0 ≤ x ∧ x < 3
      · refine ⟨_, C, ?_, (miF_tq d).ml (dOf (C 73) d (4 + 2 * r)) (dOf (C 73) d (5 + 2 * r)) 10⟩
        simp (disch := omega) only [if_true, if_false, not_true_eq_false, not_false_eq_true, zoI_s, zoR_s, zoH_s, zoL_s, zbI_s, zbV_s, zbR_s, zbL_s, zif_dec, i32_0, ne_eq, i32_lt, i32_le, i32_eq, i32_add, i32_mul, i32_sub, i32_neg, zrz_0, zrz_1, zif_t, zif_f, zsF_s, zsF_k, zsF_a, zsC_s, zsC_a, zsC_i, zsW_s, zsW_a, Int.add_zero, Int.zero_add, if_pos, if_neg, wv_72 S, wr_768 S, wr_769 S, wr_777 S, wr_785 S, wr_786 S, wr_787 S, wr_789 S, wr_790 S, wr_791 S, wr_802 S, wr_803 S, wr_804 S, wr_805 S, wr_806 S, wr_807 S, wr_809 S, wg_770 S, wp_770 S, wg_771 S, wp_771 S, wg_772 S, wp_772 S, wg_773 S, wp_773 S, wg_774 S, wp_774 S, wg_775 S, wp_775 S, wg_776 S, wp_776 S, wg_778 S, wp_778 S, wg_779 S, wp_779 S, wg_780 S, wp_780 S, wg_781 S, wp_781 S, wg_782 S, wp_782 S, wg_783 S, wp_783 S, wg_784 S, wp_784 S, wg_788 S, wp_788 S, wg_792 S, wp_792 S, wg_793 S, wp_793 S, wg_794 S, wp_794 S, wg_795 S, wp_795 S, wg_796 S, wp_796 S, wg_797 S, wp_797 S, wg_798 S, wp_798 S, wg_799 S, wp_799 S, wg_800 S, wp_800 S, wg_801 S, wp_801 S, wg_808 S, wp_808 S, wg_810 S, wp_810 S, m_isD Q, m_isReed S M O, m_isPlayer S M O, m_isQuestion S M O, m_isIn, m_are3 Q, ib_0, wv_72 S, wr_768 S, wr_769 S, wr_777 S, wr_785 S, wr_786 S, wr_787 S, wr_789 S, wr_790 S, wr_791 S, wr_802 S, wr_803 S, wr_804 S, wr_805 S, wr_806 S, wr_807 S, wr_809 S, wg_770 S, wp_770 S, wg_771 S, wp_771 S, wg_772 S, wp_772 S, wg_773 S, wp_773 S, wg_774 S, wp_774 S, wg_775 S, wp_775 S, wg_776 S, wp_776 S, wg_778 S, wp_778 S, wg_779 S, wp_779 S, wg_780 S, wp_780 S, wg_781 S, wp_781 S, wg_782 S, wp_782 S, wg_783 S, wp_783 S, wg_784 S, wp_784 S, wg_788 S, wp_788 S, wg_792 S, wp_792 S, wg_793 S, wp_793 S, wg_794 S, wp_794 S, wg_795 S, wp_795 S, wg_796 S, wp_796 S, wg_797 S, wp_797 S, wg_798 S, wp_798 S, wg_799 S, wp_799 S, wg_800 S, wp_800 S, wg_801 S, wp_801 S, wg_808 S, wp_808 S, wg_810 S, wp_810 S, mlF_o, M.2.1.1, M.2.1.2.1, M.2.1.2.2, m_lays S (M.ml _ _ _) O, mlF_ml, m_ans S M O, m_nte S M O, m_meant S (M.ml _ _ _), mlF_0, mlF_1, mlF_2, mlF_w, mlF_k, mlF_c, m_lays S M O, e_Model_weather, m_weatherL S M O]
      · refine ⟨_, C, ?_, miF_tq d⟩
        simp (disch := omega) only [if_true, if_false, not_true_eq_false, not_false_eq_true, zoI_s, zoR_s, zoH_s, zoL_s, zbI_s, zbV_s, zbR_s, zbL_s, zif_dec, i32_0, ne_eq, i32_lt, i32_le, i32_eq, i32_add, i32_mul, i32_sub, i32_neg, zrz_0, zrz_1, zif_t, zif_f, zsF_s, zsF_k, zsF_a, zsC_s, zsC_a, zsC_i, zsW_s, zsW_a, Int.add_zero, Int.zero_add, if_pos, if_neg, wv_72 S, wr_768 S, wr_769 S, wr_777 S, wr_785 S, wr_786 S, wr_787 S, wr_789 S, wr_790 S, wr_791 S, wr_802 S, wr_803 S, wr_804 S, wr_805 S, wr_806 S, wr_807 S, wr_809 S, wg_770 S, wp_770 S, wg_771 S, wp_771 S, wg_772 S, wp_772 S, wg_773 S, wp_773 S, wg_774 S, wp_774 S, wg_775 S, wp_775 S, wg_776 S, wp_776 S, wg_778 S, wp_778 S, wg_779 S, wp_779 S, wg_780 S, wp_780 S, wg_781 S, wp_781 S, wg_782 S, wp_782 S, wg_783 S, wp_783 S, wg_784 S, wp_784 S, wg_788 S, wp_788 S, wg_792 S, wp_792 S, wg_793 S, wp_793 S, wg_794 S, wp_794 S, wg_795 S, wp_795 S, wg_796 S, wp_796 S, wg_797 S, wp_797 S, wg_798 S, wp_798 S, wg_799 S, wp_799 S, wg_800 S, wp_800 S, wg_801 S, wp_801 S, wg_808 S, wp_808 S, wg_810 S, wp_810 S, m_isD Q, m_isReed S M O, m_isPlayer S M O, m_isQuestion S M O, m_isIn, m_are3 Q, ib_0, e_Model_weather]
    · refine ⟨_, C, ?_, miF_tq d⟩
      simp (disch := omega) only [if_true, if_false, not_true_eq_false, not_false_eq_true, zoI_s, zoR_s, zoH_s, zoL_s, zbI_s, zbV_s, zbR_s, zbL_s, zif_dec, i32_0, ne_eq, i32_lt, i32_le, i32_eq, i32_add, i32_mul, i32_sub, i32_neg, zrz_0, zrz_1, zif_t, zif_f, zsF_s, zsF_k, zsF_a, zsC_s, zsC_a, zsC_i, zsW_s, zsW_a, Int.add_zero, Int.zero_add, if_pos, if_neg, wv_72 S, wr_768 S, wr_769 S, wr_777 S, wr_785 S, wr_786 S, wr_787 S, wr_789 S, wr_790 S, wr_791 S, wr_802 S, wr_803 S, wr_804 S, wr_805 S, wr_806 S, wr_807 S, wr_809 S, wg_770 S, wp_770 S, wg_771 S, wp_771 S, wg_772 S, wp_772 S, wg_773 S, wp_773 S, wg_774 S, wp_774 S, wg_775 S, wp_775 S, wg_776 S, wp_776 S, wg_778 S, wp_778 S, wg_779 S, wp_779 S, wg_780 S, wp_780 S, wg_781 S, wp_781 S, wg_782 S, wp_782 S, wg_783 S, wp_783 S, wg_784 S, wp_784 S, wg_788 S, wp_788 S, wg_792 S, wp_792 S, wg_793 S, wp_793 S, wg_794 S, wp_794 S, wg_795 S, wp_795 S, wg_796 S, wp_796 S, wg_797 S, wp_797 S, wg_798 S, wp_798 S, wg_799 S, wp_799 S, wg_800 S, wp_800 S, wg_801 S, wp_801 S, wg_808 S, wp_808 S, wg_810 S, wp_810 S, m_isD Q, m_isReed S M O, m_isPlayer S M O, m_isQuestion S M O, m_isIn, m_are3 Q, ib_0, e_Model_weather]
  · refine ⟨_, C, ?_, tq.rfl⟩
    simp (disch := omega) only [if_true, if_false, not_true_eq_false, not_false_eq_true, zoI_s, zoR_s, zoH_s, zoL_s, zbI_s, zbV_s, zbR_s, zbL_s, zif_dec, i32_0, ne_eq, i32_lt, i32_le, i32_eq, i32_add, i32_mul, i32_sub, i32_neg, zrz_0, zrz_1, zif_t, zif_f, zsF_s, zsF_k, zsF_a, zsC_s, zsC_a, zsC_i, zsW_s, zsW_a, Int.add_zero, Int.zero_add, if_pos, if_neg, wv_72 S, wr_768 S, wr_769 S, wr_777 S, wr_785 S, wr_786 S, wr_787 S, wr_789 S, wr_790 S, wr_791 S, wr_802 S, wr_803 S, wr_804 S, wr_805 S, wr_806 S, wr_807 S, wr_809 S, wg_770 S, wp_770 S, wg_771 S, wp_771 S, wg_772 S, wp_772 S, wg_773 S, wp_773 S, wg_774 S, wp_774 S, wg_775 S, wp_775 S, wg_776 S, wp_776 S, wg_778 S, wp_778 S, wg_779 S, wp_779 S, wg_780 S, wp_780 S, wg_781 S, wp_781 S, wg_782 S, wp_782 S, wg_783 S, wp_783 S, wg_784 S, wp_784 S, wg_788 S, wp_788 S, wg_792 S, wp_792 S, wg_793 S, wp_793 S, wg_794 S, wp_794 S, wg_795 S, wp_795 S, wg_796 S, wp_796 S, wg_797 S, wp_797 S, wg_798 S, wp_798 S, wg_799 S, wp_799 S, wg_800 S, wp_800 S, wg_801 S, wp_801 S, wg_808 S, wp_808 S, wg_810 S, wp_810 S, m_isD0 Q, m_are30 Q, e_Model_weather]
theorem c_ripe {d r p q x : Int} (hd : inI d) (hr : inI r) (hp : inI p) (hq : inI q) (hx : inI x) : ans1 171 0 [zI (i32 d), zI (i32 r), zI (i32 p), zI (i32 q), zI (i32 x)] (fun A => zI (i32 (ripeQ A d r p q x))) := by
  intro h F C Q
  have S := Q.1
  unfold inI at hd hr hp hq hx
  refine ⟨F, C, ?_, tq.rfl⟩
  unfold ripeQ
  by_cases c1 : 0 ≤ d ∧ d < C 73 0
  · have H := Q.dS c1.1 c1.2
    have V := Q.dV c1.1 c1.2
    have O := Q.dO c1.1 c1.2
    by_cases c2 : (0 ≤ r ∧ r < dOf (C 73) d 0) ∧ (0 ≤ p ∧ p < dOf (C 73) d 1) ∧ (0 ≤ q ∧ q < dOf (C 73) d 2)
    · by_cases c3 : 0 ≤ x ∧ x < 3
      · simp (disch := omega) only [if_true, if_false, not_true_eq_false, not_false_eq_true, zoI_s, zoR_s, zoH_s, zoL_s, zbI_s, zbV_s, zbR_s, zbL_s, zif_dec, i32_0, ne_eq, i32_lt, i32_le, i32_eq, i32_add, i32_mul, i32_sub, i32_neg, zrz_0, zrz_1, zif_t, zif_f, zsF_s, zsF_k, zsF_a, zsC_s, zsC_a, zsC_i, zsW_s, zsW_a, Int.add_zero, Int.zero_add, if_pos, if_neg, wv_0 S, wr_704 S, wr_705 S, wr_706 S, wr_707 S, wr_708 S, wr_709 S, wr_710 S, wr_711 S, wv_68 S, wr_384 S, wr_385 S, wr_386 S, tv_1 S, dv H, dg_128 H, dp_128 H, dg_129 H, dp_129 H, dg_130 H, dp_130 H, dg_131 H, dp_131 H, dr_132 H, da_132 H, dr_133 H, da_133 H, dr_134 H, da_134 H, dr_135 H, da_135 H, dr_136 H, da_136 H, dr_137 H, da_137 H, c_dAt Q, Option.isNone_some, Option.isSome_some, c_hasReed H V O, c_hasPlayer H V O, c_hasQuestion H V O, c_hasAll H V O, c_isAnswer, c_within, ib_0, e_Main_ripe, c_nightsTill H V O]
      · simp (disch := omega) only [if_true, if_false, not_true_eq_false, not_false_eq_true, zoI_s, zoR_s, zoH_s, zoL_s, zbI_s, zbV_s, zbR_s, zbL_s, zif_dec, i32_0, ne_eq, i32_lt, i32_le, i32_eq, i32_add, i32_mul, i32_sub, i32_neg, zrz_0, zrz_1, zif_t, zif_f, zsF_s, zsF_k, zsF_a, zsC_s, zsC_a, zsC_i, zsW_s, zsW_a, Int.add_zero, Int.zero_add, if_pos, if_neg, wv_0 S, wr_704 S, wr_705 S, wr_706 S, wr_707 S, wr_708 S, wr_709 S, wr_710 S, wr_711 S, wv_68 S, wr_384 S, wr_385 S, wr_386 S, tv_1 S, dv H, dg_128 H, dp_128 H, dg_129 H, dp_129 H, dg_130 H, dp_130 H, dg_131 H, dp_131 H, dr_132 H, da_132 H, dr_133 H, da_133 H, dr_134 H, da_134 H, dr_135 H, da_135 H, dr_136 H, da_136 H, dr_137 H, da_137 H, c_dAt Q, Option.isNone_some, Option.isSome_some, c_hasReed H V O, c_hasPlayer H V O, c_hasQuestion H V O, c_hasAll H V O, c_isAnswer, c_within, ib_0, e_Main_ripe]
    · simp (disch := omega) only [if_true, if_false, not_true_eq_false, not_false_eq_true, zoI_s, zoR_s, zoH_s, zoL_s, zbI_s, zbV_s, zbR_s, zbL_s, zif_dec, i32_0, ne_eq, i32_lt, i32_le, i32_eq, i32_add, i32_mul, i32_sub, i32_neg, zrz_0, zrz_1, zif_t, zif_f, zsF_s, zsF_k, zsF_a, zsC_s, zsC_a, zsC_i, zsW_s, zsW_a, Int.add_zero, Int.zero_add, if_pos, if_neg, wv_0 S, wr_704 S, wr_705 S, wr_706 S, wr_707 S, wr_708 S, wr_709 S, wr_710 S, wr_711 S, wv_68 S, wr_384 S, wr_385 S, wr_386 S, tv_1 S, dv H, dg_128 H, dp_128 H, dg_129 H, dp_129 H, dg_130 H, dp_130 H, dg_131 H, dp_131 H, dr_132 H, da_132 H, dr_133 H, da_133 H, dr_134 H, da_134 H, dr_135 H, da_135 H, dr_136 H, da_136 H, dr_137 H, da_137 H, c_dAt Q, Option.isNone_some, Option.isSome_some, c_hasReed H V O, c_hasPlayer H V O, c_hasQuestion H V O, c_hasAll H V O, c_isAnswer, c_within, ib_0, e_Main_ripe]
  · simp (disch := omega) only [if_true, if_false, not_true_eq_false, not_false_eq_true, zoI_s, zoR_s, zoH_s, zoL_s, zbI_s, zbV_s, zbR_s, zbL_s, zif_dec, i32_0, ne_eq, i32_lt, i32_le, i32_eq, i32_add, i32_mul, i32_sub, i32_neg, zrz_0, zrz_1, zif_t, zif_f, zsF_s, zsF_k, zsF_a, zsC_s, zsC_a, zsC_i, zsW_s, zsW_a, Int.add_zero, Int.zero_add, if_pos, if_neg, wv_0 S, wr_704 S, wr_705 S, wr_706 S, wr_707 S, wr_708 S, wr_709 S, wr_710 S, wr_711 S, tv_1 S, c_dAt0 Q, Option.isNone_none, Option.isSome_none, e_Main_ripe]
theorem m_ripe {d r p q x : Int} (hd : inI d) (hr : inI r) (hp : inI p) (hq : inI q) (hx : inI x) : ans1 258 72 [zI (i32 d), zI (i32 r), zI (i32 p), zI (i32 q), zI (i32 x)] (fun A => zI (i32 (ripeQ A d r p q x))) := by
  intro h F C Q
  have S := Q.1
  unfold inI at hd hr hp hq hx
  unfold ripeQ
  by_cases c1 : 0 ≤ d ∧ d < C 73 0
  · have M := miF_V Q c1.1 c1.2
    have O := Q.dO c1.1 c1.2
    by_cases c2 : (0 ≤ r ∧ r < dOf (C 73) d 0) ∧ (0 ≤ p ∧ p < dOf (C 73) d 1) ∧ (0 ≤ q ∧ q < dOf (C 73) d 2)
    · by_cases c3 : 0 ≤ x ∧ x < 3
      · obtain ⟨w, u, c, e⟩ := m_ripeL S M O (d := d) c2.1.1 c2.1.2 c2.2.1.1 c2.2.1.2 c2.2.2.1 c2.2.2.2 c3.1 c3.2
        refine ⟨_, C, ?_, (miF_tq d).ml w u c⟩
        simp (disch := omega) only [if_true, if_false, not_true_eq_false, not_false_eq_true, zoI_s, zoR_s, zoH_s, zoL_s, zbI_s, zbV_s, zbR_s, zbL_s, zif_dec, i32_0, ne_eq, i32_lt, i32_le, i32_eq, i32_add, i32_mul, i32_sub, i32_neg, zrz_0, zrz_1, zif_t, zif_f, zsF_s, zsF_k, zsF_a, zsC_s, zsC_a, zsC_i, zsW_s, zsW_a, Int.add_zero, Int.zero_add, if_pos, if_neg, wv_72 S, wr_768 S, wr_769 S, wr_777 S, wr_785 S, wr_786 S, wr_787 S, wr_789 S, wr_790 S, wr_791 S, wr_802 S, wr_803 S, wr_804 S, wr_805 S, wr_806 S, wr_807 S, wr_809 S, wg_770 S, wp_770 S, wg_771 S, wp_771 S, wg_772 S, wp_772 S, wg_773 S, wp_773 S, wg_774 S, wp_774 S, wg_775 S, wp_775 S, wg_776 S, wp_776 S, wg_778 S, wp_778 S, wg_779 S, wp_779 S, wg_780 S, wp_780 S, wg_781 S, wp_781 S, wg_782 S, wp_782 S, wg_783 S, wp_783 S, wg_784 S, wp_784 S, wg_788 S, wp_788 S, wg_792 S, wp_792 S, wg_793 S, wp_793 S, wg_794 S, wp_794 S, wg_795 S, wp_795 S, wg_796 S, wp_796 S, wg_797 S, wp_797 S, wg_798 S, wp_798 S, wg_799 S, wp_799 S, wg_800 S, wp_800 S, wg_801 S, wp_801 S, wg_808 S, wp_808 S, wg_810 S, wp_810 S, m_isD Q, m_isReed S M O, m_isPlayer S M O, m_isQuestion S M O, m_isIn, m_are3 Q, ib_0, wv_72 S, wr_768 S, wr_769 S, wr_777 S, wr_785 S, wr_786 S, wr_787 S, wr_789 S, wr_790 S, wr_791 S, wr_802 S, wr_803 S, wr_804 S, wr_805 S, wr_806 S, wr_807 S, wr_809 S, wg_770 S, wp_770 S, wg_771 S, wp_771 S, wg_772 S, wp_772 S, wg_773 S, wp_773 S, wg_774 S, wp_774 S, wg_775 S, wp_775 S, wg_776 S, wp_776 S, wg_778 S, wp_778 S, wg_779 S, wp_779 S, wg_780 S, wp_780 S, wg_781 S, wp_781 S, wg_782 S, wp_782 S, wg_783 S, wp_783 S, wg_784 S, wp_784 S, wg_788 S, wp_788 S, wg_792 S, wp_792 S, wg_793 S, wp_793 S, wg_794 S, wp_794 S, wg_795 S, wp_795 S, wg_796 S, wp_796 S, wg_797 S, wp_797 S, wg_798 S, wp_798 S, wg_799 S, wp_799 S, wg_800 S, wp_800 S, wg_801 S, wp_801 S, wg_808 S, wp_808 S, wg_810 S, wp_810 S, mlF_o, M.2.1.1, M.2.1.2.1, M.2.1.2.2, m_lays S (M.ml _ _ _) O, mlF_ml, m_ans S M O, m_nte S M O, m_meant S (M.ml _ _ _), mlF_0, mlF_1, mlF_2, mlF_w, mlF_k, mlF_c, m_dries S M O, e_Model_ripe, e]
      · refine ⟨_, C, ?_, miF_tq d⟩
        simp (disch := omega) only [if_true, if_false, not_true_eq_false, not_false_eq_true, zoI_s, zoR_s, zoH_s, zoL_s, zbI_s, zbV_s, zbR_s, zbL_s, zif_dec, i32_0, ne_eq, i32_lt, i32_le, i32_eq, i32_add, i32_mul, i32_sub, i32_neg, zrz_0, zrz_1, zif_t, zif_f, zsF_s, zsF_k, zsF_a, zsC_s, zsC_a, zsC_i, zsW_s, zsW_a, Int.add_zero, Int.zero_add, if_pos, if_neg, wv_72 S, wr_768 S, wr_769 S, wr_777 S, wr_785 S, wr_786 S, wr_787 S, wr_789 S, wr_790 S, wr_791 S, wr_802 S, wr_803 S, wr_804 S, wr_805 S, wr_806 S, wr_807 S, wr_809 S, wg_770 S, wp_770 S, wg_771 S, wp_771 S, wg_772 S, wp_772 S, wg_773 S, wp_773 S, wg_774 S, wp_774 S, wg_775 S, wp_775 S, wg_776 S, wp_776 S, wg_778 S, wp_778 S, wg_779 S, wp_779 S, wg_780 S, wp_780 S, wg_781 S, wp_781 S, wg_782 S, wp_782 S, wg_783 S, wp_783 S, wg_784 S, wp_784 S, wg_788 S, wp_788 S, wg_792 S, wp_792 S, wg_793 S, wp_793 S, wg_794 S, wp_794 S, wg_795 S, wp_795 S, wg_796 S, wp_796 S, wg_797 S, wp_797 S, wg_798 S, wp_798 S, wg_799 S, wp_799 S, wg_800 S, wp_800 S, wg_801 S, wp_801 S, wg_808 S, wp_808 S, wg_810 S, wp_810 S, m_isD Q, m_isReed S M O, m_isPlayer S M O, m_isQuestion S M O, m_isIn, m_are3 Q, ib_0, e_Model_ripe]
    · refine ⟨_, C, ?_, miF_tq d⟩
      simp (disch := omega) only [if_true, if_false, not_true_eq_false, not_false_eq_true, zoI_s, zoR_s, zoH_s, zoL_s, zbI_s, zbV_s, zbR_s, zbL_s, zif_dec, i32_0, ne_eq, i32_lt, i32_le, i32_eq, i32_add, i32_mul, i32_sub, i32_neg, zrz_0, zrz_1, zif_t, zif_f, zsF_s, zsF_k, zsF_a, zsC_s, zsC_a, zsC_i, zsW_s, zsW_a, Int.add_zero, Int.zero_add, if_pos, if_neg, wv_72 S, wr_768 S, wr_769 S, wr_777 S, wr_785 S, wr_786 S, wr_787 S, wr_789 S, wr_790 S, wr_791 S, wr_802 S, wr_803 S, wr_804 S, wr_805 S, wr_806 S, wr_807 S, wr_809 S, wg_770 S, wp_770 S, wg_771 S, wp_771 S, wg_772 S, wp_772 S, wg_773 S, wp_773 S, wg_774 S, wp_774 S, wg_775 S, wp_775 S, wg_776 S, wp_776 S, wg_778 S, wp_778 S, wg_779 S, wp_779 S, wg_780 S, wp_780 S, wg_781 S, wp_781 S, wg_782 S, wp_782 S, wg_783 S, wp_783 S, wg_784 S, wp_784 S, wg_788 S, wp_788 S, wg_792 S, wp_792 S, wg_793 S, wp_793 S, wg_794 S, wp_794 S, wg_795 S, wp_795 S, wg_796 S, wp_796 S, wg_797 S, wp_797 S, wg_798 S, wp_798 S, wg_799 S, wp_799 S, wg_800 S, wp_800 S, wg_801 S, wp_801 S, wg_808 S, wp_808 S, wg_810 S, wp_810 S, m_isD Q, m_isReed S M O, m_isPlayer S M O, m_isQuestion S M O, m_isIn, m_are3 Q, ib_0, e_Model_ripe]
  · refine ⟨_, C, ?_, tq.rfl⟩
    simp (disch := omega) only [if_true, if_false, not_true_eq_false, not_false_eq_true, zoI_s, zoR_s, zoH_s, zoL_s, zbI_s, zbV_s, zbR_s, zbL_s, zif_dec, i32_0, ne_eq, i32_lt, i32_le, i32_eq, i32_add, i32_mul, i32_sub, i32_neg, zrz_0, zrz_1, zif_t, zif_f, zsF_s, zsF_k, zsF_a, zsC_s, zsC_a, zsC_i, zsW_s, zsW_a, Int.add_zero, Int.zero_add, if_pos, if_neg, wv_72 S, wr_768 S, wr_769 S, wr_777 S, wr_785 S, wr_786 S, wr_787 S, wr_789 S, wr_790 S, wr_791 S, wr_802 S, wr_803 S, wr_804 S, wr_805 S, wr_806 S, wr_807 S, wr_809 S, wg_770 S, wp_770 S, wg_771 S, wp_771 S, wg_772 S, wp_772 S, wg_773 S, wp_773 S, wg_774 S, wp_774 S, wg_775 S, wp_775 S, wg_776 S, wp_776 S, wg_778 S, wp_778 S, wg_779 S, wp_779 S, wg_780 S, wp_780 S, wg_781 S, wp_781 S, wg_782 S, wp_782 S, wg_783 S, wp_783 S, wg_784 S, wp_784 S, wg_788 S, wp_788 S, wg_792 S, wp_792 S, wg_793 S, wp_793 S, wg_794 S, wp_794 S, wg_795 S, wp_795 S, wg_796 S, wp_796 S, wg_797 S, wp_797 S, wg_798 S, wp_798 S, wg_799 S, wp_799 S, wg_800 S, wp_800 S, wg_801 S, wp_801 S, wg_808 S, wp_808 S, wg_810 S, wp_810 S, m_isD0 Q, m_are30 Q, e_Model_ripe]
theorem c_chant {d r p q x : Int} (hd : inI d) (hr : inI r) (hp : inI p) (hq : inI q) (hx : inI x) : ans1 170 0 [zI (i32 d), zI (i32 r), zI (i32 p), zI (i32 q), zI (i32 x)] (fun A => zI (i32 (chantQ A d r p q x))) := by
  intro h F C Q
  have S := Q.1
  unfold inI at hd hr hp hq hx
  refine ⟨F, C, ?_, tq.rfl⟩
  unfold chantQ
  by_cases c1 : 0 ≤ d ∧ d < C 73 0
  · have H := Q.dS c1.1 c1.2
    have V := Q.dV c1.1 c1.2
    have O := Q.dO c1.1 c1.2
    by_cases c2 : (0 ≤ r ∧ r < dOf (C 73) d 0) ∧ (0 ≤ p ∧ p < dOf (C 73) d 1) ∧ (0 ≤ q ∧ q < dOf (C 73) d 2)
    · by_cases c3 : 0 ≤ x ∧ x ≤ 20
      · simp (disch := omega) only [if_true, if_false, not_true_eq_false, not_false_eq_true, zoI_s, zoR_s, zoH_s, zoL_s, zbI_s, zbV_s, zbR_s, zbL_s, zif_dec, i32_0, ne_eq, i32_lt, i32_le, i32_eq, i32_add, i32_mul, i32_sub, i32_neg, zrz_0, zrz_1, zif_t, zif_f, zsF_s, zsF_k, zsF_a, zsC_s, zsC_a, zsC_i, zsW_s, zsW_a, Int.add_zero, Int.zero_add, if_pos, if_neg, wv_0 S, wr_704 S, wr_705 S, wr_706 S, wr_707 S, wr_708 S, wr_709 S, wr_710 S, wr_711 S, wv_68 S, wr_384 S, wr_385 S, wr_386 S, tv_1 S, dv H, dg_128 H, dp_128 H, dg_129 H, dp_129 H, dg_130 H, dp_130 H, dg_131 H, dp_131 H, dr_132 H, da_132 H, dr_133 H, da_133 H, dr_134 H, da_134 H, dr_135 H, da_135 H, dr_136 H, da_136 H, dr_137 H, da_137 H, c_dAt Q, Option.isNone_some, Option.isSome_some, c_hasReed H V O, c_hasPlayer H V O, c_hasQuestion H V O, c_hasAll H V O, c_isAnswer, c_within, ib_0, e_Main_chant, c_noteDried H V O]
      · simp (disch := omega) only [if_true, if_false, not_true_eq_false, not_false_eq_true, zoI_s, zoR_s, zoH_s, zoL_s, zbI_s, zbV_s, zbR_s, zbL_s, zif_dec, i32_0, ne_eq, i32_lt, i32_le, i32_eq, i32_add, i32_mul, i32_sub, i32_neg, zrz_0, zrz_1, zif_t, zif_f, zsF_s, zsF_k, zsF_a, zsC_s, zsC_a, zsC_i, zsW_s, zsW_a, Int.add_zero, Int.zero_add, if_pos, if_neg, wv_0 S, wr_704 S, wr_705 S, wr_706 S, wr_707 S, wr_708 S, wr_709 S, wr_710 S, wr_711 S, wv_68 S, wr_384 S, wr_385 S, wr_386 S, tv_1 S, dv H, dg_128 H, dp_128 H, dg_129 H, dp_129 H, dg_130 H, dp_130 H, dg_131 H, dp_131 H, dr_132 H, da_132 H, dr_133 H, da_133 H, dr_134 H, da_134 H, dr_135 H, da_135 H, dr_136 H, da_136 H, dr_137 H, da_137 H, c_dAt Q, Option.isNone_some, Option.isSome_some, c_hasReed H V O, c_hasPlayer H V O, c_hasQuestion H V O, c_hasAll H V O, c_isAnswer, c_within, ib_0, e_Main_chant]
    · simp (disch := omega) only [if_true, if_false, not_true_eq_false, not_false_eq_true, zoI_s, zoR_s, zoH_s, zoL_s, zbI_s, zbV_s, zbR_s, zbL_s, zif_dec, i32_0, ne_eq, i32_lt, i32_le, i32_eq, i32_add, i32_mul, i32_sub, i32_neg, zrz_0, zrz_1, zif_t, zif_f, zsF_s, zsF_k, zsF_a, zsC_s, zsC_a, zsC_i, zsW_s, zsW_a, Int.add_zero, Int.zero_add, if_pos, if_neg, wv_0 S, wr_704 S, wr_705 S, wr_706 S, wr_707 S, wr_708 S, wr_709 S, wr_710 S, wr_711 S, wv_68 S, wr_384 S, wr_385 S, wr_386 S, tv_1 S, dv H, dg_128 H, dp_128 H, dg_129 H, dp_129 H, dg_130 H, dp_130 H, dg_131 H, dp_131 H, dr_132 H, da_132 H, dr_133 H, da_133 H, dr_134 H, da_134 H, dr_135 H, da_135 H, dr_136 H, da_136 H, dr_137 H, da_137 H, c_dAt Q, Option.isNone_some, Option.isSome_some, c_hasReed H V O, c_hasPlayer H V O, c_hasQuestion H V O, c_hasAll H V O, c_isAnswer, c_within, ib_0, e_Main_chant]
  · simp (disch := omega) only [if_true, if_false, not_true_eq_false, not_false_eq_true, zoI_s, zoR_s, zoH_s, zoL_s, zbI_s, zbV_s, zbR_s, zbL_s, zif_dec, i32_0, ne_eq, i32_lt, i32_le, i32_eq, i32_add, i32_mul, i32_sub, i32_neg, zrz_0, zrz_1, zif_t, zif_f, zsF_s, zsF_k, zsF_a, zsC_s, zsC_a, zsC_i, zsW_s, zsW_a, Int.add_zero, Int.zero_add, if_pos, if_neg, wv_0 S, wr_704 S, wr_705 S, wr_706 S, wr_707 S, wr_708 S, wr_709 S, wr_710 S, wr_711 S, tv_1 S, c_dAt0 Q, Option.isNone_none, Option.isSome_none, e_Main_chant]
theorem m_chant {d r p q x : Int} (hd : inI d) (hr : inI r) (hp : inI p) (hq : inI q) (hx : inI x) : ans1 257 72 [zI (i32 d), zI (i32 r), zI (i32 p), zI (i32 q), zI (i32 x)] (fun A => zI (i32 (chantQ A d r p q x))) := by
  intro h F C Q
  have S := Q.1
  unfold inI at hd hr hp hq hx
  unfold chantQ
  by_cases c1 : 0 ≤ d ∧ d < C 73 0
  · have M := miF_V Q c1.1 c1.2
    have O := Q.dO c1.1 c1.2
    by_cases c2 : (0 ≤ r ∧ r < dOf (C 73) d 0) ∧ (0 ≤ p ∧ p < dOf (C 73) d 1) ∧ (0 ≤ q ∧ q < dOf (C 73) d 2)
    · by_cases c3 : 0 ≤ x ∧ x ≤ 20
      · have b1 := O.2.2.2.2.1 r c2.1.1 c2.1.2
        have b2 := O.2.2.2.2.2.1 r c2.1.1 c2.1.2
        have b3 := O.2.2.2.1
        have g3 := driS_rng b1.1 b1.2 c3.1
        refine ⟨_, C, ?_, (miF_tq d).ml (driS (dOf (C 73) d (4 + 2 * r)) x) (dOf (C 73) d (5 + 2 * r)) (dOf (C 73) d 3)⟩
        simp (disch := omega) only [if_true, if_false, not_true_eq_false, not_false_eq_true, zoI_s, zoR_s, zoH_s, zoL_s, zbI_s, zbV_s, zbR_s, zbL_s, zif_dec, i32_0, ne_eq, i32_lt, i32_le, i32_eq, i32_add, i32_mul, i32_sub, i32_neg, zrz_0, zrz_1, zif_t, zif_f, zsF_s, zsF_k, zsF_a, zsC_s, zsC_a, zsC_i, zsW_s, zsW_a, Int.add_zero, Int.zero_add, if_pos, if_neg, wv_72 S, wr_768 S, wr_769 S, wr_777 S, wr_785 S, wr_786 S, wr_787 S, wr_789 S, wr_790 S, wr_791 S, wr_802 S, wr_803 S, wr_804 S, wr_805 S, wr_806 S, wr_807 S, wr_809 S, wg_770 S, wp_770 S, wg_771 S, wp_771 S, wg_772 S, wp_772 S, wg_773 S, wp_773 S, wg_774 S, wp_774 S, wg_775 S, wp_775 S, wg_776 S, wp_776 S, wg_778 S, wp_778 S, wg_779 S, wp_779 S, wg_780 S, wp_780 S, wg_781 S, wp_781 S, wg_782 S, wp_782 S, wg_783 S, wp_783 S, wg_784 S, wp_784 S, wg_788 S, wp_788 S, wg_792 S, wp_792 S, wg_793 S, wp_793 S, wg_794 S, wp_794 S, wg_795 S, wp_795 S, wg_796 S, wp_796 S, wg_797 S, wp_797 S, wg_798 S, wp_798 S, wg_799 S, wp_799 S, wg_800 S, wp_800 S, wg_801 S, wp_801 S, wg_808 S, wp_808 S, wg_810 S, wp_810 S, m_isD Q, m_isReed S M O, m_isPlayer S M O, m_isQuestion S M O, m_isIn, m_are3 Q, ib_0, m_dries S M O, e_Model_chant, m_notw S M O]
      · refine ⟨_, C, ?_, miF_tq d⟩
        simp (disch := omega) only [if_true, if_false, not_true_eq_false, not_false_eq_true, zoI_s, zoR_s, zoH_s, zoL_s, zbI_s, zbV_s, zbR_s, zbL_s, zif_dec, i32_0, ne_eq, i32_lt, i32_le, i32_eq, i32_add, i32_mul, i32_sub, i32_neg, zrz_0, zrz_1, zif_t, zif_f, zsF_s, zsF_k, zsF_a, zsC_s, zsC_a, zsC_i, zsW_s, zsW_a, Int.add_zero, Int.zero_add, if_pos, if_neg, wv_72 S, wr_768 S, wr_769 S, wr_777 S, wr_785 S, wr_786 S, wr_787 S, wr_789 S, wr_790 S, wr_791 S, wr_802 S, wr_803 S, wr_804 S, wr_805 S, wr_806 S, wr_807 S, wr_809 S, wg_770 S, wp_770 S, wg_771 S, wp_771 S, wg_772 S, wp_772 S, wg_773 S, wp_773 S, wg_774 S, wp_774 S, wg_775 S, wp_775 S, wg_776 S, wp_776 S, wg_778 S, wp_778 S, wg_779 S, wp_779 S, wg_780 S, wp_780 S, wg_781 S, wp_781 S, wg_782 S, wp_782 S, wg_783 S, wp_783 S, wg_784 S, wp_784 S, wg_788 S, wp_788 S, wg_792 S, wp_792 S, wg_793 S, wp_793 S, wg_794 S, wp_794 S, wg_795 S, wp_795 S, wg_796 S, wp_796 S, wg_797 S, wp_797 S, wg_798 S, wp_798 S, wg_799 S, wp_799 S, wg_800 S, wp_800 S, wg_801 S, wp_801 S, wg_808 S, wp_808 S, wg_810 S, wp_810 S, m_isD Q, m_isReed S M O, m_isPlayer S M O, m_isQuestion S M O, m_isIn, m_are3 Q, ib_0, e_Model_chant]
    · refine ⟨_, C, ?_, miF_tq d⟩
      simp (disch := omega) only [if_true, if_false, not_true_eq_false, not_false_eq_true, zoI_s, zoR_s, zoH_s, zoL_s, zbI_s, zbV_s, zbR_s, zbL_s, zif_dec, i32_0, ne_eq, i32_lt, i32_le, i32_eq, i32_add, i32_mul, i32_sub, i32_neg, zrz_0, zrz_1, zif_t, zif_f, zsF_s, zsF_k, zsF_a, zsC_s, zsC_a, zsC_i, zsW_s, zsW_a, Int.add_zero, Int.zero_add, if_pos, if_neg, wv_72 S, wr_768 S, wr_769 S, wr_777 S, wr_785 S, wr_786 S, wr_787 S, wr_789 S, wr_790 S, wr_791 S, wr_802 S, wr_803 S, wr_804 S, wr_805 S, wr_806 S, wr_807 S, wr_809 S, wg_770 S, wp_770 S, wg_771 S, wp_771 S, wg_772 S, wp_772 S, wg_773 S, wp_773 S, wg_774 S, wp_774 S, wg_775 S, wp_775 S, wg_776 S, wp_776 S, wg_778 S, wp_778 S, wg_779 S, wp_779 S, wg_780 S, wp_780 S, wg_781 S, wp_781 S, wg_782 S, wp_782 S, wg_783 S, wp_783 S, wg_784 S, wp_784 S, wg_788 S, wp_788 S, wg_792 S, wp_792 S, wg_793 S, wp_793 S, wg_794 S, wp_794 S, wg_795 S, wp_795 S, wg_796 S, wp_796 S, wg_797 S, wp_797 S, wg_798 S, wp_798 S, wg_799 S, wp_799 S, wg_800 S, wp_800 S, wg_801 S, wp_801 S, wg_808 S, wp_808 S, wg_810 S, wp_810 S, m_isD Q, m_isReed S M O, m_isPlayer S M O, m_isQuestion S M O, m_isIn, m_are3 Q, ib_0, e_Model_chant]
  · refine ⟨_, C, ?_, tq.rfl⟩
    simp (disch := omega) only [if_true, if_false, not_true_eq_false, not_false_eq_true, zoI_s, zoR_s, zoH_s, zoL_s, zbI_s, zbV_s, zbR_s, zbL_s, zif_dec, i32_0, ne_eq, i32_lt, i32_le, i32_eq, i32_add, i32_mul, i32_sub, i32_neg, zrz_0, zrz_1, zif_t, zif_f, zsF_s, zsF_k, zsF_a, zsC_s, zsC_a, zsC_i, zsW_s, zsW_a, Int.add_zero, Int.zero_add, if_pos, if_neg, wv_72 S, wr_768 S, wr_769 S, wr_777 S, wr_785 S, wr_786 S, wr_787 S, wr_789 S, wr_790 S, wr_791 S, wr_802 S, wr_803 S, wr_804 S, wr_805 S, wr_806 S, wr_807 S, wr_809 S, wg_770 S, wp_770 S, wg_771 S, wp_771 S, wg_772 S, wp_772 S, wg_773 S, wp_773 S, wg_774 S, wp_774 S, wg_775 S, wp_775 S, wg_776 S, wp_776 S, wg_778 S, wp_778 S, wg_779 S, wp_779 S, wg_780 S, wp_780 S, wg_781 S, wp_781 S, wg_782 S, wp_782 S, wg_783 S, wp_783 S, wg_784 S, wp_784 S, wg_788 S, wp_788 S, wg_792 S, wp_792 S, wg_793 S, wp_793 S, wg_794 S, wp_794 S, wg_795 S, wp_795 S, wg_796 S, wp_796 S, wg_797 S, wp_797 S, wg_798 S, wp_798 S, wg_799 S, wp_799 S, wg_800 S, wp_800 S, wg_801 S, wp_801 S, wg_808 S, wp_808 S, wg_810 S, wp_810 S, m_isD0 Q, m_are30 Q, e_Model_chant]
