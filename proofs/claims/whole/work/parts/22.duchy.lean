/-! loops: from k on, j turns -/
def foldF {α : Type} (f : Int → α → α) : Int → Nat → α → α
  | _, 0, a => a
  | k, j + 1, a => foldF f (k + 1) j (f k a)
def sumF (f : Int → Int) : Int → Nat → Int
  | _, 0 => 0
  | k, j + 1 => f k + sumF f (k + 1) j
theorem zfoldJ {α J : Type} (X : Int → α → J → Option zRes) (f : Int → α → α) (I : Int → α → J → Prop) (n : Int) (hs : ∀ k a s, k < n → I k a s → ∃ s', X k a s = X (k + 1) (f k a) s' ∧ I (k + 1) (f k a) s') : ∀ (j : Nat) (k : Int) (a : α) (s : J), k + j = n → I k a s → ∃ s', X k a s = X n (foldF f k j a) s' ∧ I n (foldF f k j a) s' := by
  intro j
  induction j with
  | zero => intro k a s hk hi; obtain rfl : k = n := by omega
            exact ⟨s, rfl, hi⟩
  | succ j ih =>
    intro k a s hk hi
    obtain ⟨s1, e1, i1⟩ := hs k a s (by omega) hi
    obtain ⟨s2, e2, i2⟩ := ih (k + 1) (f k a) s1 (by omega) i1
    exact ⟨s2, e1.trans e2, i2⟩
/-- sums -/
theorem zsumJ {J : Type} (X : Int → Int → J → Option zRes) (f : Int → Int) (I : Int → J → Prop) (n : Int) (hs : ∀ k a s, k < n → I k s → ∃ s', X k a s = X (k + 1) (a + f k) s' ∧ I (k + 1) s') : ∀ (j : Nat) (k a : Int) (s : J), k + j = n → I k s → ∃ s', X k a s = X n (a + sumF f k j) s' ∧ I n s' := by
  intro j
  induction j with
  | zero => intro k a s hk hi; obtain rfl : k = n := by omega
            exact ⟨s, by rw [sumF, Int.add_zero], hi⟩
  | succ j ih =>
    intro k a s hk hi
    obtain ⟨s1, e1, i1⟩ := hs k a s (by omega) hi
    obtain ⟨s2, e2, i2⟩ := ih (k + 1) (a + f k) s1 (by omega) i1
    exact ⟨s2, e1.trans (e2.trans (by rw [sumF, Int.add_assoc])), i2⟩
theorem sumF_rng (f : Int → Int) (lo hi : Int) (h : ∀ k, lo ≤ f k ∧ f k ≤ hi) : ∀ (j : Nat) (k : Int), lo * j ≤ sumF f k j ∧ sumF f k j ≤ hi * j := by
  intro j
  induction j with
  | zero => intro k; simp [sumF]
  | succ j ih =>
    intro k
    have h1 := ih (k + 1)
    have h2 := h k
    rw [sumF]
    have e1 : lo * ((j + 1 : Nat) : Int) = lo * j + lo := by rw [Int.natCast_add, Int.mul_add]; simp
    have e2 : hi * ((j + 1 : Nat) : Int) = hi * j + hi := by rw [Int.natCast_add, Int.mul_add]; simp
    omega
/-! a duchy: 44 numbers (how many reeds, players, questions; the cold; wets and keys from 4 on; breaths from 16 on; depths and kinds from 20 on; the book from 36 on) -/
def dOK (D : Int → Int) : Prop := (0 ≤ D 0 ∧ D 0 ≤ 6) ∧ (0 ≤ D 1 ∧ D 1 ≤ 4) ∧ (0 ≤ D 2 ∧ D 2 ≤ 8) ∧ (0 ≤ D 3 ∧ D 3 ≤ 9) ∧ (∀ r, 0 ≤ r → r < D 0 → 0 ≤ D (4 + 2 * r) ∧ D (4 + 2 * r) ≤ 9) ∧ (∀ r, 0 ≤ r → r < D 0 → 0 ≤ D (5 + 2 * r) ∧ D (5 + 2 * r) ≤ 7) ∧ (∀ p, 0 ≤ p → p < D 1 → 1 ≤ D (16 + p) ∧ D (16 + p) ≤ 9) ∧ (∀ q, 0 ≤ q → q < D 2 → 1 ≤ D (20 + 2 * q) ∧ D (20 + 2 * q) ≤ 15) ∧ (∀ q, 0 ≤ q → q < D 2 → 0 ≤ D (21 + 2 * q) ∧ D (21 + 2 * q) ≤ 3) ∧ (∀ n, 0 ≤ n → n < 8 → 0 ≤ D (36 + n) ∧ D (36 + n) ≤ 2)
/-- a note; -1: a cough -/
def noteS (D : Int → Int) (w k c p q : Int) : Int := if w + D (16 + p) < D (20 + 2 * q) then -1 else (3 * w + D (16 + p) + k + 5 * D (21 + 2 * q) + D (20 + 2 * q) + 16 - c) % 8
def meanS (D : Int → Int) (n : Int) : Int := if n < 0 then -1 else D (36 + n)
/-- the note and the answer of a reed as it is told -/
def nteS (D : Int → Int) (r p q : Int) : Int := noteS D (D (4 + 2 * r)) (D (5 + 2 * r)) (D 3) p q
def ansS (D : Int → Int) (r p q : Int) : Int := meanS D (nteS D r p q)
theorem noteS_rng {D : Int → Int} {w k c p q : Int} : -1 ≤ noteS D w k c p q ∧ noteS D w k c p q ≤ 7 := by
  unfold noteS
  split <;> omega
theorem meanS_rng {D : Int → Int} (O : dOK D) {n : Int} (h : n ≤ 7) : -1 ≤ meanS D n ∧ meanS D n ≤ 2 := by
  unfold meanS
  split
  · omega
  · have := O.2.2.2.2.2.2.2.2.2 n (by omega) (by omega)
    omega
theorem nteS_rng {D : Int → Int} (r p q : Int) : -1 ≤ nteS D r p q ∧ nteS D r p q ≤ 7 := noteS_rng
theorem ansS_rng {D : Int → Int} (O : dOK D) (r p q : Int) : -1 ≤ ansS D r p q ∧ ansS D r p q ≤ 2 := meanS_rng O noteS_rng.2
/-- the class's Duchy at a -/
def duV (F : Nat → Nat → Int) (C : Nat → Int → Int) (a : Nat) (D : Int → Int) : Prop := (F 128 a = D 0 ∧ F 129 a = D 1 ∧ F 130 a = D 2 ∧ F 131 a = D 3) ∧ (∀ r, 0 ≤ r → r < D 0 → C (a + 1) r = D (4 + 2 * r)) ∧ (∀ r, 0 ≤ r → r < D 0 → C (a + 2) r = D (5 + 2 * r)) ∧ (∀ p, 0 ≤ p → p < D 1 → C (a + 3) p = D (16 + p)) ∧ (∀ q, 0 ≤ q → q < D 2 → C (a + 4) q = D (20 + 2 * q)) ∧ (∀ q, 0 ≤ q → q < D 2 → C (a + 5) q = D (21 + 2 * q)) ∧ (∀ n, 0 ≤ n → n < 8 → C (a + 6) n = D (36 + n))
/-- what is told stays -/
def tq (F : Nat → Nat → Int) (C : Nat → Int → Int) (F' : Nat → Nat → Int) (C' : Nat → Int → Int) : Prop := ∀ a, (a < 35 ∨ a = 73 ∨ a = 74 ∨ 89 ≤ a) → (∀ k, F' k a = F k a) ∧ C' a = C a
theorem tq.rfl {F : Nat → Nat → Int} {C : Nat → Int → Int} : tq F C F C := fun _ _ => ⟨fun _ => Eq.refl _, Eq.refl _⟩
theorem tq.trans {F F1 F2 : Nat → Nat → Int} {C C1 C2 : Nat → Int → Int} (h1 : tq F C F1 C1) (h2 : tq F1 C1 F2 C2) : tq F C F2 C2 := fun a ha => ⟨fun k => ((h2 a ha).1 k).trans ((h1 a ha).1 k), (h2 a ha).2.trans (h1 a ha).2⟩
theorem tq.sF {F F1 : Nat → Nat → Int} {C C1 : Nat → Int → Int} (h1 : tq F C F1 C1) {k a : Nat} {x : Int} (ha : 35 ≤ a) (hb : a < 73 ∨ (75 ≤ a ∧ a < 89)) : tq F C (zsF F1 k a x) C1 := fun a' h' => ⟨fun k' => (zsF_a (by omega)).trans ((h1 a' h').1 k'), (h1 a' h').2⟩
theorem tq.sC {F F1 : Nat → Nat → Int} {C C1 : Nat → Int → Int} (h1 : tq F C F1 C1) {a : Nat} {i x : Int} (ha : 35 ≤ a) (hb : a < 73 ∨ (75 ≤ a ∧ a < 89)) : tq F C F1 (zsC C1 a i x) := fun a' h' => ⟨(h1 a' h').1, (zsC_a (by omega)).trans (h1 a' h').2⟩
theorem duV.tq {F F' : Nat → Nat → Int} {C C' : Nat → Int → Int} {a : Nat} {D : Int → Int} (V : duV F C a D) (ht : tq F C F' C') (ha : a ≤ 28) : duV F' C' a D := by
  have e := fun j (hj : j ≤ 6) => (ht (a + j) (by omega)).2
  have f := (ht a (by omega)).1
  obtain ⟨⟨v1, v2, v3, v4⟩, v5, v6, v7, v8, v9, v10⟩ := V
  refine ⟨⟨?_, ?_, ?_, ?_⟩, ?_, ?_, ?_, ?_, ?_, ?_⟩
  · rw [f, v1]
  · rw [f, v2]
  · rw [f, v3]
  · rw [f, v4]
  · rw [e 1 (by omega)]; exact v5
  · rw [e 2 (by omega)]; exact v6
  · rw [e 3 (by omega)]; exact v7
  · rw [e 4 (by omega)]; exact v8
  · rw [e 5 (by omega)]; exact v9
  · rw [e 6 (by omega)]; exact v10
section DU
variable {h : zHeap} {F : Nat → Nat → Int} {C : Nat → Int → Int} {a : Nat} {D : Int → Int}
theorem c_hasReed (H : duS h a) (V : duV F C a D) (O : dOK D) {x : Int} (h1 : -2147483648 ≤ x) (h2 : x < 2147483648) : zc 39 [zR (some a), zI (i32 x)] (zw h F C) = some (zI (i32 (if 0 ≤ x ∧ x < D 0 then 1 else 0)), zw h F C) := by
  have b0 := O.1
  simp (disch := omega) only [if_true, if_false, not_true_eq_false, not_false_eq_true, zoI_s, zoR_s, zoH_s, zoL_s, zbI_s, zbV_s, zbR_s, zbL_s, zif_dec, i32_0, ne_eq, i32_lt, i32_le, i32_eq, i32_add, i32_mul, i32_sub, i32_neg, zrz_0, zrz_1, zif_t, zif_f, zsF_s, zsF_k, zsF_a, zsC_s, zsC_a, zsC_i, Int.add_zero, Int.zero_add, dv H, dg_128 H, dp_128 H, dg_129 H, dp_129 H, dg_130 H, dp_130 H, dg_131 H, dp_131 H, dr_132 H, da_132 H, dr_133 H, da_133 H, dr_134 H, da_134 H, dr_135 H, da_135 H, dr_136 H, da_136 H, dr_137 H, da_137 H, e_Duchy_hasReed, V.1.1]
  by_cases c1 : x < 0
  · simp (disch := omega) only [if_true, if_false, not_true_eq_false, not_false_eq_true, zoI_s, zoR_s, zoH_s, zoL_s, zbI_s, zbV_s, zbR_s, zbL_s, zif_dec, i32_0, ne_eq, i32_lt, i32_le, i32_eq, i32_add, i32_mul, i32_sub, i32_neg, zrz_0, zrz_1, zif_t, zif_f, zsF_s, zsF_k, zsF_a, zsC_s, zsC_a, zsC_i, Int.add_zero, Int.zero_add, if_pos, if_neg]
  · by_cases c2 : D 0 ≤ x
    · simp (disch := omega) only [if_true, if_false, not_true_eq_false, not_false_eq_true, zoI_s, zoR_s, zoH_s, zoL_s, zbI_s, zbV_s, zbR_s, zbL_s, zif_dec, i32_0, ne_eq, i32_lt, i32_le, i32_eq, i32_add, i32_mul, i32_sub, i32_neg, zrz_0, zrz_1, zif_t, zif_f, zsF_s, zsF_k, zsF_a, zsC_s, zsC_a, zsC_i, Int.add_zero, Int.zero_add, if_pos, if_neg]
    · simp (disch := omega) only [if_true, if_false, not_true_eq_false, not_false_eq_true, zoI_s, zoR_s, zoH_s, zoL_s, zbI_s, zbV_s, zbR_s, zbL_s, zif_dec, i32_0, ne_eq, i32_lt, i32_le, i32_eq, i32_add, i32_mul, i32_sub, i32_neg, zrz_0, zrz_1, zif_t, zif_f, zsF_s, zsF_k, zsF_a, zsC_s, zsC_a, zsC_i, Int.add_zero, Int.zero_add, if_pos, if_neg]
theorem c_hasPlayer (H : duS h a) (V : duV F C a D) (O : dOK D) {x : Int} (h1 : -2147483648 ≤ x) (h2 : x < 2147483648) : zc 40 [zR (some a), zI (i32 x)] (zw h F C) = some (zI (i32 (if 0 ≤ x ∧ x < D 1 then 1 else 0)), zw h F C) := by
  have b0 := O.2.1
  simp (disch := omega) only [if_true, if_false, not_true_eq_false, not_false_eq_true, zoI_s, zoR_s, zoH_s, zoL_s, zbI_s, zbV_s, zbR_s, zbL_s, zif_dec, i32_0, ne_eq, i32_lt, i32_le, i32_eq, i32_add, i32_mul, i32_sub, i32_neg, zrz_0, zrz_1, zif_t, zif_f, zsF_s, zsF_k, zsF_a, zsC_s, zsC_a, zsC_i, Int.add_zero, Int.zero_add, dv H, dg_128 H, dp_128 H, dg_129 H, dp_129 H, dg_130 H, dp_130 H, dg_131 H, dp_131 H, dr_132 H, da_132 H, dr_133 H, da_133 H, dr_134 H, da_134 H, dr_135 H, da_135 H, dr_136 H, da_136 H, dr_137 H, da_137 H, e_Duchy_hasPlayer, V.1.2.1]
  by_cases c1 : x < 0
  · simp (disch := omega) only [if_true, if_false, not_true_eq_false, not_false_eq_true, zoI_s, zoR_s, zoH_s, zoL_s, zbI_s, zbV_s, zbR_s, zbL_s, zif_dec, i32_0, ne_eq, i32_lt, i32_le, i32_eq, i32_add, i32_mul, i32_sub, i32_neg, zrz_0, zrz_1, zif_t, zif_f, zsF_s, zsF_k, zsF_a, zsC_s, zsC_a, zsC_i, Int.add_zero, Int.zero_add, if_pos, if_neg]
  · by_cases c2 : D 1 ≤ x
    · simp (disch := omega) only [if_true, if_false, not_true_eq_false, not_false_eq_true, zoI_s, zoR_s, zoH_s, zoL_s, zbI_s, zbV_s, zbR_s, zbL_s, zif_dec, i32_0, ne_eq, i32_lt, i32_le, i32_eq, i32_add, i32_mul, i32_sub, i32_neg, zrz_0, zrz_1, zif_t, zif_f, zsF_s, zsF_k, zsF_a, zsC_s, zsC_a, zsC_i, Int.add_zero, Int.zero_add, if_pos, if_neg]
    · simp (disch := omega) only [if_true, if_false, not_true_eq_false, not_false_eq_true, zoI_s, zoR_s, zoH_s, zoL_s, zbI_s, zbV_s, zbR_s, zbL_s, zif_dec, i32_0, ne_eq, i32_lt, i32_le, i32_eq, i32_add, i32_mul, i32_sub, i32_neg, zrz_0, zrz_1, zif_t, zif_f, zsF_s, zsF_k, zsF_a, zsC_s, zsC_a, zsC_i, Int.add_zero, Int.zero_add, if_pos, if_neg]
theorem c_hasQuestion (H : duS h a) (V : duV F C a D) (O : dOK D) {x : Int} (h1 : -2147483648 ≤ x) (h2 : x < 2147483648) : zc 41 [zR (some a), zI (i32 x)] (zw h F C) = some (zI (i32 (if 0 ≤ x ∧ x < D 2 then 1 else 0)), zw h F C) := by
  have b0 := O.2.2.1
  simp (disch := omega) only [if_true, if_false, not_true_eq_false, not_false_eq_true, zoI_s, zoR_s, zoH_s, zoL_s, zbI_s, zbV_s, zbR_s, zbL_s, zif_dec, i32_0, ne_eq, i32_lt, i32_le, i32_eq, i32_add, i32_mul, i32_sub, i32_neg, zrz_0, zrz_1, zif_t, zif_f, zsF_s, zsF_k, zsF_a, zsC_s, zsC_a, zsC_i, Int.add_zero, Int.zero_add, dv H, dg_128 H, dp_128 H, dg_129 H, dp_129 H, dg_130 H, dp_130 H, dg_131 H, dp_131 H, dr_132 H, da_132 H, dr_133 H, da_133 H, dr_134 H, da_134 H, dr_135 H, da_135 H, dr_136 H, da_136 H, dr_137 H, da_137 H, e_Duchy_hasQuestion, V.1.2.2.1]
  by_cases c1 : x < 0
  · simp (disch := omega) only [if_true, if_false, not_true_eq_false, not_false_eq_true, zoI_s, zoR_s, zoH_s, zoL_s, zbI_s, zbV_s, zbR_s, zbL_s, zif_dec, i32_0, ne_eq, i32_lt, i32_le, i32_eq, i32_add, i32_mul, i32_sub, i32_neg, zrz_0, zrz_1, zif_t, zif_f, zsF_s, zsF_k, zsF_a, zsC_s, zsC_a, zsC_i, Int.add_zero, Int.zero_add, if_pos, if_neg]
  · by_cases c2 : D 2 ≤ x
    · simp (disch := omega) only [if_true, if_false, not_true_eq_false, not_false_eq_true, zoI_s, zoR_s, zoH_s, zoL_s, zbI_s, zbV_s, zbR_s, zbL_s, zif_dec, i32_0, ne_eq, i32_lt, i32_le, i32_eq, i32_add, i32_mul, i32_sub, i32_neg, zrz_0, zrz_1, zif_t, zif_f, zsF_s, zsF_k, zsF_a, zsC_s, zsC_a, zsC_i, Int.add_zero, Int.zero_add, if_pos, if_neg]
    · simp (disch := omega) only [if_true, if_false, not_true_eq_false, not_false_eq_true, zoI_s, zoR_s, zoH_s, zoL_s, zbI_s, zbV_s, zbR_s, zbL_s, zif_dec, i32_0, ne_eq, i32_lt, i32_le, i32_eq, i32_add, i32_mul, i32_sub, i32_neg, zrz_0, zrz_1, zif_t, zif_f, zsF_s, zsF_k, zsF_a, zsC_s, zsC_a, zsC_i, Int.add_zero, Int.zero_add, if_pos, if_neg]
theorem c_coughs (H : duS h a) (V : duV F C a D) (O : dOK D) {w p q : Int} (h1 : 0 ≤ w) (h2 : w ≤ 9) (p0 : 0 ≤ p) (p1 : p < D 1) (q0 : 0 ≤ q) (q1 : q < D 2) : zc 46 [zR (some a), zI (i32 w), zI (i32 p), zI (i32 q)] (zw h F C) = some (zI (i32 (if w + D (16 + p) < D (20 + 2 * q) then 1 else 0)), zw h F C) := by
  have b1 := O.2.1
  have b2 := O.2.2.1
  have b3 := O.2.2.2.2.2.2.1 p p0 p1
  have b4 := O.2.2.2.2.2.2.2.1 q q0 q1
  simp (disch := omega) only [if_true, if_false, not_true_eq_false, not_false_eq_true, zoI_s, zoR_s, zoH_s, zoL_s, zbI_s, zbV_s, zbR_s, zbL_s, zif_dec, i32_0, ne_eq, i32_lt, i32_le, i32_eq, i32_add, i32_mul, i32_sub, i32_neg, zrz_0, zrz_1, zif_t, zif_f, zsF_s, zsF_k, zsF_a, zsC_s, zsC_a, zsC_i, Int.add_zero, Int.zero_add, dv H, dg_128 H, dp_128 H, dg_129 H, dp_129 H, dg_130 H, dp_130 H, dg_131 H, dp_131 H, dr_132 H, da_132 H, dr_133 H, da_133 H, dr_134 H, da_134 H, dr_135 H, da_135 H, dr_136 H, da_136 H, dr_137 H, da_137 H, e_Duchy_coughs, V.2.2.2.1 p p0 p1, V.2.2.2.2.1 q q0 q1]
  by_cases c1 : D (20 + 2 * q) ≤ w + D (16 + p)
  · simp (disch := omega) only [if_true, if_false, not_true_eq_false, not_false_eq_true, zoI_s, zoR_s, zoH_s, zoL_s, zbI_s, zbV_s, zbR_s, zbL_s, zif_dec, i32_0, ne_eq, i32_lt, i32_le, i32_eq, i32_add, i32_mul, i32_sub, i32_neg, zrz_0, zrz_1, zif_t, zif_f, zsF_s, zsF_k, zsF_a, zsC_s, zsC_a, zsC_i, Int.add_zero, Int.zero_add, if_pos, if_neg]
  · simp (disch := omega) only [if_true, if_false, not_true_eq_false, not_false_eq_true, zoI_s, zoR_s, zoH_s, zoL_s, zbI_s, zbV_s, zbR_s, zbL_s, zif_dec, i32_0, ne_eq, i32_lt, i32_le, i32_eq, i32_add, i32_mul, i32_sub, i32_neg, zrz_0, zrz_1, zif_t, zif_f, zsF_s, zsF_k, zsF_a, zsC_s, zsC_a, zsC_i, Int.add_zero, Int.zero_add, if_pos, if_neg]
end DU
