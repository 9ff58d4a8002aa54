/-! loops of a counter from lo up to n -/
theorem zinv {A : Type} (X : Int → A → Option zRes) (I : Int → A → Prop) (lo n : Int) (hn : lo ≤ n) (hs : ∀ k s, lo ≤ k → k < n → I k s → ∃ s', X k s = X (k + 1) s' ∧ I (k + 1) s') (s : A) (hi : I lo s) : ∃ s', X lo s = X n s' ∧ I n s' := by
  have key : ∀ (j : Nat) k s, lo ≤ k → k + j = n → I k s → ∃ s', X k s = X n s' ∧ I n s' := by
    intro j
    induction j with
    | zero => intro k s _ hk hi; obtain rfl : k = n := by omega
              exact ⟨s, rfl, hi⟩
    | succ j ih =>
      intro k s h0 hk hi
      obtain ⟨s1, e1, i1⟩ := hs k s h0 (by omega) hi
      obtain ⟨s2, e2, i2⟩ := ih (k + 1) s1 (by omega) (by omega) i1
      exact ⟨s2, e1.trans e2, i2⟩
  exact key (n - lo).toNat lo s (by omega) (by omega) hi
/-- downwards from hi to lo -/
theorem zdwn {A : Type} (X : Int → A → Option zRes) (I : Int → A → Prop) (lo n : Int) (hn : lo ≤ n) (hs : ∀ k s, lo < k → k ≤ n → I k s → ∃ s', X k s = X (k - 1) s' ∧ I (k - 1) s') (s : A) (hi : I n s) : ∃ s', X n s = X lo s' ∧ I lo s' := by
  have key : ∀ (j : Nat) k s, k ≤ n → k = lo + j → I k s → ∃ s', X k s = X lo s' ∧ I lo s' := by
    intro j
    induction j with
    | zero => intro k s _ hk hi; obtain rfl : k = lo := by omega
              exact ⟨s, rfl, hi⟩
    | succ j ih =>
      intro k s h0 hk hi
      obtain ⟨s1, e1, i1⟩ := hs k s (by omega) h0 hi
      obtain ⟨s2, e2, i2⟩ := ih (k - 1) s1 (by omega) (by omega) i1
      exact ⟨s2, e1.trans e2, i2⟩
  exact key (n - lo).toNat n s (by omega) (by omega) hi
theorem zfo {A : Type} (X : Int → A → Option zRes) (f : Int → A → A) (lo n : Int) (hn : lo ≤ n) (hs : ∀ k s, lo ≤ k → k < n → X k s = X (k + 1) (f k s)) (s : A) : X lo s = X n (foldF f lo (n - lo).toNat s) := by
  have key : ∀ (j : Nat) k s, lo ≤ k → k + j = n → X k s = X n (foldF f k j s) := by
    intro j
    induction j with
    | zero => intro k s _ hk; obtain rfl : k = n := by omega
              rfl
    | succ j ih =>
      intro k s h0 hk
      rw [hs k s h0 (by omega), ih (k + 1) _ (by omega) (by omega)]
      rfl
  exact key (n - lo).toNat lo s (by omega) (by omega)
def sm (f : Int → Int) (n : Int) : Int := sumF f 0 n.toNat
theorem sumF_succ (f : Int → Int) : ∀ (j : Nat) (k : Int), sumF f k (j + 1) = sumF f k j + f (k + j) := by
  intro j
  induction j with
  | zero => intro k; simp [sumF]
  | succ j ih =>
    intro k
    rw [sumF, ih (k + 1), sumF, show k + 1 + (j : Int) = k + ((j + 1 : Nat) : Int) by omega]
    omega
theorem sm_0 (f : Int → Int) : sm f 0 = 0 := rfl
theorem sm_succ (f : Int → Int) {n : Int} (h : 0 ≤ n) : sm f (n + 1) = sm f n + f n := by
  unfold sm
  rw [show (n + 1).toNat = n.toNat + 1 by omega, sumF_succ, show 0 + (n.toNat : Int) = n by omega]
theorem zsm (X : Int → Int → Option zRes) (f : Int → Int) (n : Int) (hn : 0 ≤ n) (hs : ∀ k a, 0 ≤ k → k < n → X k a = X (k + 1) (a + f k)) (a : Int) : X 0 a = X n (a + sm f n) := by
  obtain ⟨s, e, i⟩ := zinv X (fun k s => s = a + sm f k) 0 n hn (fun k s h0 h1 hi => ⟨_, hs k s h0 h1, by rw [hi, sm_succ f h0]; omega⟩) a (by rw [sm_0]; omega)
  rw [e, i]
theorem zsmJ {J : Type} (X : Int → Int → J → Option zRes) (f : Int → Int) (I : J → Prop) (n : Int) (hn : 0 ≤ n) (hs : ∀ k a s, 0 ≤ k → k < n → I s → ∃ s', X k a s = X (k + 1) (a + f k) s' ∧ I s') (a : Int) (s : J) (hi : I s) : ∃ s', X 0 a s = X n (a + sm f n) s' ∧ I s' := by
  obtain ⟨⟨s1, s2⟩, e, i, i2⟩ := zinv (fun k (s : Int × J) => X k s.1 s.2) (fun k s => s.1 = a + sm f k ∧ I s.2) 0 n hn (fun k s h0 h1 hi => by
    obtain ⟨s', e, i⟩ := hs k s.1 s.2 h0 h1 hi.2
    exact ⟨(s.1 + f k, s'), e, by dsimp only; rw [hi.1, sm_succ f h0]; omega, i⟩) (a, s) ⟨by dsimp only; rw [sm_0]; omega, hi⟩
  dsimp only at e i i2
  exact ⟨s2, by rw [e, i], i2⟩
theorem zsmM (X : Int → Int → Int → Int → Int → Option zRes) (f : Int → Int) (n : Int) (hn : 0 ≤ n) (hs : ∀ k a w u c, 0 ≤ k → k < n → ∃ w' u' c', X k a w u c = X (k + 1) (a + f k) w' u' c') (a w u c : Int) : ∃ w' u' c', X 0 a w u c = X n (a + sm f n) w' u' c' := by
  obtain ⟨⟨w', u', c'⟩, e, _⟩ := zsmJ (fun k a (s : Int × Int × Int) => X k a s.1 s.2.1 s.2.2) f (fun _ => True) n hn (fun k a s h0 h1 _ => by
    obtain ⟨w', u', c', e⟩ := hs k a s.1 s.2.1 s.2.2 h0 h1
    exact ⟨(w', u', c'), e, trivial⟩) a (w, u, c) trivial
  exact ⟨w', u', c', e⟩
theorem sm_congr {f g : Int → Int} {n : Int} (h : ∀ k, 0 ≤ k → k < n → f k = g k) : sm f n = sm g n := by
  have key : ∀ j : Nat, (j : Int) ≤ n → sm f j = sm g j := by
    intro j
    induction j with
    | zero => intro _; rfl
    | succ j ih =>
      intro hj
      rw [show ((j + 1 : Nat) : Int) = (j : Int) + 1 from rfl, sm_succ f (by omega), sm_succ g (by omega), ih (by omega), h j (by omega) (by omega)]
  by_cases h0 : 0 ≤ n
  · have := key n.toNat (by omega)
    rwa [show (n.toNat : Int) = n by omega] at this
  · unfold sm; rw [show n.toNat = 0 by omega]; rfl
theorem sm_rng {f : Int → Int} {n lo hi : Int} (h0 : 0 ≤ n) (h : ∀ k, 0 ≤ k → k < n → lo ≤ f k ∧ f k ≤ hi) : lo * n ≤ sm f n ∧ sm f n ≤ hi * n := by
  have key : ∀ j : Nat, (j : Int) ≤ n → lo * j ≤ sm f j ∧ sm f j ≤ hi * j := by
    intro j
    induction j with
    | zero => intro _; rw [show ((0 : Nat) : Int) = 0 from rfl, sm_0]; simp
    | succ j ih =>
      intro hj
      have h1 := ih (by omega)
      have h2 := h j (by omega) (by omega)
      rw [show ((j + 1 : Nat) : Int) = (j : Int) + 1 from rfl, sm_succ f (by omega), Int.mul_add, Int.mul_add]
      omega
  have := key n.toNat (by omega)
  rwa [show (n.toNat : Int) = n by omega] at this
/-- the first k from lo on, of j, that is so; -1 -/
def fstF (P : Int → Bool) : Int → Nat → Int
  | _, 0 => -1
  | k, j + 1 => if P k then k else fstF P (k + 1) j
theorem zfst (X : Int → Option zRes) (R : Int → Option zRes) (P : Int → Bool) (lo n : Int) (h0 : 0 ≤ lo) (hn : lo ≤ n) (hp : ∀ k, lo ≤ k → k < n → P k = true → X k = R k) (hq : ∀ k, lo ≤ k → k < n → P k = false → X k = X (k + 1)) : X lo = if fstF P lo (n - lo).toNat = -1 then X n else R (fstF P lo (n - lo).toNat) := by
  have key : ∀ (j : Nat) k, lo ≤ k → k + j = n → X k = if fstF P k j = -1 then X n else R (fstF P k j) := by
    intro j
    induction j with
    | zero => intro k _ hk; obtain rfl : k = n := by omega
              rfl
    | succ j ih =>
      intro k h1 hk
      rw [fstF]
      cases c : P k with
      | true => rw [if_pos rfl, if_neg (by omega), hp k h1 (by omega) c]
      | false => simp only [Bool.false_eq_true, if_false]; rw [hq k h1 (by omega) c, ih (k + 1) (by omega) (by omega)]
  exact key _ lo (by omega) (by omega)
theorem fstF_spec (P : Int → Bool) : ∀ (j : Nat) (k : Int), 0 ≤ k → (fstF P k j = -1 ∧ ∀ i, k ≤ i → i < k + j → P i = false) ∨ (k ≤ fstF P k j ∧ fstF P k j < k + j ∧ P (fstF P k j) = true ∧ ∀ i, k ≤ i → i < fstF P k j → P i = false) := by
  intro j
  induction j with
  | zero => intro k _; exact Or.inl ⟨rfl, fun i h1 h2 => by omega⟩
  | succ j ih =>
    intro k h0
    rw [fstF]
    cases c : P k with
    | true => rw [if_pos rfl]; exact Or.inr ⟨by omega, by omega, c, fun i h1 h2 => by omega⟩
    | false =>
      rw [if_neg (by simp)]
      rcases ih (k + 1) (by omega) with ⟨e, g⟩ | ⟨g1, g2, g3, g4⟩
      · refine Or.inl ⟨e, fun i h1 h2 => ?_⟩
        by_cases hi : i = k
        · rw [hi]; exact c
        · exact g i (by omega) (by omega)
      · refine Or.inr ⟨by omega, by omega, g3, fun i h1 h2 => ?_⟩
        by_cases hi : i = k
        · rw [hi]; exact c
        · exact g4 i (by omega) h2
/-- all, any of those from 0 below n -/
def allB (P : Int → Bool) : Int → Nat → Bool
  | _, 0 => true
  | k, j + 1 => P k && allB P (k + 1) j
theorem allB_iff (P : Int → Bool) : ∀ (j : Nat) (k : Int), allB P k j = true ↔ ∀ i, k ≤ i → i < k + j → P i = true := by
  intro j
  induction j with
  | zero => intro k; exact ⟨fun _ i h1 h2 => by omega, fun _ => rfl⟩
  | succ j ih =>
    intro k
    rw [allB, Bool.and_eq_true, ih]
    refine ⟨fun h i h1 h2 => ?_, fun h => ⟨h k (by omega) (by omega), fun i h1 h2 => h i (by omega) (by omega)⟩⟩
    by_cases hi : i = k
    · rw [hi]; exact h.1
    · exact h.2 i (by omega) (by omega)
def alB (P : Int → Bool) (n : Int) : Bool := allB P 0 n.toNat
theorem alB_iff (P : Int → Bool) (n : Int) : alB P n = true ↔ ∀ i, 0 ≤ i → i < n → P i = true := by
  unfold alB
  rw [allB_iff]
  exact ⟨fun h i h1 h2 => h i h1 (by omega), fun h i h1 h2 => h i h1 (by omega)⟩
/-- a loop that goes out with R as soon as one is not so -/
theorem zall_ (X : Int → Option zRes) (R : Option zRes) (P : Int → Bool) (n : Int) (hn : 0 ≤ n) (hp : ∀ k, 0 ≤ k → k < n → P k = true → X k = X (k + 1)) (hq : ∀ k, 0 ≤ k → k < n → P k = false → X k = R) : X 0 = if alB P n = true then X n else R := by
  have key : ∀ (j : Nat) k, 0 ≤ k → k + j = n → X k = if allB P k j = true then X n else R := by
    intro j
    induction j with
    | zero => intro k _ hk; obtain rfl : k = n := by omega
              rfl
    | succ j ih =>
      intro k h1 hk
      rw [allB]
      cases c : P k with
      | true => rw [hp k h1 (by omega) c, ih (k + 1) (by omega) (by omega), Bool.true_and]
      | false => rw [hq k h1 (by omega) c, Bool.false_and, if_neg (by simp)]
  exact key _ 0 (by omega) (by omega)
/-! rows as wholes -/
def up1 (f : Int → Int) (i x : Int) : Int → Int := fun j => if j = i then x else f j
theorem up1_s (f : Int → Int) (i x : Int) : up1 f i x i = x := if_pos rfl
theorem up1_n {f : Int → Int} {i x j : Int} (h : j ≠ i) : up1 f i x j = f j := if_neg h
def zsW (C : Nat → Int → Int) (a : Nat) (f : Int → Int) : Nat → Int → Int := fun a' => if a' = a then f else C a'
theorem zsW_s (C : Nat → Int → Int) (a : Nat) (f : Int → Int) : zsW C a f a = f := if_pos rfl
theorem zsW_a {C : Nat → Int → Int} {a : Nat} {f : Int → Int} {a' : Nat} (h : a' ≠ a) : zsW C a f a' = C a' := if_neg h
theorem zsC_W (C : Nat → Int → Int) (a : Nat) (i x : Int) : zsC C a i x = zsW C a (up1 (C a) i x) := by
  funext a' j
  unfold zsC zsW up1
  by_cases c : a' = a
  · subst c; simp only [true_and, if_true]
  · simp only [c, false_and, if_false]
theorem zsW_W (C : Nat → Int → Int) (a : Nat) (f g : Int → Int) : zsW (zsW C a f) a g = zsW C a g := by
  funext a'
  unfold zsW
  by_cases c : a' = a
  · simp only [c, if_true]
  · simp only [c, if_false]
theorem zsW_id (C : Nat → Int → Int) (a : Nat) : zsW C a (C a) = C := by
  funext a'
  unfold zsW
  by_cases c : a' = a
  · simp only [c, if_true]
  · simp only [c, if_false]
theorem zsW_sw (C : Nat → Int → Int) {a b : Nat} (f g : Int → Int) (h : a ≠ b) : zsW (zsW C a f) b g = zsW (zsW C b g) a f := by
  funext a'
  unfold zsW
  by_cases c : a' = a
  · have : a' ≠ b := by omega
    simp only [c, if_true, if_neg h]
  · simp only [c, if_false]
theorem tq.sW {F F1 : Nat → Nat → Int} {C C1 : Nat → Int → Int} (h1 : tq F C F1 C1) {a : Nat} {f : Int → Int} (ha : 35 ≤ a) (hb : a < 73 ∨ (75 ≤ a ∧ a < 89)) : tq F C F1 (zsW C1 a f) := fun a' h' => ⟨(h1 a' h').1, (zsW_a (by omega)).trans (h1 a' h').2⟩
theorem tq.row {F F1 : Nat → Nat → Int} {C C1 : Nat → Int → Int} (h1 : tq F C F1 C1) {a : Nat} (ha : a < 35 ∨ a = 73 ∨ a = 74 ∨ 89 ≤ a) : C1 a = C a := (h1 a ha).2
theorem mlF_ml (F : Nat → Nat → Int) (w k c w' k' c' : Int) : mlF (mlF F w k c) w' k' c' = mlF F w' k' c' := by
  show zsF (zsF (zsF (mlF F w k c) 782 72 w') 783 72 k') 784 72 c' = _
  rw [mlF_0, mlF_1, mlF_2]
theorem moV.cg {F F' : Nat → Nat → Int} {C C' : Nat → Int → Int} {D : Int → Int} (M : moV F C D) (h1 : C' 73 = C 73) (h2 : F' 778 72 = F 778 72) (h3 : F' 779 72 = F 779 72) (h4 : F' 780 72 = F 780 72) (h5 : F' 781 72 = F 781 72) : moV F' C' D := by
  unfold moV
  rw [h1, h2, h3, h4, h5]
  exact M
theorem moV.sW {F : Nat → Nat → Int} {C : Nat → Int → Int} {D : Int → Int} (M : moV F C D) {a : Nat} (f : Int → Int) (h : a ≠ 73) : moV F (zsW C a f) D := M.cg (zsW_a (by omega)) rfl rfl rfl rfl
theorem c_fill {h : zHeap} {F : Nat → Nat → Int} {C : Nat → Int → Int} {a n : Nat} {x : Int} (hr : rwS h a 0 n) (ha : a < zK0) (hn : n < 100000) : zc 324 [zR (some a), zI (i32 x)] (zw h F C) = some (zI 0, zw h F (zsW C a (fun j => if 0 ≤ j ∧ j < n then x else C a j))) := by
  rw [e_Arrays_fill, zw_aN hr ha, zoI_s]
  obtain ⟨s, e, i⟩ := zinv (fun k f => zr 324 5 [yR (some a), yI (i32 x), yI (i32 k), yI (i32 n)] [] (zw h F (zsW C a f))) (fun k f => f = fun j => if 0 ≤ j ∧ j < k then x else C a j) 0 n (by omega) (fun k f h0 h1 hi => by
    refine ⟨up1 f k x, ?_, ?_⟩
    · rw [e_Arrays_fill_5]
      simp (disch := omega) only [if_true, if_false, not_true_eq_false, not_false_eq_true, zoI_s, zoR_s, zoH_s, zoL_s, zbI_s, zbV_s, zbR_s, zbL_s, zif_dec, i32_0, ne_eq, i32_lt, i32_le, i32_eq, i32_add, i32_mul, i32_sub, i32_neg, zrz_0, zrz_1, zif_t, zif_f, zsF_s, zsF_k, zsF_a, zsC_s, zsC_a, zsC_i, zsW_s, zsW_a, Int.add_zero, Int.zero_add, if_pos, if_neg, zw_aS hr ha, zsC_W, zsW_W]
    · subst hi
      funext j
      unfold up1
      dsimp only
      by_cases c : j = k
      · rw [if_pos c, if_pos (by omega)]
      · rw [if_neg c]
        by_cases c2 : 0 ≤ j ∧ j < k
        · rw [if_pos c2, if_pos (by omega)]
        · rw [if_neg c2, if_neg (by omega)]) (C a) (by funext j; rw [if_neg (by omega)])
  rw [zsW_id] at e
  rw [e, e_Arrays_fill_5, i]
  simp (disch := omega) only [if_true, if_false, not_true_eq_false, not_false_eq_true, zoI_s, zoR_s, zoH_s, zoL_s, zbI_s, zbV_s, zbR_s, zbL_s, zif_dec, i32_0, ne_eq, i32_lt, i32_le, i32_eq, i32_add, i32_mul, i32_sub, i32_neg, zrz_0, zrz_1, zif_t, zif_f, zsF_s, zsF_k, zsF_a, zsC_s, zsC_a, zsC_i, zsW_s, zsW_a, Int.add_zero, Int.zero_add, if_pos, if_neg]
/-! sets of bits -/
def bitI (s r : Int) : Int := s / 2 ^ r.toNat % 2
def orI (s r : Int) : Int := if bitI s r = 1 then s else s + 2 ^ r.toNat
def bitsS (s : Int) : Int := sm (bitI s) 9
theorem bitI_01 (s r : Int) : bitI s r = 0 ∨ bitI s r = 1 := by unfold bitI; omega
theorem bitI_nat (s r : Nat) : bitI (s : Int) (r : Int) = ((s / 2 ^ r % 2 : Nat) : Int) := by
  unfold bitI
  rw [Int.toNat_natCast, Int.natCast_emod, Int.natCast_ediv, Int.natCast_pow]
  rfl
theorem orI_nat (s r : Nat) : orI (s : Int) (r : Int) = ((if s / 2 ^ r % 2 = 1 then s else s + 2 ^ r : Nat) : Int) := by
  unfold orI
  rw [bitI_nat]
  by_cases c : s / 2 ^ r % 2 = 1
  · rw [if_pos c, if_pos (by omega)]
  · rw [if_neg c, if_neg (by omega), Int.toNat_natCast, Int.natCast_add, Int.natCast_pow]
    rfl
theorem b_shr_t : ∀ s : Nat, s < 512 → ∀ r : Nat, r < 9 → zshr (i32 (s : Int)) (i32 (r : Int)) &&& i32 1 = i32 ((s / 2 ^ r % 2 : Nat) : Int) := by decide +kernel
theorem b_shr {s r : Int} (h0 : 0 ≤ s) (h1 : s < 512) (h2 : 0 ≤ r) (h3 : r < 9) : zshr (i32 s) (i32 r) &&& i32 1 = i32 (bitI s r) := by
  obtain ⟨n, rfl⟩ := Int.eq_ofNat_of_zero_le h0
  obtain ⟨m, rfl⟩ := Int.eq_ofNat_of_zero_le h2
  rw [bitI_nat, b_shr_t n (by omega) m (by omega)]
theorem b_or_t : ∀ s : Nat, s < 512 → ∀ r : Nat, r < 9 → i32 (s : Int) ||| zshl (i32 1) (i32 (r : Int)) = i32 ((if s / 2 ^ r % 2 = 1 then s else s + 2 ^ r : Nat) : Int) := by decide +kernel
theorem b_or {s r : Int} (h0 : 0 ≤ s) (h1 : s < 512) (h2 : 0 ≤ r) (h3 : r < 9) : i32 s ||| zshl (i32 1) (i32 r) = i32 (orI s r) := by
  obtain ⟨n, rfl⟩ := Int.eq_ofNat_of_zero_le h0
  obtain ⟨m, rfl⟩ := Int.eq_ofNat_of_zero_le h2
  rw [orI_nat, b_or_t n (by omega) m (by omega)]
theorem b_pow_t : ∀ r : Nat, r < 9 → zshl (i32 1) (i32 (r : Int)) = i32 ((2 ^ r : Nat) : Int) := by decide +kernel
theorem b_pow {r : Int} (h2 : 0 ≤ r) (h3 : r < 9) : zshl (i32 1) (i32 r) = i32 (2 ^ r.toNat) := by
  obtain ⟨m, rfl⟩ := Int.eq_ofNat_of_zero_le h2
  rw [b_pow_t m (by omega), Int.natCast_pow]
  rfl
theorem bitI_or_t : ∀ s : Nat, s < 512 → ∀ r : Nat, r < 9 → ∀ t : Nat, t < 9 → (if s / 2 ^ r % 2 = 1 then s else s + 2 ^ r) / 2 ^ t % 2 = if t = r then 1 else s / 2 ^ t % 2 := by decide +kernel
theorem bitI_or {s r t : Int} (h0 : 0 ≤ s) (h1 : s < 512) (h2 : 0 ≤ r) (h3 : r < 9) (h4 : 0 ≤ t) (h5 : t < 9) : bitI (orI s r) t = if t = r then 1 else bitI s t := by
  obtain ⟨n, rfl⟩ := Int.eq_ofNat_of_zero_le h0
  obtain ⟨m, rfl⟩ := Int.eq_ofNat_of_zero_le h2
  obtain ⟨k, rfl⟩ := Int.eq_ofNat_of_zero_le h4
  rw [orI_nat, bitI_nat, bitI_nat, bitI_or_t n (by omega) m (by omega) k (by omega)]
  by_cases c : k = m
  · rw [if_pos c, if_pos (by omega)]; rfl
  · rw [if_neg c, if_neg (by omega)]
theorem orI_lt_t : ∀ s : Nat, s < 512 → ∀ r : Nat, r < 9 → ∀ n : Nat, n < 10 → r < n → s < 2 ^ n → (if s / 2 ^ r % 2 = 1 then s else s + 2 ^ r) < 2 ^ n := by decide +kernel
theorem orI_lt {s r n : Int} (h0 : 0 ≤ s) (h2 : 0 ≤ r) (h3 : r < n) (h4 : n ≤ 9) (h1 : s < 2 ^ n.toNat) : 0 ≤ orI s r ∧ s ≤ orI s r ∧ orI s r < 2 ^ n.toNat := by
  obtain ⟨s, rfl⟩ := Int.eq_ofNat_of_zero_le h0
  obtain ⟨m, rfl⟩ := Int.eq_ofNat_of_zero_le h2
  obtain ⟨n, rfl⟩ := Int.eq_ofNat_of_zero_le (show 0 ≤ n by omega)
  rw [Int.toNat_natCast] at h1 ⊢
  rw [show (2 : Int) ^ n = ((2 ^ n : Nat) : Int) by rw [Int.natCast_pow]; rfl] at h1 ⊢
  have h6 : 2 ^ n ≤ 2 ^ 9 := Nat.pow_le_pow_right (by omega) (by omega)
  have := orI_lt_t s (by omega) m (by omega) n (by omega) (by omega) (by omega)
  rw [orI_nat]
  have h7 : 0 < 2 ^ m := Nat.pow_pos (by omega)
  refine ⟨by omega, ?_, by omega⟩
  apply Int.ofNat_le.mpr
  split <;> omega
theorem pw_le {n : Int} (h : n ≤ 9) : (1 : Int) ≤ 2 ^ n.toNat ∧ (2 : Int) ^ n.toNat ≤ 512 := by
  have h1 : 2 ^ n.toNat ≤ 2 ^ 9 := Nat.pow_le_pow_right (by omega) (by omega)
  have h2 : 0 < 2 ^ n.toNat := Nat.pow_pos (by omega)
  rw [show (2 : Int) ^ n.toNat = ((2 ^ n.toNat : Nat) : Int) by rw [Int.natCast_pow]; rfl]
  omega
theorem pw_8 {n : Int} (h : n ≤ 8) : (2 : Int) ^ n.toNat ≤ 256 := by
  have h1 : 2 ^ n.toNat ≤ 2 ^ 8 := Nat.pow_le_pow_right (by omega) (by omega)
  rw [show (2 : Int) ^ n.toNat = ((2 ^ n.toNat : Nat) : Int) by rw [Int.natCast_pow]; rfl]
  omega
theorem pw_6 {n : Int} (h : n ≤ 6) : (2 : Int) ^ n.toNat ≤ 64 := by
  have h1 : 2 ^ n.toNat ≤ 2 ^ 6 := Nat.pow_le_pow_right (by omega) (by omega)
  rw [show (2 : Int) ^ n.toNat = ((2 ^ n.toNat : Nat) : Int) by rw [Int.natCast_pow]; rfl]
  omega
theorem bits_sum_t : ∀ s : Nat, s < 512 → s = s / 2 ^ 0 % 2 + 2 * (s / 2 ^ 1 % 2) + 4 * (s / 2 ^ 2 % 2) + 8 * (s / 2 ^ 3 % 2) + 16 * (s / 2 ^ 4 % 2) + 32 * (s / 2 ^ 5 % 2) + 64 * (s / 2 ^ 6 % 2) + 128 * (s / 2 ^ 7 % 2) + 256 * (s / 2 ^ 8 % 2) := by decide +kernel
theorem bits_ext {s t : Int} (h0 : 0 ≤ s) (h1 : s < 512) (h2 : 0 ≤ t) (h3 : t < 512) (h : ∀ r, 0 ≤ r → r < 9 → bitI s r = bitI t r) : s = t := by
  obtain ⟨s, rfl⟩ := Int.eq_ofNat_of_zero_le h0
  obtain ⟨t, rfl⟩ := Int.eq_ofNat_of_zero_le h2
  have k : ∀ r : Nat, r < 9 → s / 2 ^ r % 2 = t / 2 ^ r % 2 := by
    intro r hr
    have := h r (by omega) (by omega)
    rw [bitI_nat, bitI_nat] at this
    omega
  have e1 := bits_sum_t s (by omega)
  have e2 := bits_sum_t t (by omega)
  rw [← k 0 (by omega), ← k 1 (by omega), ← k 2 (by omega), ← k 3 (by omega), ← k 4 (by omega), ← k 5 (by omega), ← k 6 (by omega), ← k 7 (by omega), ← k 8 (by omega)] at e2
  omega
theorem bitI_hi_t : ∀ n : Nat, n < 10 → ∀ s : Nat, s < 2 ^ n → ∀ r : Nat, r < 9 → n ≤ r → s / 2 ^ r % 2 = 0 := by decide +kernel
theorem bitI_hi {s r n : Int} (h0 : 0 ≤ s) (h1 : s < 2 ^ n.toNat) (h2 : 0 ≤ n) (h4 : n ≤ 9) (h3 : n ≤ r) (h5 : r < 9) : bitI s r = 0 := by
  obtain ⟨s, rfl⟩ := Int.eq_ofNat_of_zero_le h0
  obtain ⟨n, rfl⟩ := Int.eq_ofNat_of_zero_le h2
  obtain ⟨m, rfl⟩ := Int.eq_ofNat_of_zero_le (show 0 ≤ r by omega)
  rw [Int.toNat_natCast, show (2 : Int) ^ n = ((2 ^ n : Nat) : Int) by rw [Int.natCast_pow]; rfl] at h1
  rw [bitI_nat, bitI_hi_t n (by omega) s (by omega) m (by omega) (by omega)]
  rfl
theorem bitI_full_t : ∀ n : Nat, n < 10 → ∀ r : Nat, r < n → (2 ^ n - 1) / 2 ^ r % 2 = 1 := by decide +kernel
theorem bitI_full {n r : Int} (h0 : 0 ≤ r) (h1 : r < n) (h2 : n ≤ 9) : bitI (2 ^ n.toNat - 1) r = 1 := by
  obtain ⟨n, rfl⟩ := Int.eq_ofNat_of_zero_le (show 0 ≤ n by omega)
  obtain ⟨m, rfl⟩ := Int.eq_ofNat_of_zero_le h0
  have h2 : 0 < 2 ^ n := Nat.pow_pos (by omega)
  rw [Int.toNat_natCast, show (2 : Int) ^ n - 1 = ((2 ^ n - 1 : Nat) : Int) by rw [Int.natCast_sub (by omega), Int.natCast_pow]; rfl, bitI_nat, bitI_full_t n (by omega) m (by omega)]
  rfl
theorem bitI_0 (r : Int) : bitI 0 r = 0 := by unfold bitI; rw [Int.zero_ediv]; rfl
theorem bitsS_rng (s : Int) : 0 ≤ bitsS s ∧ bitsS s ≤ 9 := by
  have := sm_rng (f := bitI s) (n := 9) (lo := 0) (hi := 1) (by omega) (fun k _ _ => by rcases bitI_01 s k with h | h <;> omega)
  unfold bitsS
  omega
theorem bitsS_eq (s : Int) : bitsS s = bitI s 0 + bitI s 1 + bitI s 2 + bitI s 3 + bitI s 4 + bitI s 5 + bitI s 6 + bitI s 7 + bitI s 8 := by
  unfold bitsS sm
  rw [show (9 : Int).toNat = 9 from rfl]
  simp only [sumF]
  simp only [show (0 : Int) + 1 = 1 from rfl, show (1 : Int) + 1 = 2 from rfl, show (2 : Int) + 1 = 3 from rfl, show (3 : Int) + 1 = 4 from rfl, show (4 : Int) + 1 = 5 from rfl, show (5 : Int) + 1 = 6 from rfl, show (6 : Int) + 1 = 7 from rfl, show (7 : Int) + 1 = 8 from rfl]
  omega
theorem m_bitsOf {h : zHeap} {s : Int} (h0 : 0 ≤ s) (h1 : s < 512) : zc 249 [zI (i32 s)] h = some (zI (i32 (bitsS s)), h) := by
  rw [e_Model_bitsOf]
  have e := zsm (fun k a => zr 249 4 [yI (i32 s), yI (i32 a), yI (i32 k)] [] h) (bitI s) 9 (by omega) (fun k a h2 h3 => by
    rw [e_Model_bitsOf_4]
    simp (disch := omega) only [if_true, if_false, not_true_eq_false, not_false_eq_true, zoI_s, zoR_s, zoH_s, zoL_s, zbI_s, zbV_s, zbR_s, zbL_s, zif_dec, i32_0, ne_eq, i32_lt, i32_le, i32_eq, i32_add, i32_mul, i32_sub, i32_neg, zrz_0, zrz_1, zif_t, zif_f, zsF_s, zsF_k, zsF_a, zsC_s, zsC_a, zsC_i, zsW_s, zsW_a, Int.add_zero, Int.zero_add, if_pos, if_neg, b_shr h0 h1 h2 h3]) 0
  rw [e, e_Model_bitsOf_4]
  simp (disch := omega) only [if_true, if_false, not_true_eq_false, not_false_eq_true, zoI_s, zoR_s, zoH_s, zoL_s, zbI_s, zbV_s, zbR_s, zbL_s, zif_dec, i32_0, ne_eq, i32_lt, i32_le, i32_eq, i32_add, i32_mul, i32_sub, i32_neg, zrz_0, zrz_1, zif_t, zif_f, zsF_s, zsF_k, zsF_a, zsC_s, zsC_a, zsC_i, zsW_s, zsW_a, Int.add_zero, Int.zero_add, if_pos, if_neg]
  rfl
def bcE (a0 : Int32) : Int32 := ((((((((a0 - ((zushr a0 (i32 1)) &&& (i32 1431655765))) &&& (i32 858993459)) + ((zushr (a0 - ((zushr a0 (i32 1)) &&& (i32 1431655765))) (i32 2)) &&& (i32 858993459))) + (zushr (((a0 - ((zushr a0 (i32 1)) &&& (i32 1431655765))) &&& (i32 858993459)) + ((zushr (a0 - ((zushr a0 (i32 1)) &&& (i32 1431655765))) (i32 2)) &&& (i32 858993459))) (i32 4))) &&& (i32 252645135)) + (zushr (((((a0 - ((zushr a0 (i32 1)) &&& (i32 1431655765))) &&& (i32 858993459)) + ((zushr (a0 - ((zushr a0 (i32 1)) &&& (i32 1431655765))) (i32 2)) &&& (i32 858993459))) + (zushr (((a0 - ((zushr a0 (i32 1)) &&& (i32 1431655765))) &&& (i32 858993459)) + ((zushr (a0 - ((zushr a0 (i32 1)) &&& (i32 1431655765))) (i32 2)) &&& (i32 858993459))) (i32 4))) &&& (i32 252645135)) (i32 8))) + (zushr ((((((a0 - ((zushr a0 (i32 1)) &&& (i32 1431655765))) &&& (i32 858993459)) + ((zushr (a0 - ((zushr a0 (i32 1)) &&& (i32 1431655765))) (i32 2)) &&& (i32 858993459))) + (zushr (((a0 - ((zushr a0 (i32 1)) &&& (i32 1431655765))) &&& (i32 858993459)) + ((zushr (a0 - ((zushr a0 (i32 1)) &&& (i32 1431655765))) (i32 2)) &&& (i32 858993459))) (i32 4))) &&& (i32 252645135)) + (zushr (((((a0 - ((zushr a0 (i32 1)) &&& (i32 1431655765))) &&& (i32 858993459)) + ((zushr (a0 - ((zushr a0 (i32 1)) &&& (i32 1431655765))) (i32 2)) &&& (i32 858993459))) + (zushr (((a0 - ((zushr a0 (i32 1)) &&& (i32 1431655765))) &&& (i32 858993459)) + ((zushr (a0 - ((zushr a0 (i32 1)) &&& (i32 1431655765))) (i32 2)) &&& (i32 858993459))) (i32 4))) &&& (i32 252645135)) (i32 8))) (i32 16))) &&& (i32 63))
theorem bc_t : ∀ s : Nat, s < 512 → bcE (i32 (s : Int)) = i32 ((s / 2 ^ 0 % 2 + s / 2 ^ 1 % 2 + s / 2 ^ 2 % 2 + s / 2 ^ 3 % 2 + s / 2 ^ 4 % 2 + s / 2 ^ 5 % 2 + s / 2 ^ 6 % 2 + s / 2 ^ 7 % 2 + s / 2 ^ 8 % 2 : Nat) : Int) := by decide +kernel
theorem c_bitCount {h : zHeap} {s : Int} (h0 : 0 ≤ s) (h1 : s < 512) : zc 325 [zI (i32 s)] h = some (zI (i32 (bitsS s)), h) := by
  rw [e_Integer_bitCount]
  obtain ⟨n, rfl⟩ := Int.eq_ofNat_of_zero_le h0
  show some (zI (bcE (i32 (n : Int))), h) = _
  rw [bc_t n (by omega), bitsS_eq]
  have e := fun r : Nat => bitI_nat n r
  rw [show bitI (n : Int) 0 = _ from e 0, show bitI (n : Int) 1 = _ from e 1, show bitI (n : Int) 2 = _ from e 2, show bitI (n : Int) 3 = _ from e 3, show bitI (n : Int) 4 = _ from e 4, show bitI (n : Int) 5 = _ from e 5, show bitI (n : Int) 6 = _ from e 6, show bitI (n : Int) 7 = _ from e 7, show bitI (n : Int) 8 = _ from e 8]
  simp only [Int.natCast_add]
