/-! owns: who is served first, what is left for him -/
def hrdS (D : Int → Int) (r p : Int) : Int := sm (fun q => if nteS D r p q = -1 then 0 else 1) (D 2)
def kyS (D : Int → Int) (p : Int) : Int := 5 * (9 - D (16 + p)) + p
def rkS (D : Int → Int) (p r : Int) : Int := 10 * (8 - hrdS D r p) + r
def isBst (D : Int → Int) (p : Int) (T : Int → Prop) (b : Int) : Prop := (b = -1 ∧ ∀ r, 0 ≤ r → r < D 0 → T r) ∨ (0 ≤ b ∧ b < D 0 ∧ ¬ T b ∧ ∀ r, 0 ≤ r → r < D 0 → ¬ T r → rkS D p b ≤ rkS D p r)
def ownP (D f : Int → Int) : Prop := ∀ p, 0 ≤ p → p < D 1 → isBst D p (fun r => ∃ s, 0 ≤ s ∧ s < D 1 ∧ kyS D s < kyS D p ∧ f s = r) (f p)
theorem hrd_rng {D : Int → Int} (O : dOK D) (r p : Int) : 0 ≤ hrdS D r p ∧ hrdS D r p ≤ 8 := by
  have b2 := O.2.2.1
  have := sm_rng (f := fun q => if nteS D r p q = -1 then 0 else 1) (n := D 2) (lo := 0) (hi := 1) (by omega) (fun q _ _ => by split <;> omega)
  unfold hrdS
  omega
theorem rk_inj {D : Int → Int} (O : dOK D) {p x y : Int} (x0 : 0 ≤ x) (x1 : x < D 0) (y0 : 0 ≤ y) (y1 : y < D 0) (e : rkS D p x = rkS D p y) : x = y := by
  have b0 := O.1
  unfold rkS at e
  omega
theorem ky_inj {D : Int → Int} (O : dOK D) {x y : Int} (x0 : 0 ≤ x) (x1 : x < D 1) (y0 : 0 ≤ y) (y1 : y < D 1) (e : kyS D x = kyS D y) : x = y := by
  have b0 := O.2.1
  unfold kyS at e
  omega
theorem ky_0 {D : Int → Int} (O : dOK D) {x : Int} (x0 : 0 ≤ x) (x1 : x < D 1) : 0 ≤ kyS D x := by
  have b0 := O.2.2.2.2.2.2.1 x x0 x1
  unfold kyS
  omega
theorem isBst_uniq {D : Int → Int} (O : dOK D) {p b b' : Int} {T T' : Int → Prop} (h : isBst D p T b) (h' : isBst D p T' b') (e : ∀ r, 0 ≤ r → r < D 0 → (T r ↔ T' r)) : b = b' := by
  rcases h with ⟨h1, h2⟩ | ⟨h1, h2, h3, h4⟩
  · rcases h' with ⟨g1, g2⟩ | ⟨g1, g2, g3, g4⟩
    · omega
    · exact absurd ((e b' g1 g2).mp (h2 b' g1 g2)) g3
  · rcases h' with ⟨g1, g2⟩ | ⟨g1, g2, g3, g4⟩
    · exact absurd ((e b h1 h2).mpr (g2 b h1 h2)) h3
    · have k1 := h4 b' g1 g2 (fun z => g3 ((e b' g1 g2).mp z))
      have k2 := g4 b h1 h2 (fun z => h3 ((e b h1 h2).mpr z))
      exact rk_inj (p := p) O h1 h2 g1 g2 (by omega)
theorem own_uniq {D f g : Int → Int} (O : dOK D) (hf : ownP D f) (hg : ownP D g) : ∀ p, 0 ≤ p → p < D 1 → f p = g p := by
  have key : ∀ n : Nat, ∀ p, 0 ≤ p → p < D 1 → kyS D p < n → f p = g p := by
    intro n
    induction n with
    | zero => intro p p0 p1 hk; have := ky_0 O p0 p1; omega
    | succ n ih =>
      intro p p0 p1 hk
      refine isBst_uniq O (hf p p0 p1) (hg p p0 p1) (fun r _ _ => ⟨?_, ?_⟩)
      · rintro ⟨s, s0, s1, s2, s3⟩
        exact ⟨s, s0, s1, s2, by rw [← ih s s0 s1 (by omega)]; exact s3⟩
      · rintro ⟨s, s0, s1, s2, s3⟩
        exact ⟨s, s0, s1, s2, by rw [ih s s0 s1 (by omega)]; exact s3⟩
  intro p p0 p1
  exact key (kyS D p + 1).toNat p p0 p1 (by have := ky_0 O p0 p1; omega)
/-- the best reed of those that are not in s -/
def bstF (D : Int → Int) (p s : Int) (r b : Int) : Int := if bitI s r = 0 ∧ (b = -1 ∨ hrdS D b p < hrdS D r p) then r else b
def bstS (D : Int → Int) (p s : Int) : Int := foldF (bstF D p s) 0 (D 0).toNat (-1)
theorem bst_spec {D : Int → Int} (O : dOK D) (p s : Int) : isBst D p (fun r => bitI s r = 1) (bstS D p s) := by
  have b0 := O.1
  have := foldI (bstF D p s) (fun k b => (b = -1 ∧ ∀ r, 0 ≤ r → r < k → bitI s r = 1) ∨ (0 ≤ b ∧ b < k ∧ ¬ bitI s b = 1 ∧ ∀ r, 0 ≤ r → r < k → ¬ bitI s r = 1 → rkS D p b ≤ rkS D p r)) 0 (D 0) (by omega) (fun k b k0 k1 hi => by
    have hk := bitI_01 s k
    unfold bstF
    rcases hi with ⟨h1, h2⟩ | ⟨h1, h2, h3, h4⟩
    · by_cases c : bitI s k = 0
      · rw [if_pos ⟨c, Or.inl h1⟩]
        refine Or.inr ⟨k0, by omega, by omega, fun r r0 r1 r2 => ?_⟩
        by_cases e : r = k
        · rw [e]; omega
        · exact absurd (h2 r r0 (by omega)) r2
      · rw [if_neg (fun z => c z.1)]
        refine Or.inl ⟨h1, fun r r0 r1 => ?_⟩
        by_cases e : r = k
        · rw [e]; omega
        · exact h2 r r0 (by omega)
    · by_cases c : bitI s k = 0 ∧ (b = -1 ∨ hrdS D b p < hrdS D k p)
      · rw [if_pos c]
        refine Or.inr ⟨k0, by omega, by omega, fun r r0 r1 r2 => ?_⟩
        by_cases e : r = k
        · rw [e]; omega
        · have := h4 r r0 (by omega) r2
          unfold rkS at this ⊢
          omega
      · rw [if_neg c]
        refine Or.inr ⟨h1, by omega, h3, fun r r0 r1 r2 => ?_⟩
        by_cases e : r = k
        · rw [e] at r2 ⊢
          unfold rkS
          have : ¬ (hrdS D b p < hrdS D k p) := fun z => c ⟨by omega, Or.inr z⟩
          omega
        · exact h4 r r0 (by omega) r2) (-1) (Or.inl ⟨rfl, fun r _ _ => by omega⟩)
  rw [Int.sub_zero] at this
  exact this
theorem bst_rng {D : Int → Int} (O : dOK D) (p s : Int) : -1 ≤ bstS D p s ∧ bstS D p s < 6 := by
  have b0 := O.1
  rcases bst_spec O p s with h | h <;> omega
def strF (D : Int → Int) (s : Int) (p b : Int) : Int := if bitI s p = 0 ∧ (b = -1 ∨ D (16 + b) < D (16 + p)) then p else b
def strS (D : Int → Int) (s : Int) : Int := foldF (strF D s) 0 (D 1).toNat (-1)
theorem str_spec {D : Int → Int} (O : dOK D) (s : Int) : (strS D s = -1 ∧ ∀ p, 0 ≤ p → p < D 1 → bitI s p = 1) ∨ (0 ≤ strS D s ∧ strS D s < D 1 ∧ bitI s (strS D s) = 0 ∧ ∀ p, 0 ≤ p → p < D 1 → bitI s p = 0 → kyS D (strS D s) ≤ kyS D p) := by
  have b0 := O.2.1
  have := foldI (strF D s) (fun k b => (b = -1 ∧ ∀ r, 0 ≤ r → r < k → bitI s r = 1) ∨ (0 ≤ b ∧ b < k ∧ bitI s b = 0 ∧ ∀ r, 0 ≤ r → r < k → bitI s r = 0 → kyS D b ≤ kyS D r)) 0 (D 1) (by omega) (fun k b k0 k1 hi => by
    have hk := bitI_01 s k
    unfold strF
    rcases hi with ⟨h1, h2⟩ | ⟨h1, h2, h3, h4⟩
    · by_cases c : bitI s k = 0
      · rw [if_pos ⟨c, Or.inl h1⟩]
        refine Or.inr ⟨k0, by omega, by omega, fun r r0 r1 r2 => ?_⟩
        by_cases e : r = k
        · rw [e]; omega
        · have := h2 r r0 (by omega)
          omega
      · rw [if_neg (fun z => c z.1)]
        refine Or.inl ⟨h1, fun r r0 r1 => ?_⟩
        by_cases e : r = k
        · rw [e]; omega
        · exact h2 r r0 (by omega)
    · by_cases c : bitI s k = 0 ∧ (b = -1 ∨ D (16 + b) < D (16 + k))
      · rw [if_pos c]
        refine Or.inr ⟨k0, by omega, by omega, fun r r0 r1 r2 => ?_⟩
        by_cases e : r = k
        · rw [e]; omega
        · have := h4 r r0 (by omega) r2
          unfold kyS at this ⊢
          omega
      · rw [if_neg c]
        refine Or.inr ⟨h1, by omega, h3, fun r r0 r1 r2 => ?_⟩
        by_cases e : r = k
        · rw [e] at r2 ⊢
          unfold kyS
          have : ¬ (D (16 + b) < D (16 + k)) := fun z => c ⟨by omega, Or.inr z⟩
          omega
        · exact h4 r r0 (by omega) r2) (-1) (Or.inl ⟨rfl, fun r _ _ => by omega⟩)
  rw [Int.sub_zero] at this
  exact this
def shaF (D : Int → Int) : Nat → Int → Int → (Int → Int) → (Int → Int)
  | 0, _, _, f => f
  | j + 1, s, t, f => if strS D s = -1 ∨ bstS D (strS D s) t = -1 then f else shaF D j (orI s (strS D s)) (orI t (bstS D (strS D s) t)) (up1 f (strS D s) (bstS D (strS D s) t))
def ownS (D : Int → Int) : Int → Int := shaF D (D 1).toNat 0 0 (fun _ => -1)
def shaI (D : Int → Int) (k s t : Int) (f : Int → Int) : Prop := (0 ≤ s ∧ s < 2 ^ (D 1).toNat ∧ 0 ≤ t ∧ t < 64 ∧ bitsS s = k) ∧ (∀ p, 0 ≤ p → p < D 1 → bitI s p = 1 → isBst D p (fun r => ∃ x, 0 ≤ x ∧ x < D 1 ∧ kyS D x < kyS D p ∧ f x = r) (f p)) ∧ (∀ p, 0 ≤ p → p < D 1 → bitI s p = 0 → f p = -1) ∧ (∀ x p, 0 ≤ x → x < D 1 → 0 ≤ p → p < D 1 → bitI s p = 1 → bitI s x = 0 → kyS D p < kyS D x) ∧ (∀ r, 0 ≤ r → r < D 0 → (bitI t r = 1 ↔ ∃ p, 0 ≤ p ∧ p < D 1 ∧ bitI s p = 1 ∧ f p = r))
theorem bits_or {s r : Int} (s0 : 0 ≤ s) (s1 : s < 512) (r0 : 0 ≤ r) (r1 : r < 6) (h : bitI s r = 0) : bitsS (orI s r) = bitsS s + 1 := by
  rw [bitsS_eq, bitsS_eq, bitI_or s0 s1 r0 (by omega) (by omega) (by omega), bitI_or s0 s1 r0 (by omega) (by omega) (by omega), bitI_or s0 s1 r0 (by omega) (by omega) (by omega), bitI_or s0 s1 r0 (by omega) (by omega) (by omega), bitI_or s0 s1 r0 (by omega) (by omega) (by omega), bitI_or s0 s1 r0 (by omega) (by omega) (by omega), bitI_or s0 s1 r0 (by omega) (by omega) (by omega), bitI_or s0 s1 r0 (by omega) (by omega) (by omega), bitI_or s0 s1 r0 (by omega) (by omega) (by omega)]
  rcases (show r = 0 ∨ r = 1 ∨ r = 2 ∨ r = 3 ∨ r = 4 ∨ r = 5 by omega) with rfl | rfl | rfl | rfl | rfl | rfl <;> simp (decide := true) only [if_true, if_false] <;> omega
theorem bits_full {s n : Int} (n0 : 0 ≤ n) (n1 : n ≤ 4) (s0 : 0 ≤ s) (s1 : s < 2 ^ n.toNat) (h : n ≤ bitsS s) : ∀ p, 0 ≤ p → p < n → bitI s p = 1 := by
  rw [bitsS_eq] at h
  have hz := fun r => bitI_hi (s := s) (r := r) (n := n) s0 s1 n0 (by omega)
  have h01 := bitI_01 s
  have a0 := h01 0
  have a1 := h01 1
  have a2 := h01 2
  have a3 := h01 3
  have z4 := hz 4 (by omega) (by omega)
  have z5 := hz 5 (by omega) (by omega)
  have z6 := hz 6 (by omega) (by omega)
  have z7 := hz 7 (by omega) (by omega)
  have z8 := hz 8 (by omega) (by omega)
  intro p p0 p1
  rcases (show n = 0 ∨ n = 1 ∨ n = 2 ∨ n = 3 ∨ n = 4 by omega) with rfl | rfl | rfl | rfl | rfl
  · omega
  · have z1 := hz 1 (by omega) (by omega)
    have z2 := hz 2 (by omega) (by omega)
    have z3 := hz 3 (by omega) (by omega)
    obtain rfl : p = 0 := by omega
    omega
  · have z2 := hz 2 (by omega) (by omega)
    have z3 := hz 3 (by omega) (by omega)
    rcases (show p = 0 ∨ p = 1 by omega) with rfl | rfl <;> omega
  · have z3 := hz 3 (by omega) (by omega)
    rcases (show p = 0 ∨ p = 1 ∨ p = 2 by omega) with rfl | rfl | rfl <;> omega
  · rcases (show p = 0 ∨ p = 1 ∨ p = 2 ∨ p = 3 by omega) with rfl | rfl | rfl | rfl <;> omega
theorem shaI_n {D : Int → Int} (O : dOK D) {k s t y b : Int} {f : Int → Int} (hi : shaI D k s t f) (e1 : 0 ≤ y) (e2 : y < D 1) (e3 : bitI s y = 0) (e4 : ∀ p, 0 ≤ p → p < D 1 → bitI s p = 0 → kyS D y ≤ kyS D p) (g1 : 0 ≤ b) (g2 : b < D 0) (g3 : ¬ bitI t b = 1) (g4 : ∀ r, 0 ≤ r → r < D 0 → ¬ bitI t r = 1 → rkS D y b ≤ rkS D y r) : shaI D (k + 1) (orI s y) (orI t b) (up1 f y b) := by
  have b0 := O.1
  have b1 := O.2.1
  have pw := pw_le (n := D 1) (by omega)
  obtain ⟨⟨i1, i2, i3, i4, i5⟩, iA, iB, iC, iE⟩ := hi
  have o1 := orI_lt (s := s) (r := y) (n := D 1) i1 e1 e2 (by omega) i2
  have o2 := orI_lt (s := t) (r := b) (n := 6) i3 g1 (by omega) (by omega) i4
  have hs := fun t t0 t1 => bitI_or (s := s) (r := y) (t := t) i1 (by omega) e1 (by omega) t0 t1
  have ht := fun t' t0 t1 => bitI_or (s := t) (r := b) (t := t') i3 (by omega) g1 (by omega) t0 t1
  refine ⟨⟨o1.1, o1.2.2, o2.1, o2.2.2, by rw [bits_or i1 (by omega) e1 (by omega) e3, i5]⟩, ?_, ?_, ?_, ?_⟩
  · intro p p0 p1 hp1
    rw [hs p p0 (by omega)] at hp1
    by_cases c : p = y
    · rw [c, up1_s]
      refine Or.inr ⟨g1, g2, ?_, fun r r0 r1 r2 => ?_⟩
      · rintro ⟨x, x0, x1, x2, x3⟩
        have xy : x ≠ y := fun z => by rw [z] at x2; omega
        rw [up1_n xy] at x3
        rcases bitI_01 s x with cx | cx
        · have := e4 x x0 x1 cx; omega
        · exact g3 ((iE b g1 g2).mpr ⟨x, x0, x1, cx, x3⟩)
      · refine g4 r r0 r1 (fun z => r2 ?_)
        obtain ⟨x, x0, x1, x2, x3⟩ := (iE r r0 r1).mp z
        have xy : x ≠ y := fun z => by rw [z] at x2; omega
        exact ⟨x, x0, x1, iC y x e1 e2 x0 x1 x2 e3, by rw [up1_n xy]; exact x3⟩
    · rw [if_neg c] at hp1
      rw [up1_n c]
      have hy := iC y p e1 e2 p0 p1 hp1 e3
      have q : ∀ x, kyS D x < kyS D p → up1 f y b x = f x := fun x hx => up1_n (fun z => by rw [z] at hx; omega)
      have tt : ∀ r, (∃ x, 0 ≤ x ∧ x < D 1 ∧ kyS D x < kyS D p ∧ f x = r) ↔ (∃ x, 0 ≤ x ∧ x < D 1 ∧ kyS D x < kyS D p ∧ up1 f y b x = r) := by
        intro r
        constructor
        · rintro ⟨x, x0, x1, x2, x3⟩
          exact ⟨x, x0, x1, x2, by rw [q x x2]; exact x3⟩
        · rintro ⟨x, x0, x1, x2, x3⟩
          exact ⟨x, x0, x1, x2, by rw [← q x x2]; exact x3⟩
      rcases iA p p0 p1 hp1 with ⟨h1, h2⟩ | ⟨h1, h2, h3, h4⟩
      · exact Or.inl ⟨h1, fun r r0 r1 => (tt r).mp (h2 r r0 r1)⟩
      · exact Or.inr ⟨h1, h2, fun z => h3 ((tt _).mpr z), fun r r0 r1 r2 => h4 r r0 r1 (fun z => r2 ((tt r).mp z))⟩
  · intro p p0 p1 hp1
    rw [hs p p0 (by omega)] at hp1
    by_cases c : p = y
    · rw [if_pos c] at hp1; omega
    · rw [if_neg c] at hp1
      rw [up1_n c]
      exact iB p p0 p1 hp1
  · intro x p x0 x1 p0 p1 hp1 hx
    rw [hs p p0 (by omega)] at hp1
    rw [hs x x0 (by omega)] at hx
    by_cases cx : x = y
    · rw [if_pos cx] at hx; omega
    · rw [if_neg cx] at hx
      by_cases c : p = y
      · rw [c]
        have := e4 x x0 x1 hx
        have : kyS D x ≠ kyS D y := fun z => cx (ky_inj O x0 x1 e1 e2 z)
        omega
      · rw [if_neg c] at hp1
        exact iC x p x0 x1 p0 p1 hp1 hx
  · intro r r0 r1
    rw [ht r r0 (by omega)]
    constructor
    · intro hr
      by_cases c : r = b
      · exact ⟨y, e1, e2, by rw [hs y e1 (by omega), if_pos rfl], by rw [up1_s]; exact c.symm⟩
      · rw [if_neg c] at hr
        obtain ⟨x, x0, x1, x2, x3⟩ := (iE r r0 r1).mp hr
        have xy : x ≠ y := fun z => by rw [z] at x2; omega
        exact ⟨x, x0, x1, by rw [hs x x0 (by omega), if_neg xy]; exact x2, by rw [up1_n xy]; exact x3⟩
    · rintro ⟨x, x0, x1, x2, x3⟩
      by_cases xy : x = y
      · rw [xy, up1_s] at x3
        rw [if_pos x3.symm]
      · rw [up1_n xy] at x3
        rw [hs x x0 (by omega), if_neg xy] at x2
        split
        · rfl
        · exact (iE r r0 r1).mpr ⟨x, x0, x1, x2, x3⟩
theorem sha_own {D : Int → Int} (O : dOK D) : ∀ (j : Nat) (k s t : Int) (f : Int → Int), k + j = D 1 → shaI D k s t f → ownP D (shaF D j s t f) := by
  have b0 := O.1
  have b1 := O.2.1
  have pw := pw_le (n := D 1) (by omega)
  intro j
  induction j with
  | zero =>
    rintro k s t f hk ⟨⟨i1, i2, i3, i4, i5⟩, iA, iB, iC, iE⟩ p p0 p1
    exact iA p p0 p1 (bits_full (by omega) (by omega) i1 i2 (by omega) p p0 p1)
  | succ j ih =>
    intro k s t f hk hi
    obtain ⟨⟨i1, i2, i3, i4, i5⟩, iA, iB, iC, iE⟩ := id hi
    rw [shaF]
    rcases str_spec O s with ⟨e1, e2⟩ | ⟨e1, e2, e3, e4⟩
    · rw [if_pos (Or.inl e1)]
      intro p p0 p1
      exact iA p p0 p1 (e2 p p0 p1)
    · generalize hp : strS D s = y at *
      rcases bst_spec O y t with ⟨g1, g2⟩ | ⟨g1, g2, g3, g4⟩
      · rw [if_pos (Or.inr g1)]
        intro p p0 p1
        rcases bitI_01 s p with c | c
        · refine Or.inl ⟨iB p p0 p1 c, fun r r0 r1 => ?_⟩
          obtain ⟨x, x0, x1, x2, x3⟩ := (iE r r0 r1).mp (g2 r r0 r1)
          exact ⟨x, x0, x1, iC p x p0 p1 x0 x1 x2 c, x3⟩
        · exact iA p p0 p1 c
      · generalize hb : bstS D y t = b at *
        rw [if_neg (by omega)]
        exact ih (k + 1) _ _ _ (by omega) (shaI_n O hi e1 e2 e3 e4 g1 g2 g3 g4)
theorem shaI_0 {D : Int → Int} (O : dOK D) {f : Int → Int} (hf : ∀ p, 0 ≤ p → p < D 1 → f p = -1) : shaI D 0 0 0 f := by
  have b1 := O.2.1
  have pw := pw_le (n := D 1) (by omega)
  have z : ∀ r, bitI 0 r ≠ 1 := fun r => by rw [bitI_0]; omega
  refine ⟨⟨by omega, by omega, by omega, by omega, rfl⟩, fun p _ _ h => absurd h (z p), fun p p0 p1 _ => hf p p0 p1, fun x p _ _ _ _ h => absurd h (z p), fun r _ _ => ⟨fun h => absurd h (z r), ?_⟩⟩
  rintro ⟨x, _, _, x2, _⟩
  exact absurd x2 (z x)
theorem ownS_P {D : Int → Int} (O : dOK D) : ownP D (ownS D) := by
  have b1 := O.2.1
  exact sha_own O _ 0 0 0 _ (by omega) (shaI_0 O (fun _ _ _ => rfl))
theorem own_rng {D f : Int → Int} (O : dOK D) (h : ownP D f) {p : Int} (p0 : 0 ≤ p) (p1 : p < D 1) : -1 ≤ f p ∧ f p < 6 := by
  have b0 := O.1
  rcases h p p0 p1 with g | g <;> omega
