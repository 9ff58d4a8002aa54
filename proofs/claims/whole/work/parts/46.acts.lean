/-! ways of acts: states 0 to 799, acts 0 to 4 -/
def rchB (nx : Int → Int → Int) (G : Int → Bool) : Nat → Int → Bool
  | 0, s => G s
  | n + 1, s => exB (fun a => rchB nx G n (nx s a)) 5
def dS (nx : Int → Int → Int) (G : Int → Bool) (s : Int) : Int := fstF (fun n => rchB nx G n.toNat s) 0 11
def rdyA (nx : Int → Int → Int) (G : Int → Bool) (s : Int) : Int := fstF (fun a => decide (dS nx G (nx s a) = dS nx G s - 1)) 0 5
def rdyK (nx : Int → Int → Int) (G : Int → Bool) : Nat → Int → Int
  | 0, s => rdyA nx G s
  | j + 1, s => rdyK nx G j (nx s (rdyA nx G s))
def rdyS (nx : Int → Int → Int) (G : Int → Bool) (s k : Int) : Int := if k = -1 then dS nx G s else if 0 ≤ k ∧ k < dS nx G s then rdyK nx G k.toNat s else -1
def nxOK (nx : Int → Int → Int) : Prop := ∀ s a, 0 ≤ s → s < 800 → 0 ≤ a → a < 5 → 0 ≤ nx s a ∧ nx s a < 800
def rOK (nx : Int → Int → Int) (G : Int → Bool) : Prop := (∃ s, 0 ≤ s ∧ s < 800 ∧ G s = true) → ∀ s, 0 ≤ s → s < 800 → ∃ n : Nat, n ≤ 10 ∧ rchB nx G n s = true
section AC
variable {nx : Int → Int → Int} {G : Int → Bool}
theorem rch_G (hN : nxOK nx) : ∀ (n : Nat) (s : Int), 0 ≤ s → s < 800 → rchB nx G n s = true → ∃ t, 0 ≤ t ∧ t < 800 ∧ G t = true := by
  intro n
  induction n with
  | zero => intro s s0 s1 h; exact ⟨s, s0, s1, h⟩
  | succ n ih =>
    intro s s0 s1 h
    obtain ⟨a, a0, a1, ha⟩ := (exB_iff _ _).mp h
    have := hN s a s0 s1 a0 a1
    exact ih _ this.1 this.2 ha
theorem dS_spec (nx : Int → Int → Int) (G : Int → Bool) (s : Int) : (dS nx G s = -1 ∧ ∀ n : Nat, n ≤ 10 → rchB nx G n s = false) ∨ (0 ≤ dS nx G s ∧ dS nx G s ≤ 10 ∧ rchB nx G (dS nx G s).toNat s = true ∧ ∀ n : Nat, (n : Int) < dS nx G s → rchB nx G n s = false) := by
  rcases fstF_spec (fun n => rchB nx G n.toNat s) 11 0 (by omega) with ⟨k1, k2⟩ | ⟨k1, k2, k3, k4⟩
  · exact Or.inl ⟨k1, fun n hn => by have := k2 n (by omega) (by omega); rwa [Int.toNat_natCast] at this⟩
  · exact Or.inr ⟨k1, by unfold dS; omega, k3, fun n hn => by have := k4 n (by omega) hn; rwa [Int.toNat_natCast] at this⟩
theorem dS_eq {s : Int} {m : Nat} (hm : m ≤ 10) (h1 : rchB nx G m s = true) (h2 : ∀ n : Nat, n < m → rchB nx G n s = false) : dS nx G s = m := by
  rcases dS_spec nx G s with ⟨_, k2⟩ | ⟨k1, k2, k3, k4⟩
  · rw [k2 m hm] at h1; cases h1
  · rcases (show dS nx G s < m ∨ dS nx G s = m ∨ (m : Int) < dS nx G s by omega) with c | c | c
    · rw [h2 _ (by omega)] at k3; cases k3
    · exact c
    · rw [k4 m c] at h1; cases h1
theorem rdyA_spec {s : Int} (h : 0 < dS nx G s) : 0 ≤ rdyA nx G s ∧ rdyA nx G s < 5 ∧ dS nx G (nx s (rdyA nx G s)) = dS nx G s - 1 := by
  rcases fstF_spec (fun a => decide (dS nx G (nx s a) = dS nx G s - 1)) 5 0 (by omega) with ⟨k1, k2⟩ | ⟨k1, k2, k3, k4⟩
  · exfalso
    rcases dS_spec nx G s with ⟨e, _⟩ | ⟨e1, e2, e3, e4⟩
    · omega
    · obtain ⟨m, hm⟩ : ∃ m : Nat, (dS nx G s).toNat = m + 1 := ⟨(dS nx G s).toNat - 1, by omega⟩
      rw [hm] at e3
      obtain ⟨a, a0, a1, ha⟩ := (exB_iff _ _).mp e3
      have := of_decide_eq_false (k2 a a0 (by omega))
      refine this ?_
      rw [dS_eq (m := m) (by omega) ha (fun n hn => ?_)]
      · omega
      · cases c : rchB nx G n (nx s a) with
        | false => rfl
        | true =>
          have h1 : rchB nx G (n + 1) s = true := (exB_iff _ _).mpr ⟨a, a0, a1, c⟩
          rw [e4 (n + 1) (by omega)] at h1
          cases h1
  · exact ⟨k1, by unfold rdyA; omega, of_decide_eq_true k3⟩
/-- numbers that fit with each other are the least -/
theorem act_d (hN : nxOK nx) (hR : rOK nx G) {A : Int → Int} (h1 : ∀ s, 0 ≤ s → s < 800 → A s = 99999 ∨ (0 ≤ A s ∧ A s < 99999 ∧ rchB nx G (A s).toNat s = true)) (h2 : ∀ s, 0 ≤ s → s < 800 → G s = true → A s = 0) (h3 : ∀ s a, 0 ≤ s → s < 800 → 0 ≤ a → a < 5 → A s ≤ A (nx s a) + 1) {s : Int} (s0 : 0 ≤ s) (s1 : s < 800) : A s = if dS nx G s = -1 then 99999 else dS nx G s := by
  have up : ∀ (n : Nat) s, 0 ≤ s → s < 800 → rchB nx G n s = true → A s ≤ n := by
    intro n
    induction n with
    | zero => intro s s0 s1 h; rw [h2 s s0 s1 h]; omega
    | succ n ih =>
      intro s s0 s1 h
      obtain ⟨a, a0, a1, ha⟩ := (exB_iff _ _).mp h
      have hn := hN s a s0 s1 a0 a1
      have g1 := ih _ hn.1 hn.2 ha
      have g2 := h3 s a s0 s1 a0 a1
      omega
  rcases dS_spec nx G s with ⟨e1, e2⟩ | ⟨e1, e2, e3, e4⟩
  · rw [if_pos e1]
    rcases h1 s s0 s1 with c | ⟨c1, c2, c3⟩
    · exact c
    · obtain ⟨n, n1, n2⟩ := hR (rch_G hN _ s s0 s1 c3) s s0 s1
      rw [e2 n n1] at n2
      cases n2
  · rw [if_neg (by omega)]
    have g := up _ s s0 s1 e3
    rcases h1 s s0 s1 with c | ⟨c1, c2, c3⟩
    · omega
    · by_cases cc : A s < dS nx G s
      · rw [e4 (A s).toNat (by omega)] at c3; cases c3
      · omega
/-! the search by a queue -/
theorem pigeon : ∀ (n m : Nat) (q : Int → Int), (∀ i : Int, 0 ≤ i → i < m → 0 ≤ q i ∧ q i < n) → (∀ i j : Int, 0 ≤ i → i < j → j < m → q i ≠ q j) → m ≤ n := by
  intro n
  induction n with
  | zero =>
    intro m q h1 _
    refine Nat.le_of_not_lt (fun z => ?_)
    have := h1 0 (by omega) (by omega)
    omega
  | succ n ih =>
    intro m q h1 h2
    by_cases c : ∃ k : Int, 0 ≤ k ∧ k < m ∧ q k = n
    · obtain ⟨k, k0, k1, k2⟩ := c
      have := ih (m - 1) (fun i => if i < k then q i else q (i + 1)) (fun i i0 i1 => by
        by_cases ci : i < k
        · rw [if_pos ci]
          have g := h1 i i0 (by omega)
          have g2 := h2 i k i0 ci k1
          omega
        · rw [if_neg ci]
          have g := h1 (i + 1) (by omega) (by omega)
          have g2 := h2 k (i + 1) k0 (by omega) (by omega)
          omega) (fun i j i0 i1 i2 => by
        by_cases ci : i < k
        · rw [if_pos ci]
          by_cases cj : j < k
          · rw [if_pos cj]; exact h2 i j i0 i1 (by omega)
          · rw [if_neg cj]; exact h2 i (j + 1) i0 (by omega) (by omega)
        · rw [if_neg ci, if_neg (by omega)]; exact h2 (i + 1) (j + 1) (by omega) (by omega) (by omega))
      omega
    · have := ih m q (fun i i0 i1 => by
        have g := h1 i i0 i1
        have : q i ≠ n := fun z => c ⟨i, i0, i1, z⟩
        omega) h2
      omega
def parP (nx : Int → Int → Int) (o q : Int → Int) (i j a : Int) : Prop := 0 ≤ j ∧ j < i ∧ 0 ≤ a ∧ a < 5 ∧ o (q i) = q j * 5 + a ∧ nx (q j) a = q i ∧ ∀ j' b, 0 ≤ j' → 0 ≤ b → b < 5 → (j' < j ∨ (j' = j ∧ b < a)) → ∃ i', 0 ≤ i' ∧ i' < i ∧ q i' = nx (q j') b
def bfI (nx : Int → Int → Int) (st : Int) (o q : Int → Int) (tail head act : Int) : Prop := (0 ≤ head ∧ head ≤ tail ∧ 1 ≤ tail ∧ tail ≤ 800 ∧ q 0 = st ∧ o st = -2) ∧ (∀ i, 0 ≤ i → i < tail → 0 ≤ q i ∧ q i < 800 ∧ o (q i) ≠ -1) ∧ (∀ i j, 0 ≤ i → i < j → j < tail → q i ≠ q j) ∧ (∀ s, 0 ≤ s → s < 800 → o s ≠ -1 → ∃ i, 0 ≤ i ∧ i < tail ∧ q i = s) ∧ (∀ i, 0 < i → i < tail → ∃ j a, (j < head ∨ (j = head ∧ a < act)) ∧ parP nx o q i j a) ∧ (∀ j b, 0 ≤ j → 0 ≤ b → b < 5 → (j < head ∨ (j = head ∧ b < act)) → ∃ i, 0 ≤ i ∧ i < tail ∧ q i = nx (q j) b)
theorem bfI_0 {st : Int} {o q : Int → Int} (s0 : 0 ≤ st) (s1 : st < 800) (hq : q 0 = st) (ho : ∀ s, 0 ≤ s → s < 800 → o s = if s = st then -2 else -1) : bfI nx st o q 1 0 0 := by
  have e : o st = -2 := by rw [ho st s0 s1, if_pos rfl]
  refine ⟨⟨by omega, by omega, by omega, by omega, hq, e⟩, fun i i0 i1 => ?_, fun i j i0 i1 i2 => by omega, fun s t0 t1 hs => ?_, fun i i0 i1 => by omega, fun j b j0 b0 b1 hj => by omega⟩
  · rw [show i = 0 by omega, hq]; exact ⟨s0, s1, by omega⟩
  · refine ⟨0, by omega, by omega, ?_⟩
    rw [hq]
    by_cases c : s = st
    · exact c.symm
    · rw [ho s t0 t1, if_neg c] at hs; exact absurd rfl hs
theorem bfI_seen {st : Int} {o q : Int → Int} {tail head act : Int} (hN : nxOK nx) (I : bfI nx st o q tail head act) (hh : head < tail) (a0 : 0 ≤ act) (a1 : act < 5) (hs : o (nx (q head) act) ≠ -1) : bfI nx st o q tail head (act + 1) := by
  obtain ⟨i1, i2, i3, i4, i5, i6⟩ := I
  refine ⟨i1, i2, i3, i4, fun i x0 x1 => ?_, fun j b j0 b0 b1 hj => ?_⟩
  · obtain ⟨j, a, g1, g2⟩ := i5 i x0 x1
    exact ⟨j, a, by omega, g2⟩
  · by_cases c : j = head ∧ b = act
    · rw [c.1, c.2]
      have q1 := i2 head (by omega) hh
      have := hN (q head) act q1.1 q1.2.1 a0 a1
      exact i4 _ this.1 this.2 hs
    · exact i6 j b j0 b0 b1 (by omega)
theorem bfI_room {st : Int} {o q : Int → Int} {tail head act t : Int} (I : bfI nx st o q tail head act) (t0 : 0 ≤ t) (t1 : t < 800) (ht : o t = -1) : tail < 800 := by
  obtain ⟨i1, i2, i3, i4, i5, i6⟩ := I
  have := pigeon 800 (tail + 1).toNat (up1 q tail t) (fun i x0 x1 => by
    by_cases c : i = tail
    · rw [c, up1_s]; omega
    · rw [up1_n c]
      have := i2 i x0 (by omega)
      omega) (fun i j x0 x1 x2 => by
    rw [up1_n (show i ≠ tail by omega)]
    by_cases c : j = tail
    · rw [c, up1_s]
      intro z
      have := (i2 i x0 (by omega)).2.2
      rw [z] at this
      exact this ht
    · rw [up1_n c]; exact i3 i j x0 x1 (by omega))
  omega
theorem bfI_new {st : Int} {o q : Int → Int} {tail head act : Int} (hN : nxOK nx) (I : bfI nx st o q tail head act) (hh : head < tail) (a0 : 0 ≤ act) (a1 : act < 5) (hs : o (nx (q head) act) = -1) : bfI nx st (up1 o (nx (q head) act) (q head * 5 + act)) (up1 q tail (nx (q head) act)) (tail + 1) head (act + 1) := by
  have q1 := I.2.1 head I.1.1 hh
  have qn := hN (q head) act q1.1 q1.2.1 a0 a1
  have rm := bfI_room I qn.1 qn.2 hs
  obtain ⟨i1, i2, i3, i4, i5, i6⟩ := I
  have ne : ∀ i, 0 ≤ i → i < tail → q i ≠ nx (q head) act := fun i x0 x1 z => by
    have := (i2 i x0 x1).2.2
    rw [z] at this
    exact this hs
  have qq : ∀ i, i < tail → up1 q tail (nx (q head) act) i = q i := fun i x => up1_n (by omega)
  refine ⟨⟨i1.1, by omega, by omega, by omega, ?_, ?_⟩, fun i x0 x1 => ?_, fun i j x0 x1 x2 => ?_, fun s t0 t1 hs2 => ?_, fun i x0 x1 => ?_, fun j b j0 b0 b1 hj => ?_⟩
  · rw [qq 0 (by omega)]; exact i1.2.2.2.2.1
  · rw [up1_n (by rw [← i1.2.2.2.2.1]; exact ne 0 (by omega) (by omega))]; exact i1.2.2.2.2.2
  · by_cases c : i = tail
    · rw [c, up1_s, up1_s]; omega
    · rw [qq i (by omega), up1_n (ne i x0 (by omega))]; exact i2 i x0 (by omega)
  · rw [qq i (by omega)]
    by_cases c : j = tail
    · rw [c, up1_s]; exact ne i x0 (by omega)
    · rw [qq j (by omega)]; exact i3 i j x0 x1 (by omega)
  · by_cases c : s = nx (q head) act
    · exact ⟨tail, by omega, by omega, by rw [up1_s]; exact c.symm⟩
    · rw [up1_n c] at hs2
      obtain ⟨i, x0, x1, x2⟩ := i4 s t0 t1 hs2
      exact ⟨i, x0, by omega, by rw [qq i x1]; exact x2⟩
  · by_cases c : i = tail
    · refine ⟨head, act, Or.inr ⟨rfl, by omega⟩, i1.1, by omega, a0, a1, ?_, ?_, fun j' b j0 b0 b1 hj => ?_⟩
      · rw [c, up1_s, up1_s, qq head hh]
      · rw [c, up1_s, qq head hh]
      · obtain ⟨i', z0, z1, z2⟩ := i6 j' b j0 b0 b1 hj
        exact ⟨i', z0, by omega, by rw [qq i' z1, qq j' (by omega)]; exact z2⟩
    · obtain ⟨j, a, g1, g2, g3, g4, g5, g6, g7, g8⟩ := i5 i x0 (by omega)
      refine ⟨j, a, by omega, g2, g3, g4, g5, ?_, ?_, fun j' b j0 b0 b1 hj => ?_⟩
      · rw [qq i (by omega), up1_n (ne i (by omega) (by omega)), qq j (by omega)]; exact g6
      · rw [qq i (by omega), qq j (by omega)]; exact g7
      · obtain ⟨i', z0, z1, z2⟩ := g8 j' b j0 b0 b1 hj
        exact ⟨i', z0, z1, by rw [qq i' (by omega), qq j' (by omega)]; exact z2⟩
  · by_cases c : j = head ∧ b = act
    · exact ⟨tail, by omega, by omega, by rw [up1_s, c.1, c.2, qq head hh]⟩
    · obtain ⟨i, z0, z1, z2⟩ := i6 j b j0 b0 b1 (by omega)
      exact ⟨i, z0, by omega, by rw [qq i z1, qq j (by omega)]; exact z2⟩
theorem bfI_next {st : Int} {o q : Int → Int} {tail head : Int} (I : bfI nx st o q tail head 5) (hh : head < tail) : bfI nx st o q tail (head + 1) 0 := by
  obtain ⟨i1, i2, i3, i4, i5, i6⟩ := I
  refine ⟨⟨by omega, by omega, i1.2.2⟩, i2, i3, i4, fun i x0 x1 => ?_, fun j b j0 b0 b1 hj => i6 j b j0 b0 b1 (by omega)⟩
  obtain ⟨j, a, g1, g2⟩ := i5 i x0 x1
  exact ⟨j, a, by omega, g2⟩
/-- a goal is met before the queue ends -/
theorem bfI_end (hN : nxOK nx) (hR : rOK nx G) {st : Int} {o q : Int → Int} {tail : Int} (I : bfI nx st o q tail tail 0) (hG : ∃ s, 0 ≤ s ∧ s < 800 ∧ G s = true) (hn : ∀ j, 0 ≤ j → j < tail → G (q j) = false) : False := by
  obtain ⟨i1, i2, i3, i4, i5, i6⟩ := I
  have key : ∀ (n : Nat) i, 0 ≤ i → i < tail → rchB nx G n (q i) = false := by
    intro n
    induction n with
    | zero => intro i x0 x1; exact hn i x0 x1
    | succ n ih =>
      intro i x0 x1
      refine exB_false.mpr (fun b b0 b1 => ?_)
      obtain ⟨i', z0, z1, z2⟩ := i6 i b x0 b0 b1 (Or.inl x1)
      rw [← z2]
      exact ih i' z0 z1
  have s0 := i2 0 (by omega) (by omega)
  obtain ⟨n, _, hn⟩ := hR hG (q 0) s0.1 s0.2.1
  rw [key n 0 (by omega) (by omega)] at hn
  cases hn
def chn (nx : Int → Int → Int) (o q : Int → Int) (g : Int) : Nat → Int → Prop
  | 0, i => i = g
  | m + 1, j => ∃ i a, chn nx o q g m i ∧ parP nx o q i j a
theorem chn_le {o q : Int → Int} {g : Int} : ∀ (m : Nat) (i : Int), chn nx o q g m i → i + m ≤ g := by
  intro m
  induction m with
  | zero => intro i h; have : i = g := h; omega
  | succ m ih =>
    rintro j ⟨i, a, h1, h2⟩
    have := ih i h1
    have := h2.2.1
    omega
theorem chn_no {o q : Int → Int} {g : Int} (hn : ∀ j, 0 ≤ j → j < g → G (q j) = false) : ∀ (m : Nat) (i : Int), chn nx o q g m i → ∀ (n : Nat) (t : Int), n ≤ m → 0 ≤ t → t < i → rchB nx G n (q t) = false := by
  intro m
  induction m with
  | zero =>
    intro i h n t hnm t0 t1
    have : i = g := h
    rw [show n = 0 by omega]
    exact hn t t0 (by omega)
  | succ m ih =>
    intro j h n t hnm t0 t1
    have hle := chn_le _ _ h
    obtain ⟨i, a, h1, h2⟩ := h
    cases n with
    | zero => exact hn t t0 (by omega)
    | succ n =>
      refine exB_false.mpr (fun b b0 b1 => ?_)
      obtain ⟨i', z0, z1, z2⟩ := h2.2.2.2.2.2.2 t b t0 b0 b1 (Or.inl t1)
      rw [← z2]
      exact ih i h1 n i' (by omega) z0 z1
theorem chn_yes {o q : Int → Int} {g : Int} (hg : G (q g) = true) : ∀ (m : Nat) (i : Int), chn nx o q g m i → rchB nx G m (q i) = true := by
  intro m
  induction m with
  | zero => intro i h; have : i = g := h; rw [this]; exact hg
  | succ m ih =>
    rintro j ⟨i, a, h1, h2⟩
    exact (exB_iff _ _).mpr ⟨a, h2.2.2.1, h2.2.2.2.1, by rw [h2.2.2.2.2.2.1]; exact ih i h1⟩
theorem chn_d {o q : Int → Int} {g : Int} (hR : rOK nx G) (hq : ∀ i, 0 ≤ i → i ≤ g → 0 ≤ q i ∧ q i < 800) (hg : G (q g) = true) (hn : ∀ j, 0 ≤ j → j < g → G (q j) = false) {m : Nat} {i : Int} (i0 : 0 ≤ i) (h : chn nx o q g m i) : dS nx G (q i) = m ∧ m ≤ 10 := by
  have hle := chn_le _ _ h
  have y := chn_yes hg _ _ h
  have n : ∀ n : Nat, n < m → rchB nx G n (q i) = false := by
    intro n hnm
    cases m with
    | zero => omega
    | succ m =>
      obtain ⟨i1, a, h1, h2⟩ := h
      exact chn_no hn m i1 h1 n i (by omega) i0 h2.2.1
  have hm : m ≤ 10 := by
    have g0 := hq g (by omega) (by omega)
    have q0 := hq i i0 (by omega)
    obtain ⟨k, k1, k2⟩ := hR ⟨q g, g0.1, g0.2, hg⟩ (q i) q0.1 q0.2
    refine Nat.le_of_not_lt (fun z => ?_)
    rw [n k (by omega)] at k2
    cases k2
  exact ⟨dS_eq hm y n, hm⟩
theorem chn_a {o q : Int → Int} {g : Int} (hR : rOK nx G) (hq : ∀ i, 0 ≤ i → i ≤ g → 0 ≤ q i ∧ q i < 800) (hg : G (q g) = true) (hn : ∀ j, 0 ≤ j → j < g → G (q j) = false) {m : Nat} {i j a : Int} (h : chn nx o q g m i) (hp : parP nx o q i j a) : rdyA nx G (q j) = a := by
  have d1 := chn_d hR hq hg hn (by have := hp.1; have := hp.2.1; omega) h
  have d2 := chn_d hR hq hg hn hp.1 (m := m + 1) ⟨i, a, h, hp⟩
  obtain ⟨p1, p2, p3, p4, p5, p6, p7⟩ := hp
  have t1 : dS nx G (nx (q j) a) = dS nx G (q j) - 1 := by rw [p6, d1.1, d2.1]; omega
  have t2 : ∀ b, 0 ≤ b → b < a → dS nx G (nx (q j) b) ≠ dS nx G (q j) - 1 := by
    intro b b0 b1 z
    obtain ⟨i', z0, z1, z2⟩ := p7 j b p1 b0 (by omega) (Or.inr ⟨rfl, b1⟩)
    have e := chn_no hn m i h m i' (by omega) z0 z1
    rw [z2] at e
    rw [d2.1] at z
    rcases dS_spec nx G (nx (q j) b) with ⟨k1, _⟩ | ⟨k1, k2, k3, k4⟩
    · omega
    · rw [z, show (((m + 1 : Nat) : Int) - 1).toNat = m by omega] at k3
      rw [k3] at e
      cases e
  rcases fstF_spec (fun a => decide (dS nx G (nx (q j) a) = dS nx G (q j) - 1)) 5 0 (by omega) with ⟨_, k2⟩ | ⟨k1, k2, k3, k4⟩
  · exact absurd t1 (of_decide_eq_false (k2 a p3 (by omega)))
  · have k3 := of_decide_eq_true k3
    show fstF (fun a => decide (dS nx G (nx (q j) a) = dS nx G (q j) - 1)) 0 5 = a
    generalize fstF (fun a => decide (dS nx G (nx (q j) a) = dS nx G (q j) - 1)) 0 5 = y at k1 k2 k3 k4
    rcases (show y < a ∨ y = a ∨ a < y by omega) with c | c | c
    · exact absurd k3 (t2 y k1 c)
    · exact c
    · exact absurd t1 (of_decide_eq_false (k4 a p3 c))
theorem chn_u {o q : Int → Int} {g : Int} (hj : ∀ i j, 0 ≤ i → i < j → j ≤ g → q i ≠ q j) : ∀ (m : Nat) (i i' : Int), chn nx o q g m i → chn nx o q g m i' → i = i' := by
  intro m
  induction m with
  | zero => intro i i' h h'; have e1 : i = g := h; have e2 : i' = g := h'; omega
  | succ m ih =>
    rintro j j' ⟨i, a, h1, h2⟩ ⟨i', a', h1', h2'⟩
    have e := ih i i' h1 h1'
    rw [← e] at h2'
    have hle := chn_le _ _ h1
    obtain ⟨p1, p2, p3, p4, p5, _⟩ := h2
    obtain ⟨r1, r2, r3, r4, r5, _⟩ := h2'
    have qe : q j = q j' := by omega
    rcases (show j < j' ∨ j = j' ∨ j' < j by omega) with c | c | c
    · exact absurd qe (hj j j' p1 c (by omega))
    · exact c
    · exact absurd qe.symm (hj j' j r1 c (by omega))
theorem chn_k {o q : Int → Int} {g : Int} (hR : rOK nx G) (hq : ∀ i, 0 ≤ i → i ≤ g → 0 ≤ q i ∧ q i < 800) (hj : ∀ i j, 0 ≤ i → i < j → j ≤ g → q i ≠ q j) (hg : G (q g) = true) (hn : ∀ j, 0 ≤ j → j < g → G (q j) = false) {m : Nat} {i j a : Int} (h : chn nx o q g m i) (hp : parP nx o q i j a) : ∀ (k : Nat) (J : Int), chn nx o q g (m + 1 + k) J → rdyK nx G k (q J) = a := by
  intro k
  induction k with
  | zero =>
    intro J hJ
    have e := chn_u hj (m + 1) J j hJ ⟨i, a, h, hp⟩
    rw [e, rdyK]
    exact chn_a hR hq hg hn h hp
  | succ k ih =>
    rintro J ⟨i2, a2, h1, h2⟩
    rw [rdyK, chn_a hR hq hg hn h1 h2, h2.2.2.2.2.2.1]
    exact ih i2 h1
end AC
