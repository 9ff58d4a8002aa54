/-! favour: sets of reeds that were used -/
def mgF (P : Int → Bool) (v : Int → Int) (r b : Int) : Int := if P r = true then (if b < v r then v r else b) else b
theorem mg_spec (P : Int → Bool) (v : Int → Int) (lo n : Int) (n0 : 0 ≤ n) : (lo ≤ foldF (mgF P v) 0 n.toNat lo) ∧ (∀ q, 0 ≤ q → q < n → P q = true → v q ≤ foldF (mgF P v) 0 n.toNat lo) ∧ (foldF (mgF P v) 0 n.toNat lo = lo ∨ ∃ q, 0 ≤ q ∧ q < n ∧ P q = true ∧ v q = foldF (mgF P v) 0 n.toNat lo) := by
  have := foldI (mgF P v) (fun k b => lo ≤ b ∧ (∀ q, 0 ≤ q → q < k → P q = true → v q ≤ b) ∧ (b = lo ∨ ∃ q, 0 ≤ q ∧ q < k ∧ P q = true ∧ v q = b)) 0 n n0 (fun k b k0 k1 hi => by
    obtain ⟨h1, h2, h3⟩ := hi
    unfold mgF
    by_cases c : P k = true
    · rw [if_pos c]
      by_cases c2 : b < v k
      · rw [if_pos c2]
        refine ⟨by omega, fun q q0 q1 hq => ?_, Or.inr ⟨k, k0, by omega, c, rfl⟩⟩
        by_cases e : q = k
        · rw [e]; omega
        · have := h2 q q0 (by omega) hq; omega
      · rw [if_neg c2]
        refine ⟨h1, fun q q0 q1 hq => ?_, h3.imp id ?_⟩
        · by_cases e : q = k
          · rw [e]; omega
          · exact h2 q q0 (by omega) hq
        · rintro ⟨q, q0, q1, q2, q3⟩; exact ⟨q, q0, by omega, q2, q3⟩
    · rw [if_neg c]
      refine ⟨h1, fun q q0 q1 hq => ?_, h3.imp id ?_⟩
      · by_cases e : q = k
        · rw [e] at hq; exact absurd hq c
        · exact h2 q q0 (by omega) hq
      · rintro ⟨q, q0, q1, q2, q3⟩; exact ⟨q, q0, by omega, q2, q3⟩) lo ⟨by omega, fun q _ _ => by omega, Or.inl rfl⟩
  rw [Int.sub_zero] at this
  exact this
def gnS (D : Int → Int) (p x q r : Int) : Int := if ansS D r p q = x then 1 else 0
def fvP (D : Int → Int) (p x q s : Int) (r : Int) : Bool := decide (r < D 0) && decide (ansS D r p q = x) && decide (bitI s r = 0)
def favW (D : Int → Int) (p x : Int) : Nat → Int → Int
  | 0, _ => 0
  | j + 1, s => foldF (mgF (fvP D p x (D 2 - (j + 1)) s) (fun r => 1 + favW D p x j (orI s r))) 0 6 (favW D p x j s)
def favS (D : Int → Int) (p x q s : Int) : Int := favW D p x (D 2 - q).toNat s
def fvQP (D : Int → Int) (p x q s : Int) (r : Int) : Bool := decide (bitI s r = 0) && decide (gnS D p x q r + favS D p x (q + 1) (orI s r) = favS D p x q s)
def favQ (D : Int → Int) (p x q s : Int) : Int := if fstF (fvQP D p x q s) 0 (D 0).toNat = -1 then 6 else fstF (fvQP D p x q s) 0 (D 0).toNat
def favK (D : Int → Int) (p x : Int) : Nat → Int → Int → Int
  | 0, q, s => favQ D p x q s
  | j + 1, q, s => favK D p x j (q + 1) (if favQ D p x q s = 6 then s else orI s (favQ D p x q s))
theorem orI_comm {s r t : Int} (s0 : 0 ≤ s) (s1 : s < 64) (r0 : 0 ≤ r) (r1 : r < 6) (t0 : 0 ≤ t) (t1 : t < 6) : orI (orI s r) t = orI (orI s t) r := by
  have o1 := orI_lt (s := s) (r := r) (n := 6) s0 r0 (by omega) (by omega) s1
  have o2 := orI_lt (s := s) (r := t) (n := 6) s0 t0 (by omega) (by omega) s1
  have o3 := orI_lt (s := orI s r) (r := t) (n := 6) o1.1 t0 (by omega) (by omega) o1.2.2
  have o4 := orI_lt (s := orI s t) (r := r) (n := 6) o2.1 r0 (by omega) (by omega) o2.2.2
  have e6 : (2 : Int) ^ Int.toNat 6 = 64 := rfl
  rw [e6] at o1 o2 o3 o4
  refine bits_ext o3.1 (by omega) o4.1 (by omega) (fun i i0 i1 => ?_)
  rw [bitI_or o1.1 (by omega) t0 (by omega) i0 i1, bitI_or s0 (by omega) r0 (by omega) i0 i1, bitI_or o2.1 (by omega) r0 (by omega) i0 i1, bitI_or s0 (by omega) t0 (by omega) i0 i1]
  by_cases c1 : i = t <;> by_cases c2 : i = r <;> simp only [c1, c2, if_true, if_false] <;> split <;> rfl
theorem favW_rng (D : Int → Int) (p x : Int) : ∀ (j : Nat) (s : Int), 0 ≤ favW D p x j s ∧ favW D p x j s ≤ j := by
  intro j
  induction j with
  | zero => intro s; rw [favW]; omega
  | succ j ih =>
    intro s
    rw [favW]
    obtain ⟨g1, g2, g3⟩ := mg_spec (fvP D p x (D 2 - (j + 1)) s) (fun r => 1 + favW D p x j (orI s r)) (favW D p x j s) 6 (by omega)
    rw [show (6 : Int).toNat = 6 from rfl] at g1 g2 g3
    have := ih s
    refine ⟨by omega, ?_⟩
    rcases g3 with g3 | ⟨q, _, _, _, g3⟩
    · omega
    · rw [← g3]
      have := ih (orI s q)
      omega
theorem favW_mono (D : Int → Int) (p x : Int) : ∀ (j : Nat) (s r : Int), 0 ≤ s → s < 64 → 0 ≤ r → r < 6 → favW D p x j (orI s r) ≤ favW D p x j s := by
  intro j
  induction j with
  | zero => intro s r _ _ _ _; rw [favW, favW]; omega
  | succ j ih =>
    intro s r s0 s1 r0 r1
    rw [favW, favW]
    have o1 := orI_lt (s := s) (r := r) (n := 6) s0 r0 (by omega) (by omega) s1
    obtain ⟨g1, g2, g3⟩ := mg_spec (fvP D p x (D 2 - (j + 1)) s) (fun r => 1 + favW D p x j (orI s r)) (favW D p x j s) 6 (by omega)
    obtain ⟨k1, k2, k3⟩ := mg_spec (fvP D p x (D 2 - (j + 1)) (orI s r)) (fun t => 1 + favW D p x j (orI (orI s r) t)) (favW D p x j (orI s r)) 6 (by omega)
    rw [show (6 : Int).toNat = 6 from rfl] at g1 g2 g3 k1 k2 k3
    rcases k3 with k3 | ⟨t, t0, t1, t2, t3⟩
    · rw [k3]
      have := ih s r s0 s1 r0 r1
      omega
    · rw [← t3]
      have o2 := orI_lt (s := s) (r := t) (n := 6) s0 t0 (by omega) (by omega) s1
      rw [orI_comm s0 s1 r0 r1 t0 t1]
      have h1 := ih (orI s t) r o2.1 o2.2.2 r0 r1
      have h2 := g2 t t0 t1 (by
        unfold fvP at t2 ⊢
        rw [bitI_or s0 (by omega) r0 (by omega) t0 (by omega)] at t2
        rw [Bool.and_eq_true] at t2 ⊢
        refine ⟨t2.1, decide_eq_true ?_⟩
        have := of_decide_eq_true t2.2
        by_cases c : t = r
        · rw [if_pos c] at this; omega
        · rw [if_neg c] at this; exact this)
      omega
section A19
variable {h : zHeap} {F : Nat → Nat → Int} {C : Nat → Int → Int} {a : Nat} {D : Int → Int}
theorem favS_rng (O : dOK D) (p x : Int) {q : Int} (q0 : 0 ≤ q) (s : Int) : 0 ≤ favS D p x q s ∧ favS D p x q s ≤ 8 := by
  have b2 := O.2.2.1
  have := favW_rng D p x (D 2 - q).toNat s
  unfold favS
  omega
theorem favS_n (p x s : Int) : favS D p x (D 2) s = 0 := by unfold favS; rw [show (D 2 - D 2).toNat = 0 by omega]; rfl
theorem favS_eq {p x q s : Int} (q0 : 0 ≤ q) (q1 : q < D 2) : favS D p x q s = foldF (mgF (fvP D p x q s) (fun r => 1 + favS D p x (q + 1) (orI s r))) 0 6 (favS D p x (q + 1) s) := by
  unfold favS
  rw [show (D 2 - q).toNat = (D 2 - (q + 1)).toNat + 1 by omega, favW, show D 2 - (((D 2 - (q + 1)).toNat : Int) + 1) = q by omega]
theorem fav_none {p x q s : Int} (O : dOK D) (q0 : 0 ≤ q) (q1 : q < D 2) (hn : ∀ r, 0 ≤ r → r < D 0 → fvQP D p x q s r = false) : favS D p x (q + 1) s = favS D p x q s := by
  obtain ⟨g1, g2, g3⟩ := mg_spec (fvP D p x q s) (fun r => 1 + favS D p x (q + 1) (orI s r)) (favS D p x (q + 1) s) 6 (by omega)
  rw [show (6 : Int).toNat = 6 from rfl, ← favS_eq q0 q1] at g1 g2 g3
  rcases g3 with g3 | ⟨t, t0, t1, t2, t3⟩
  · exact g3.symm
  · unfold fvP at t2
    rw [Bool.and_eq_true, Bool.and_eq_true] at t2
    have := hn t t0 (of_decide_eq_true t2.1.1)
    unfold fvQP gnS at this
    rw [if_pos (of_decide_eq_true t2.1.2), t2.2, Bool.true_and, decide_eq_true t3] at this
    cases this
def mfP (D : Int → Int) (s r : Int) : Bool := decide (r = 6) || decide (r < D 0) && decide (bitI s r = 0)
def mfV (D : Int → Int) (p x q s r : Int) : Int := if r = 6 then favS D p x (q + 1) s else gnS D p x q r + favS D p x (q + 1) (orI s r)
theorem mf_fav {p x q s : Int} (O : dOK D) (q0 : 0 ≤ q) (q1 : q < D 2) (s0 : 0 ≤ s) (s1 : s < 64) : foldF (mgF (mfP D s) (mfV D p x q s)) 0 7 0 = favS D p x q s := by
  have b0 := O.1
  obtain ⟨g1, g2, g3⟩ := mg_spec (fvP D p x q s) (fun r => 1 + favS D p x (q + 1) (orI s r)) (favS D p x (q + 1) s) 6 (by omega)
  rw [show (6 : Int).toNat = 6 from rfl, ← favS_eq q0 q1] at g1 g2 g3
  obtain ⟨k1, k2, k3⟩ := mg_spec (mfP D s) (mfV D p x q s) 0 7 (by omega)
  rw [show (7 : Int).toNat = 7 from rfl] at k1 k2 k3
  have r0 := favS_rng O p x (q := q + 1) (by omega) s
  have a1 : favS D p x q s ≤ foldF (mgF (mfP D s) (mfV D p x q s)) 0 7 0 := by
    rcases g3 with g3 | ⟨t, t0, t1, t2, t3⟩
    · have := k2 6 (by omega) (by omega) (by unfold mfP; rfl)
      unfold mfV at this
      rw [if_pos rfl] at this
      rw [g3]; exact this
    · unfold fvP at t2
      rw [Bool.and_eq_true, Bool.and_eq_true] at t2
      have := k2 t t0 (by omega) (by unfold mfP; rw [t2.1.1, t2.2]; simp)
      unfold mfV gnS at this
      rw [if_neg (by omega), if_pos (of_decide_eq_true t2.1.2)] at this
      rw [← t3]; exact this
  have a2 : foldF (mgF (mfP D s) (mfV D p x q s)) 0 7 0 ≤ favS D p x q s := by
    rcases k3 with k3 | ⟨t, t0, t1, t2, t3⟩
    · omega
    · rw [← t3]
      unfold mfV
      by_cases c : t = 6
      · rw [if_pos c]; exact g1
      · rw [if_neg c]
        unfold mfP at t2
        rw [decide_eq_false c, Bool.false_or, Bool.and_eq_true] at t2
        unfold gnS
        by_cases c2 : ansS D t p q = x
        · rw [if_pos c2]
          exact g2 t t0 (by omega) (by unfold fvP; rw [t2.1, t2.2, decide_eq_true c2]; rfl)
        · rw [if_neg c2]
          have := favW_mono D p x (D 2 - (q + 1)).toNat s t s0 s1 t0 (by omega)
          unfold favS at g1 ⊢
          omega
  omega
theorem b_andn_t : ∀ x : Nat, x < 64 → ∀ s : Nat, s < 64 → i32 (x : Int) &&& (i32 (s : Int) ^^^ i32 (-1)) = i32 ((x &&& (63 - s) : Nat) : Int) := by decide +kernel
theorem b_63_t : ∀ s : Nat, s < 64 → ∀ r : Nat, r < 6 → (63 - s) / 2 ^ r % 2 = 1 - s / 2 ^ r % 2 := by decide +kernel
theorem b_andn {x s : Int} (x0 : 0 ≤ x) (x1 : x < 64) (s0 : 0 ≤ s) (s1 : s < 64) : i32 x &&& (i32 s ^^^ i32 (-1)) = i32 (ands x (63 - s)) := by
  obtain ⟨n, rfl⟩ := Int.eq_ofNat_of_zero_le x0
  obtain ⟨m, rfl⟩ := Int.eq_ofNat_of_zero_le s0
  rw [b_andn_t n (by omega) m (by omega)]
  unfold ands
  rw [Int.toNat_natCast, show ((63 : Int) - (m : Int)).toNat = 63 - m by omega]
theorem bit_andn {x s r : Int} (x0 : 0 ≤ x) (s0 : 0 ≤ s) (s1 : s < 64) (r0 : 0 ≤ r) (r1 : r < 6) : bitI (ands x (63 - s)) r = if bitI x r = 1 ∧ bitI s r = 0 then 1 else 0 := by
  have e : bitI (63 - s) r = 1 - bitI s r := by
    obtain ⟨m, rfl⟩ := Int.eq_ofNat_of_zero_le s0
    obtain ⟨n, rfl⟩ := Int.eq_ofNat_of_zero_le r0
    rw [show (63 : Int) - (m : Int) = ((63 - m : Nat) : Int) by omega, bitI_nat, bitI_nat, b_63_t m (by omega) n (by omega)]
    omega
  rw [bitI_ands x0 (by omega) r0, e]
  rcases bitI_01 s r with c | c
  · rw [c]; simp
  · rw [c]; simp
end A19
