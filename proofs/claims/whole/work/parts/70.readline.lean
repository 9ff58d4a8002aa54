/-! the class reads a text -/
def hdQ (B : Int → Int) (n l c : Int) (q : Int × Int × Int) : Int × Int × Int := if q.2.1 = 0 ∧ lmF l ≤ c then (nxS B n q.1, 3, q.1) else (nxS B n q.1, q.2)
def mnQ (B : Int → Int) (n : Int) (q : Int × Int × Int) : Int × Int × Int := if q.2.1 = 1 then q else if tK B n q.1 = 0 ∧ (11 ≤ tW B n q.1 ∧ tW B n q.1 ≤ 13) then (nxS B n q.1, q.2) else (q.1, 1, q.1)
def scQ (B : Int → Int) (n : Int) (q : Int × Int × Int) : Int × Int × Int := if q.2.1 = 1 then q else if tK B n q.1 = 2 then (nxS B n q.1, q.2) else (q.1, 1, q.1)
/-- how many there are, by the numbers that are read -/
def cnT (l : Int) (T : Int → Int) : Int := if l = 1 then T 1 else if l = 2 then T 2 else if l = 3 ∨ l = 4 then -1 else T 0
def lnL (B : Int → Int) (n sort s : Int) : Int := if tK B n s = 0 then lnW sort (tW B n s) else -1
def l2Q (B : Int → Int) (n l : Int) (T : Int → Int) (q : Int × Int × Int) : Int × Int × Int := nmQ B n (tbl l) 0 (hdQ B n l (cnT l T) q)
def l3Q (B : Int → Int) (n l : Int) (T : Int → Int) (q : Int × Int × Int) : Int × Int × Int := if l = 4 then mnQ B n (l2Q B n l T q) else l2Q B n l T q
/-- behind a line: the token, the fault, its place; what is read -/
def lnQ (B : Int → Int) (n sort : Int) (T : Int → Int) (q : Int × Int × Int) : Int × Int × Int := if lnL B n sort q.1 = -1 then (q.1, 1, q.1) else scQ B n (l3Q B n (lnL B n sort q.1) T q)
def vlS (B : Int → Int) (n s : Int) : Int → Int := fun j => tN B n (psN B n (nxS B n s) j.toNat)
def lnT (B : Int → Int) (n sort : Int) (T : Int → Int) (q : Int × Int × Int) : Int → Int := if lnL B n sort q.1 = -1 then T else if (l3Q B n (lnL B n sort q.1) T q).2.1 = 0 then kpS (lnL B n sort q.1) (vlS B n q.1) (tW B n (l2Q B n (lnL B n sort q.1) T q).1 - 11) T else T
theorem lnW_rng (sort w : Int) : (lnW sort w = -1) ∨ (sort = 0 ∧ 0 ≤ lnW sort w ∧ lnW sort w ≤ 4) ∨ (sort = 1 ∧ 5 ≤ lnW sort w ∧ lnW sort w ≤ 10) ∨ (sort ≠ 0 ∧ sort ≠ 1 ∧ 11 ≤ lnW sort w ∧ lnW sort w ≤ 12) := by
  unfold lnW
  by_cases c0 : sort = 0
  · rw [if_pos c0]
    (repeat' split) <;> omega
  · rw [if_neg c0]
    by_cases c1 : sort = 1
    · rw [if_pos c1]
      (repeat' split) <;> omega
    · rw [if_neg c1]
      (repeat' split) <;> omega
theorem qI.hd {B : Int → Int} {n l c : Int} {q : Int × Int × Int} (hn : n ≤ 600) (I : qI n q) (hf : q.2.1 ≠ 1) (hs : q.1 < n) : qI n (hdQ B n l c q) ∧ (hdQ B n l c q).2.1 ≠ 1 ∧ (hdQ B n l c q).1 = nxS B n q.1 := by
  obtain ⟨i1, i2, i3, i4, i5⟩ := I
  have nx := nxS_le (B := B) (n := n) (s := q.1) i1.2
  unfold hdQ
  split
  · exact ⟨⟨⟨by dsimp only; omega, by dsimp only; omega⟩, ⟨by dsimp only; omega, by dsimp only; omega⟩, ⟨by dsimp only; omega, by dsimp only; omega⟩, by dsimp only; omega, fun z => by dsimp only at z; omega⟩, by dsimp only; omega, rfl⟩
  · exact ⟨⟨⟨by dsimp only; omega, by dsimp only; omega⟩, i2, i3, by dsimp only; omega, fun z => absurd z hf⟩, hf, rfl⟩
theorem qI.mn {B : Int → Int} {n : Int} {q : Int × Int × Int} (hn : n ≤ 600) (I : qI n q) : qI n (mnQ B n q) := by
  obtain ⟨i1, i2, i3, i4, i5⟩ := I
  have nx := nxS_le (B := B) (n := n) (s := q.1) i1.2
  unfold mnQ
  split
  · exact ⟨i1, i2, i3, i4, i5⟩
  · rename_i c1
    split
    · exact ⟨⟨by dsimp only; omega, by dsimp only; omega⟩, i2, i3, by dsimp only; omega, fun z => absurd z c1⟩
    · exact ⟨i1, ⟨by dsimp only; omega, by dsimp only; omega⟩, ⟨by dsimp only; omega, by dsimp only; omega⟩, Or.inr (Or.inl rfl), fun _ => rfl⟩
theorem qI.sc {B : Int → Int} {n : Int} {q : Int × Int × Int} (hn : n ≤ 600) (I : qI n q) : qI n (scQ B n q) := by
  obtain ⟨i1, i2, i3, i4, i5⟩ := I
  have nx := nxS_le (B := B) (n := n) (s := q.1) i1.2
  unfold scQ
  split
  · exact ⟨i1, i2, i3, i4, i5⟩
  · rename_i c1
    split
    · exact ⟨⟨by dsimp only; omega, by dsimp only; omega⟩, i2, i3, by dsimp only; omega, fun z => absurd z c1⟩
    · exact ⟨i1, ⟨by dsimp only; omega, by dsimp only; omega⟩, ⟨by dsimp only; omega, by dsimp only; omega⟩, Or.inr (Or.inl rfl), fun _ => rfl⟩
theorem tK_lt {B : Int → Int} {n s : Int} (h : tK B n s ≠ 3) : s < n := by
  by_cases z : n ≤ s
  · unfold tK at h; rw [if_pos z] at h; exact absurd rfl h
  · omega
/-- the numbers of a line without a fault lie as they must -/
theorem nmQ_0 {B : Int → Int} {n : Int} : ∀ (r : List (Int × Int × Bool)) (pv : Int) (q : Int × Int × Int), (nmQ B n r pv q).2.1 = 0 → q.2.1 = 0 ∧ ∀ (j : Nat) (hj : j < r.length), (r[j]).1 ≤ tN B n (psN B n q.1 j) ∧ tN B n (psN B n q.1 j) ≤ (r[j]).2.1 ∧ ((r[j]).2.2 = true → tN B n (psN B n q.1 j) ≠ (if j = 0 then pv else tN B n (psN B n q.1 (j - 1)))) := by
  intro r
  induction r with
  | nil => intro pv q h; exact ⟨h, fun j hj => absurd hj (Nat.not_lt_zero _)⟩
  | cons a r ih =>
    intro pv q h
    rw [nmQ] at h
    obtain ⟨h1, h2⟩ := ih _ _ h
    have f1 : (nuQ B n a.1 a.2.1 (if a.2.2 = true then pv else -5) q).2.1 ≠ 1 := by omega
    obtain ⟨g1, g2, g3⟩ := nuQ_ok f1
    have g4 : q.2.1 = 0 ∧ (a.1 ≤ tN B n q.1 ∧ tN B n q.1 ≤ a.2.1 ∧ tN B n q.1 ≠ (if a.2.2 = true then pv else -5)) := by
      unfold nuQ at h1
      rw [if_neg g1, if_pos g2] at h1
      by_cases z : q.2.1 = 0 ∧ ¬ (a.1 ≤ tN B n q.1 ∧ tN B n q.1 ≤ a.2.1 ∧ tN B n q.1 ≠ (if a.2.2 = true then pv else -5))
      · rw [if_pos z] at h1
        have : (2 : Int) = 0 := h1
        omega
      · rw [if_neg z] at h1
        have h0 : q.2.1 = 0 := h1
        refine ⟨h0, ?_⟩
        by_cases y : (a.1 ≤ tN B n q.1 ∧ tN B n q.1 ≤ a.2.1 ∧ tN B n q.1 ≠ (if a.2.2 = true then pv else -5))
        · exact y
        · exact absurd ⟨h0, y⟩ z
    refine ⟨g4.1, fun j hj => ?_⟩
    cases j with
    | zero =>
      refine ⟨g4.2.1, g4.2.2.1, fun z => ?_⟩
      have := g4.2.2.2
      rw [if_pos (show a.2.2 = true from z)] at this
      exact this
    | succ j =>
      have y := h2 j (by simp at hj; omega)
      rw [g3, psN_s] at y
      refine ⟨y.1, y.2.1, fun z => ?_⟩
      have := y.2.2 z
      rw [if_neg (by omega)]
      cases j with
      | zero => rw [if_pos rfl] at this; exact this
      | succ j => rw [if_neg (by omega), psN_s] at this; exact this
section RT
variable {h : zHeap} {F : Nat → Nat → Int} {C : Nat → Int → Int} {B : Int → Int} {n : Int} {q : Int × Int × Int} {T : Int → Int}
theorem vl_at {s : Int} {j : Nat} : vlS B n s (j : Int) = tN B n (psN B n (nxS B n s) j) := by
  unfold vlS
  rw [Int.toNat_natCast]
/-- what is kept of a line that has no fault -/
theorem c_keep (S : St h) (kn : knS h) {sort l m : Int} (q0 : 0 ≤ sort) (q1 : sort ≤ 2) (hl : (sort = 0 ∧ 0 ≤ l ∧ l ≤ 4) ∨ (sort = 1 ∧ 5 ≤ l ∧ l ≤ 10) ∨ (sort = 2 ∧ 11 ≤ l ∧ l ≤ 12)) (D : dtC F C sort 0 T) (hfull : ¬ (lmF l ≤ cnT l T)) (hm : l = 4 → 0 ≤ m ∧ m ≤ 2) {q1' : Int × Int × Int} (hq : (nmQ B n (tbl l) 0 q1').2.1 = 0) (hs : q1'.1 = nxS B n q.1) (hC : ∀ j : Nat, j < (tbl l).length → C 49 (j : Int) = tN B n (psN B n q1'.1 j)) : ∃ F' C', zc 80 [zR (some 35), zI (i32 l), zI (i32 m)] (zw h F C) = some (zI 0, zw h F' C') ∧ kpF F C F' C' ∧ dtC F' C' sort 0 (kpS l (vlS B n q.1) m T) := by
  have V := (nmQ_0 (tbl l) 0 q1' hq).2
  rw [hs] at V hC
  have vl : ∀ j : Nat, tN B n (psN B n (nxS B n q.1) j) = vlS B n q.1 (j : Int) := fun j => vl_at.symm
  obtain ⟨d1, d2, d3, d4⟩ := D
  obtain ⟨d5, d6, d7⟩ := d4 rfl
  rcases hl with ⟨rfl, l0, l1⟩ | ⟨rfl, l0, l1⟩ | ⟨rfl, l0, l1⟩
  · obtain ⟨V0, O0⟩ := d5 rfl
    have fin : ∀ F' C', (duV F' C' 36 (kpS l (vlS B n q.1) m T) ∧ dOK (kpS l (vlS B n q.1) m T)) → ((∀ k a, a ≠ 36 → F' k a = F k a) ∧ (0 ≤ F' 128 36 ∧ F' 128 36 ≤ 6) ∧ (0 ≤ F' 129 36 ∧ F' 129 36 ≤ 4) ∧ (0 ≤ F' 130 36 ∧ F' 130 36 ≤ 8)) → dtC F' C' 0 0 (kpS l (vlS B n q.1) m T) := by
      intro F' C' h1 h2
      refine ⟨h2.2, ?_, ?_, fun _ => ⟨fun _ => h1, fun z => by omega, fun z => by omega⟩⟩
      · rw [h2.1 640 43 (by omega)]; exact d2
      · rw [h2.1 192 45 (by omega)]; exact d3
    rcases (show l = 0 ∨ l = 1 ∨ l = 2 ∨ l = 3 ∨ l = 4 by omega) with rfl | rfl | rfl | rfl | rfl
    · have x0 := V 0 (by decide)
      have x1 := V 1 (by decide)
      rw [vl] at x0 x1
      obtain ⟨F', C', e, k, h1, h2⟩ := k_reed (v := vlS B n q.1) (m := m) S V0 O0 (by have : ¬ (6 ≤ T 0) := hfull; omega) ((hC 0 (by decide)).trans (vl 0)) ((hC 1 (by decide)).trans (vl 1)) ⟨x0.1, x0.2.1⟩ ⟨x1.1, x1.2.1⟩
      exact ⟨F', C', e, k, fin F' C' h1 h2⟩
    · have x0 := V 0 (by decide)
      rw [vl] at x0
      obtain ⟨F', C', e, k, h1, h2⟩ := k_player (v := vlS B n q.1) (m := m) S V0 O0 (by have : ¬ (4 ≤ T 1) := hfull; omega) ((hC 0 (by decide)).trans (vl 0)) ⟨x0.1, x0.2.1⟩
      exact ⟨F', C', e, k, fin F' C' h1 h2⟩
    · have x0 := V 0 (by decide)
      have x1 := V 1 (by decide)
      rw [vl] at x0 x1
      obtain ⟨F', C', e, k, h1, h2⟩ := k_question (v := vlS B n q.1) (m := m) S V0 O0 (by have : ¬ (8 ≤ T 2) := hfull; omega) ((hC 0 (by decide)).trans (vl 0)) ((hC 1 (by decide)).trans (vl 1)) ⟨x0.1, x0.2.1⟩ ⟨x1.1, x1.2.1⟩
      exact ⟨F', C', e, k, fin F' C' h1 h2⟩
    · have x0 := V 0 (by decide)
      rw [vl] at x0
      obtain ⟨F', C', e, k, h1, h2⟩ := k_cold (v := vlS B n q.1) (m := m) S V0 O0 ((hC 0 (by decide)).trans (vl 0)) ⟨x0.1, x0.2.1⟩
      exact ⟨F', C', e, k, fin F' C' h1 h2⟩
    · have x0 := V 0 (by decide)
      rw [vl] at x0
      obtain ⟨F', C', e, k, h1, h2⟩ := k_means (v := vlS B n q.1) S V0 O0 ((hC 0 (by decide)).trans (vl 0)) ⟨x0.1, x0.2.1⟩ (hm rfl)
      exact ⟨F', C', e, k, fin F' C' h1 h2⟩
  · obtain ⟨V0, O0⟩ := d6 rfl
    have hT : T 0 < 40 := by
      have z : ¬ (lmF l ≤ cnT l T) := hfull
      unfold lmF cnT at z
      rw [if_neg (by omega), if_neg (by omega), if_neg (by omega), if_neg (by omega), if_neg (by omega), if_neg (by omega), if_neg (by omega), if_neg (by omega)] at z
      omega
    obtain ⟨tm, t5, tlen⟩ := tbl_ok (l := l) (by omega) (by omega)
    have ha : ∀ i, 0 ≤ i → i < zTb0.getD l.toNat 0 → C 49 i = vlS B n q.1 i := by
      intro i i0 i1
      have := hC i.toNat (by omega)
      rwa [vl, show ((i.toNat : Nat) : Int) = i by omega] at this
    have go := fun b0 b1 b2 b3 b4 b5 b6 => k_year (v := vlS B n q.1) (m := m) S kn V0 O0 hT l0 l1 ha ⟨by omega, t5⟩ b0 b1 b2 b3 b4 b5 b6
    have fin : ∀ F' C', (yeV F' C' 43 (kpS l (vlS B n q.1) m T) ∧ yOK (kpS l (vlS B n q.1) m T)) → ((∀ k a, a ≠ 43 → F' k a = F k a) ∧ (0 ≤ F' 640 43 ∧ F' 640 43 ≤ 40)) → dtC F' C' 1 0 (kpS l (vlS B n q.1) m T) := by
      intro F' C' h1 h2
      refine ⟨?_, h2.2, ?_, fun _ => ⟨fun z => by omega, fun _ => h1, fun z => by omega⟩⟩
      · rw [h2.1 128 36 (by omega), h2.1 129 36 (by omega), h2.1 130 36 (by omega)]; exact d1
      · rw [h2.1 192 45 (by omega)]; exact d3
    suffices hh : ∃ F' C', zc 80 [zR (some 35), zI (i32 l), zI (i32 m)] (zw h F C) = some (zI 0, zw h F' C') ∧ kpF F C F' C' ∧ (yeV F' C' 43 (kpS l (vlS B n q.1) m T) ∧ yOK (kpS l (vlS B n q.1) m T)) ∧ ((∀ k a, a ≠ 43 → F' k a = F k a) ∧ (0 ≤ F' 640 43 ∧ F' 640 43 ≤ 40)) by
      obtain ⟨F', C', e, k, h1, h2⟩ := hh
      exact ⟨F', C', e, k, fin F' C' h1 h2⟩
    have nn : ((-1 : Int) ≤ -1 ∧ (-1 : Int) ≤ 7) := by decide
    rcases (show l = 5 ∨ l = 6 ∨ l = 7 ∨ l = 8 ∨ l = 9 ∨ l = 10 by omega) with rfl | rfl | rfl | rfl | rfl | rfl
    · have x0 := V 0 (by decide)
      have x1 := V 1 (by decide)
      have x2 := V 2 (by decide)
      rw [vl] at x0 x1 x2
      have y0 : (0 : Int) ≤ vlS B n q.1 0 ∧ vlS B n q.1 0 ≤ 5 := ⟨x0.1, x0.2.1⟩
      have y1 : (0 : Int) ≤ vlS B n q.1 1 ∧ vlS B n q.1 1 ≤ 3 := ⟨x1.1, x1.2.1⟩
      have y2 : (0 : Int) ≤ vlS B n q.1 2 ∧ vlS B n q.1 2 ≤ 7 := ⟨x2.1, x2.2.1⟩
      exact go (show -1 ≤ vlS B n q.1 0 ∧ vlS B n q.1 0 ≤ 9 by omega) (show -1 ≤ vlS B n q.1 1 ∧ vlS B n q.1 1 ≤ 7 by omega) (show -1 ≤ vlS B n q.1 2 ∧ vlS B n q.1 2 ≤ 7 by omega) nn nn (fun z => by omega) (fun z => by omega)
    · have x0 := V 0 (by decide)
      have x1 := V 1 (by decide)
      have x2 := V 2 (by decide)
      have x3 := V 3 (by decide)
      have x4 := V 4 (by decide)
      have z1 := x1.2.2 rfl
      have z3 := x3.2.2 rfl
      rw [if_neg (by omega)] at z1 z3
      rw [vl, vl] at z1 z3
      rw [vl] at x0 x1 x2 x3 x4
      have y0 : (0 : Int) ≤ vlS B n q.1 0 ∧ vlS B n q.1 0 ≤ 5 := ⟨x0.1, x0.2.1⟩
      have y1 : (0 : Int) ≤ vlS B n q.1 1 ∧ vlS B n q.1 1 ≤ 5 := ⟨x1.1, x1.2.1⟩
      have y2 : (0 : Int) ≤ vlS B n q.1 2 ∧ vlS B n q.1 2 ≤ 3 := ⟨x2.1, x2.2.1⟩
      have y3 : (0 : Int) ≤ vlS B n q.1 3 ∧ vlS B n q.1 3 ≤ 3 := ⟨x3.1, x3.2.1⟩
      have y4 : (0 : Int) ≤ vlS B n q.1 4 ∧ vlS B n q.1 4 ≤ 7 := ⟨x4.1, x4.2.1⟩
      exact go (show -1 ≤ vlS B n q.1 0 ∧ vlS B n q.1 0 ≤ 9 by omega) (show -1 ≤ vlS B n q.1 1 ∧ vlS B n q.1 1 ≤ 7 by omega) (show -1 ≤ vlS B n q.1 2 ∧ vlS B n q.1 2 ≤ 7 by omega) (show -1 ≤ vlS B n q.1 3 ∧ vlS B n q.1 3 ≤ 7 by omega) (show -1 ≤ vlS B n q.1 4 ∧ vlS B n q.1 4 ≤ 7 by omega) (fun z => by omega) (fun _ => ⟨fun z => z1 z.symm, fun z => z3 z.symm⟩)
    · have x0 := V 0 (by decide)
      rw [vl] at x0
      have y0 : (0 : Int) ≤ vlS B n q.1 0 ∧ vlS B n q.1 0 ≤ 5 := ⟨x0.1, x0.2.1⟩
      exact go (show -1 ≤ vlS B n q.1 0 ∧ vlS B n q.1 0 ≤ 9 by omega) nn nn nn nn (fun z => by omega) (fun z => by omega)
    · have x0 := V 0 (by decide)
      rw [vl] at x0
      have y0 : (0 : Int) ≤ vlS B n q.1 0 ∧ vlS B n q.1 0 ≤ 5 := ⟨x0.1, x0.2.1⟩
      exact go (show -1 ≤ vlS B n q.1 0 ∧ vlS B n q.1 0 ≤ 9 by omega) nn nn nn nn (fun z => by omega) (fun z => by omega)
    · have x0 := V 0 (by decide)
      rw [vl] at x0
      have y0 : (0 : Int) ≤ vlS B n q.1 0 ∧ vlS B n q.1 0 ≤ 9 := ⟨x0.1, x0.2.1⟩
      exact go (show -1 ≤ vlS B n q.1 0 ∧ vlS B n q.1 0 ≤ 9 by omega) nn nn nn nn (fun _ => y0.1) (fun z => by omega)
    · exact go (show (-1 : Int) ≤ -1 ∧ (-1 : Int) ≤ 9 by decide) nn nn nn nn (fun z => by omega) (fun z => by omega)
  · obtain ⟨V0, O0⟩ := d7 rfl
    have hT : T 0 < 8 := by
      have z : ¬ (lmF l ≤ cnT l T) := hfull
      unfold lmF cnT at z
      rw [if_neg (by omega), if_neg (by omega), if_neg (by omega), if_neg (by omega), if_pos (by omega), if_neg (by omega), if_neg (by omega), if_neg (by omega)] at z
      omega
    have fin : ∀ F' C', (loV F' C' 45 (kpS l (vlS B n q.1) m T) ∧ lOK (kpS l (vlS B n q.1) m T)) → ((∀ k a, a ≠ 45 → F' k a = F k a) ∧ (0 ≤ F' 192 45 ∧ F' 192 45 ≤ 8)) → dtC F' C' 2 0 (kpS l (vlS B n q.1) m T) := by
      intro F' C' h1 h2
      refine ⟨?_, ?_, h2.2, fun _ => ⟨fun z => by omega, fun z => by omega, fun _ => h1⟩⟩
      · rw [h2.1 128 36 (by omega), h2.1 129 36 (by omega), h2.1 130 36 (by omega)]; exact d1
      · rw [h2.1 640 43 (by omega)]; exact d2
    rcases (show l = 11 ∨ l = 12 by omega) with rfl | rfl
    · have x0 := V 0 (by decide)
      have x1 := V 1 (by decide)
      have x2 := V 2 (by decide)
      rw [vl] at x0 x1 x2
      have y2 : (0 : Int) ≤ vlS B n q.1 2 ∧ vlS B n q.1 2 ≤ 7 := ⟨x2.1, x2.2.1⟩
      obtain ⟨F', C', e, k, h1, h2⟩ := k_log (v := vlS B n q.1) (m := m) (x := vlS B n q.1 2) S V0 O0 hT (Or.inl ⟨rfl, rfl, (hC 2 (by decide)).trans (vl 2)⟩) ((hC 0 (by decide)).trans (vl 0)) ((hC 1 (by decide)).trans (vl 1)) ⟨x0.1, x0.2.1⟩ ⟨x1.1, x1.2.1⟩ (by omega)
      exact ⟨F', C', e, k, fin F' C' h1 h2⟩
    · have x0 := V 0 (by decide)
      have x1 := V 1 (by decide)
      rw [vl] at x0 x1
      obtain ⟨F', C', e, k, h1, h2⟩ := k_log (v := vlS B n q.1) (m := m) (x := -1) S V0 O0 hT (Or.inr ⟨rfl, rfl⟩) ((hC 0 (by decide)).trans (vl 0)) ((hC 1 (by decide)).trans (vl 1)) ⟨x0.1, x0.2.1⟩ ⟨x1.1, x1.2.1⟩ (by omega)
      exact ⟨F', C', e, k, fin F' C' h1 h2⟩
end RT
