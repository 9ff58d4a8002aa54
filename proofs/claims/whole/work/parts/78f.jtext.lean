/-! text, both -/
section JU
variable {h : zHeap} {F : Nat → Nat → Int} {C : Nat → Int → Int} {A : Int → Int} {L : Nat} {xs : Nat → Int32}
theorem nuF_rng (hA : ∀ i, 0 ≤ i → i < 3 → 0 ≤ A i ∧ A i ≤ 2) {sort t : Int} (z : nuF A sort t ≠ -2) : (0 ≤ sort ∧ sort ≤ 2) ∧ (0 ≤ nuF A sort t ∧ nuF A sort t ≤ 1) ∧ (t = -1 → nuF A sort t = A sort) ∧ (t ≠ -1 → nuF A sort t < A sort) := by
  unfold nuF at z ⊢
  by_cases cs : 0 ≤ sort ∧ sort ≤ 2
  · have As := hA sort cs.1 (by omega)
    rw [if_pos cs] at z ⊢
    refine ⟨cs, ?_⟩
    by_cases ct : t = -1
    · rw [if_pos ct] at z ⊢
      by_cases y : A sort < 2
      · rw [if_pos y]; omega
      · rw [if_neg y] at z; exact absurd rfl z
    · rw [if_neg ct] at z ⊢
      by_cases y : 0 ≤ t ∧ t < A sort
      · rw [if_pos y]; omega
      · rw [if_neg y] at z; exact absurd rfl z
  · rw [if_neg cs] at z; exact absurd rfl z
theorem a456_4 (x f pl : Int) : a456 A x f pl 4 = x := by unfold a456; rw [up1_n (by omega), up1_n (by omega), up1_s]
theorem a456_5 (x f pl : Int) : a456 A x f pl 5 = f := by unfold a456; rw [up1_n (by omega), up1_s]
theorem a456_6 (x f pl : Int) : a456 A x f pl 6 = pl := by unfold a456; rw [up1_s]
theorem a456_n {x f pl j : Int} (hj : j < 4 ∨ 6 < j) : a456 A x f pl j = A j := by unfold a456; rw [up1_n (by omega), up1_n (by omega), up1_n (by omega)]
theorem j_text {sort t : Int} (hs : inI sort) (ht : inI t) : jnt 152 224 [zI (i32 sort), zI (i32 t)] := by
  intro L xs h F C W
  have Q := W.1
  have S := Q.1
  have kn := W.2.1
  have o := Q.2.2.1
  have o4 := Q.2.2.2.1
  have v := Q.2.1.1.2.2
  have sz0 := W.2.2.1
  have hA : ∀ i, 0 ≤ i → i < 3 → 0 ≤ C 73 i ∧ C 73 i ≤ 2 := by
    intro i i0 i1
    rcases (show i = 0 ∨ i = 1 ∨ i = 2 by omega) with rfl | rfl | rfl
    · exact o.1
    · exact o.2.1
    · exact o.2.2
  have P : tpC F C (fun i => C 73 (10 + i)) (C 73 4) := ⟨v, o4, fun i i0 i1 => ⟨Q.2.2.2.2.1 i i0 i1, Q.2.1.2.1 i i0 i1⟩⟩
  have hc : ∀ i, 0 ≤ i → i < 3 → C 4 i = C 73 i := Q.2.1.2.2.1
  have pI := @prS_I (fun i => C 73 (10 + i)) (C 73 4) sort o4
  obtain ⟨F1, C1, k1, k2, k3⟩ := c_text (F := F) (C := C) S kn P hc hA hs ht
  by_cases cN : nuF (C 73) sort t = -2
  · obtain ⟨e1, rfl, rfl⟩ := k1 cN
    obtain ⟨F2, C2, fF, fC, m1, -, -⟩ := m_text (F := zsF (zsF (zsF F 513 2 0) 581 1 0) 582 1 (-1)) (C := C1) (B := fun i => C1 73 (10 + i)) S o rfl o4 (fun i i0 i1 => ⟨Q.2.2.2.2.1 i i0 i1, rfl⟩) hs ht
    obtain ⟨e2, r⟩ := m1 cN
    refine ⟨-2, _, h, F2, C2, e1, e2, zw_is, W.tp (fun k x hx => ?_) (fun x hx => fC x (by omega) (by omega)) (fun j hj => by rw [r, a456_n (by omega)]) ?_ ?_ ?_ ?_ ?_⟩
    · rw [fF k x (by omega), zsF_a (by omega), zsF_a (by omega), zsF_a (by omega)]
    · rw [r, a456_4, a456_5, a456_6, fF _ _ (by omega), fF _ _ (by omega), fF _ _ (by omega)]; exact ⟨rfl, rfl, rfl⟩
    · rw [r, a456_4]; intro i i0 i1; omega
    · rw [r, a456_4]; omega
    · rw [r, a456_4]; intro i i0 i1; omega
    · rw [r, a456_5, a456_6]; omega
  · obtain ⟨cs, n01, nA1, nA2⟩ := nuF_rng hA cN
    by_cases f0 : (prS (fun i => C 73 (10 + i)) (C 73 4) sort).1.2.1 = 0
    · obtain ⟨e1, t1, fr, r4, ob, s1, s2⟩ := k3 cN f0
      have adr : 8 ≤ adS sort (nuF (C 73) sort t) ∧ adS sort (nuF (C 73) sort t) + lnS sort ≤ 34 := by
        have z : (nuF (C 73) sort t).toNat ≤ 1 := by omega
        unfold adS lnS
        rcases (show sort = 0 ∨ sort = 1 ∨ sort = 2 by omega) with rfl | rfl | rfl
        · rw [if_pos rfl, if_pos rfl]; omega
        · rw [if_neg (by omega), if_pos rfl, if_neg (by omega), if_pos rfl]; omega
        · rw [if_neg (by omega), if_neg (by omega), if_neg (by omega), if_neg (by omega)]; omega
      have r73 : C1 73 = C 73 := (fr 73 (by omega) (by omega)).2 (by omega)
      obtain ⟨F2, C2, fF, fC, -, -, m3⟩ := m_text (F := F1) (C := C1) (B := fun i => C 73 (10 + i)) (n := C 73 4) S (by rw [r73]; exact o) (by rw [r73]) o4 (fun i i0 i1 => ⟨Q.2.2.2.2.1 i i0 i1, by rw [r73]⟩) hs ht
      rw [r73] at m3
      obtain ⟨e2, u, hu, r⟩ := m3 cN f0
      have plr : 610 ≤ plS sort (nuF (C 73) sort t) ∧ plS sort (nuF (C 73) sort t) + szS sort ≤ 1230 ∧ szS sort ≤ 241 := by
        unfold plS szS
        rcases (show sort = 0 ∨ sort = 1 ∨ sort = 2 by omega) with rfl | rfl | rfl
        · rw [if_pos rfl, if_pos rfl]; omega
        · rw [if_neg (by omega), if_pos rfl, if_neg (by omega), if_pos rfl]; omega
        · rw [if_neg (by omega), if_neg (by omega), if_neg (by omega), if_neg (by omega)]; omega
      -- the reference's numbers
      have gl : ∀ j, (j < plS sort (nuF (C 73) sort t) ∨ plS sort (nuF (C 73) sort t) + szS sort ≤ j) → j ≠ sort → C2 73 j = a456 (C 73) 0 0 (prS (fun i => C 73 (10 + i)) (C 73 4) sort).1.2.2 j := by
        intro j hj hn
        rw [r]; unfold stR
        rw [if_neg (by omega)]
        by_cases ct : t = -1
        · rw [if_pos ct, up1_n hn]
        · rw [if_neg ct]
      have gS : C2 73 sort = if C 73 sort < nuF (C 73) sort t + 1 then nuF (C 73) sort t + 1 else C 73 sort := by
        rw [r]; unfold stR
        rw [if_neg (by omega)]
        by_cases ct : t = -1
        · rw [if_pos ct, up1_s, if_pos (by have := nA1 ct; omega), nA1 ct]
        · rw [if_neg ct, if_neg (by have := nA2 ct; omega), a456_n (by omega)]
      have g2 : ∀ j, 0 ≤ j → j < szS sort → C2 73 (plS sort (nuF (C 73) sort t) + j) = (prS (fun i => C 73 (10 + i)) (C 73 4) sort).2 j := by
        intro j j0 j1
        rw [r]; unfold stR
        rw [if_pos (by omega), show plS sort (nuF (C 73) sort t) + j - plS sort (nuF (C 73) sort t) = j by omega]
        exact hu j j0 (by omega)
      have gO : ∀ i, 0 ≤ i → i < 3 → i ≠ sort → C2 73 i = C 73 i := fun i i0 i1 hn => by rw [gl i (by omega) hn, a456_n (by omega)]
      have g1 : ∀ j, 610 ≤ j → (j < plS sort (nuF (C 73) sort t) ∨ plS sort (nuF (C 73) sort t) + szS sort ≤ j) → C2 73 j = C 73 j := fun j j0 hj => by rw [gl j hj (by omega), a456_n (by omega)]
      have g6 : C2 73 4 = 0 := by rw [gl 4 (by omega) (by omega), a456_4]
      have g5 : C2 73 5 = 0 := by rw [gl 5 (by omega) (by omega), a456_5]
      have g66 : C2 73 6 = (prS (fun i => C 73 (10 + i)) (C 73 4) sort).1.2.2 := by rw [gl 6 (by omega) (by omega), a456_6]
      have g7 : F2 581 1 = C2 73 5 ∧ F2 582 1 = C2 73 6 ∧ F2 513 2 = 0 := by
        rw [g5, g66, fF _ _ (by omega), fF _ _ (by omega), fF _ _ (by omega)]; exact ⟨t1.2.1, t1.2.2, t1.1⟩
      have g8 : (0 ≤ C2 73 5 ∧ C2 73 5 ≤ 3) ∧ -1 ≤ C2 73 6 ∧ C2 73 6 ≤ 600 := by
        rw [g5, g66]; exact ⟨by omega, pI.2.2.1⟩
      have g4 : ∀ i, 0 ≤ i → i < 3 → C2 4 i = C2 73 i := by
        intro i i0 i1
        rw [fC 4 (by omega) (by omega), r4]
        by_cases c : i = sort
        · subst c; rw [up1_s, gS]
        · rw [up1_n c, gO i i0 i1 c]; exact hc i i0 i1
      have kA : nuF (C 73) sort t ≤ C 73 sort := by
        by_cases ct : t = -1
        · rw [nA1 ct]; omega
        · have := nA2 ct; omega
      have fr3 : ∀ x, 8 ≤ x → x < 34 → (x < adS sort (nuF (C 73) sort t) ∨ adS sort (nuF (C 73) sort t) + lnS sort ≤ x) → (∀ m, F2 m x = F m x) ∧ C2 x = C x := fun x x0 x1 x2 => ⟨fun m => (fF m x (by omega)).trans ((fr x (by omega) x2).1 (by omega) (by omega) m), (fC x (by omega) (by omega)).trans ((fr x (by omega) x2).2 (by omega))⟩
      have same2 : ∀ x, 8 ≤ x → x < 34 → (∀ m, F2 m x = F1 m x) ∧ C2 x = C1 x := fun x x0 x1 => ⟨fun m => fF m x (by omega), fC x (by omega) (by omega)⟩
      have VO : toV F2 C2 1 (C2 73) ∧ aOK (C2 73) := by
        have z : (nuF (C 73) sort t).toNat ≤ 1 := by omega
        rcases (show sort = 0 ∨ sort = 1 ∨ sort = 2 by omega) with rfl | rfl | rfl
        · have ls : lnS 0 = 7 := rfl
          exact st0 (T := (prS (fun i => C 73 (10 + i)) (C 73 4) 0).2) Q.2.1 Q.2.2 n01.1 n01.2 kA fr3 g4 gS gO (fun j j0 _ hj => g1 j j0 hj) g2 ⟨(ob.1 rfl).1.same (fun k => (same2 _ (by omega) (by omega)).1 k) (fun j _ _ => (same2 _ (by omega) (by omega)).2), (ob.1 rfl).2⟩ g6 g7 g8
        · have ls : lnS 1 = 2 := rfl
          exact st1 (T := (prS (fun i => C 73 (10 + i)) (C 73 4) 1).2) Q.2.1 Q.2.2 n01.1 n01.2 kA fr3 g4 gS gO (fun j j0 _ hj => g1 j j0 hj) g2 ⟨(ob.2.1 rfl).1.same (fun k => (same2 _ (by omega) (by omega)).1 k) (same2 _ (by omega) (by omega)).2, (ob.2.1 rfl).2⟩ g6 g7 g8
        · have ls : lnS 2 = 4 := rfl
          exact st2 (T := (prS (fun i => C 73 (10 + i)) (C 73 4) 2).2) Q.2.1 Q.2.2 n01.1 n01.2 kA fr3 g4 gS gO (fun j j0 _ hj => g1 j j0 hj) g2 ⟨(ob.2.2 rfl).1.same (fun k => (same2 _ (by omega) (by omega)).1 k) (fun j _ _ => (same2 _ (by omega) (by omega)).2), (ob.2.2 rfl).2⟩ g6 g7 g8
      refine ⟨nuF (C 73) sort t, _, h, F2, C2, e1, e2, zw_is, W.nw VO.1 VO.2 ?_ (fun x hx => ⟨fun k => (fF k x (by omega)).trans ((fr x (by omega) (by omega)).1 (by omega) (by omega) k), (fC x (by omega) (by omega)).trans ((fr x (by omega) (by omega)).2 (by omega))⟩) ((fC 74 (by omega) (by omega)).trans ((fr 74 (by omega) (by omega)).2 (by omega))) (fun j j0 j1 => g1 j (by omega) (by omega))⟩
      intro y hy
      have z := sz0 y hy
      have hk : (nuF (C 73) sort t).toNat ≤ 1 := by omega
      refine ⟨?_, ?_⟩
      · by_cases c : sort = 1 ∧ y = (nuF (C 73) sort t).toNat
        · obtain ⟨rfl, rfl⟩ := c
          rw [fF _ _ (by omega)]
          have s := s1 rfl
          have ea : adS 1 (nuF (C 73) 1 t) = 1 + 14 + 13 * (nuF (C 73) 1 t).toNat := by show 15 + _ = _; omega
          rw [ea] at s; exact s
        · rw [(fr3 _ (by omega) (by omega) (by
            unfold adS lnS
            rcases (show sort = 0 ∨ sort = 1 ∨ sort = 2 by omega) with rfl | rfl | rfl
            · rw [if_pos rfl, if_pos rfl]; omega
            · rw [if_neg (by omega), if_pos rfl, if_neg (by omega), if_pos rfl]; omega
            · rw [if_neg (by omega), if_neg (by omega), if_neg (by omega), if_neg (by omega)]; omega)).1]
          exact z.1
      · by_cases c : sort = 2 ∧ y = (nuF (C 73) sort t).toNat
        · obtain ⟨rfl, rfl⟩ := c
          rw [fF _ _ (by omega)]
          have s := s2 rfl
          have ea : adS 2 (nuF (C 73) 2 t) = 1 + 16 + 13 * (nuF (C 73) 2 t).toNat := by show 17 + _ = _; omega
          rw [ea] at s; exact s
        · rw [(fr3 _ (by omega) (by omega) (by
            unfold adS lnS
            rcases (show sort = 0 ∨ sort = 1 ∨ sort = 2 by omega) with rfl | rfl | rfl
            · rw [if_pos rfl, if_pos rfl]; omega
            · rw [if_neg (by omega), if_pos rfl, if_neg (by omega), if_pos rfl]; omega
            · rw [if_neg (by omega), if_neg (by omega), if_neg (by omega), if_neg (by omega)]; omega)).1]
          exact z.2
    · obtain ⟨e1, t1, fr⟩ := k2 cN f0
      have r73 : C1 73 = C 73 := (fr 73 (by omega)).2
      obtain ⟨F2, C2, fF, fC, -, m2, -⟩ := m_text (F := F1) (C := C1) (B := fun i => C 73 (10 + i)) (n := C 73 4) S (by rw [r73]; exact o) (by rw [r73]) o4 (fun i i0 i1 => ⟨Q.2.2.2.2.1 i i0 i1, by rw [r73]⟩) hs ht
      rw [r73] at m2
      obtain ⟨e2, r⟩ := m2 cN f0
      refine ⟨-1, _, h, F2, C2, e1, e2, zw_is, W.tp (fun k x hx => ?_) (fun x hx => (fC x (by omega) (by omega)).trans (fr x (by omega)).2) (fun j hj => by rw [r, a456_n (by omega)]) ?_ ?_ ?_ ?_ ?_⟩
      · rw [fF k x (by omega), (fr x (by omega)).1 (by omega) (by omega)]
      · rw [r, a456_4, a456_5, a456_6, fF _ _ (by omega), fF _ _ (by omega), fF _ _ (by omega)]; exact ⟨t1.2.1, t1.2.2, t1.1⟩
      · rw [r, a456_4]; intro i i0 i1; omega
      · rw [r, a456_4]; omega
      · rw [r, a456_4]; intro i i0 i1; omega
      · rw [r, a456_5, a456_6]; exact ⟨pI.2.1, pI.2.2.1⟩
end JU
