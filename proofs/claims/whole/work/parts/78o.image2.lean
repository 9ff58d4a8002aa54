/-! image, both: a new one made -/
section IO
variable {h : zHeap} {F : Nat → Nat → Int} {C : Nat → Int → Int} {L : Nat} {xs : Nat → Int32}
theorem non_up {p : Nat → Option Nat} {k b : Nat} (k1 : k < 3) (hp : p k = none) : non (zup p k (some b)) + 1 = non p := by
  unfold non zup
  rcases (show k = 0 ∨ k = 1 ∨ k = 2 by omega) with rfl | rfl | rfl
  · simp [hp]; omega
  · simp [hp]; omega
  · simp [hp]
theorem im_new {p : Nat → Option Nat} {k : Nat} (W : wOK L xs h F C) (p1 : hAR h 34 = some (9, 3, p)) (k1 : k < 3) (hp : p k = none) : ∃ g1 h2 F2 C2, zv 9 137 [zR (some (hN h))] (znO zTb 9 (zw h F C)) = some (zI 0, g1) ∧ zaT g1 (some 34) (i32 (k : Int)) (some (hN h)) = some (zw h2 F2 C2) ∧ wPre L xs h2 F2 C2 (zup p k (some (hN h))) k (hN h) := by
  obtain ⟨Q, kn, sz, sc, p', p1', p2, p3, p4, p5⟩ := W
  have pe : p' = p := by
    rw [p1] at p1'
    exact ((Prod.mk.inj (Prod.mk.inj (Option.some.inj p1')).2).2).symm
  subst pe
  have S := Q.1
  have zK : zK0 = 1000000 := rfl
  obtain ⟨g1, e1, E, n1, s1, I, i1, i2⟩ := i_Told (zw h F C) (show hN h + 60 < zK0 by omega)
  have n1' : hN g1 = hN h + 33 := n1
  have s1' : hS g1 = hS h + 1258 := s1
  have I' : toI g1 (hN h) 2 := I
  have ar : hAR g1 34 = some (9, 3, p') := (E.2.2.2 34 (show 34 < hN h by omega)).1.trans p1
  have t1 := zaT_s (h := g1) (i := (k : Int)) ar (by omega) (by omega) (by omega) I'.1
  rw [show (k : Int).toNat = k from Int.toNat_natCast k] at t1
  have zg := zw_ext E
  have fF : ∀ m x, x < hN h → exF h F g1 m x = F m x := fun m x hx => if_pos hx
  have fC : ∀ x, x < hN h → exC h C g1 x = C x := fun x hx => funext fun j => if_pos hx
  have hw : zsQ g1 34 9 3 (zup p' k (some (hN h))) = zw (zsQ g1 34 9 3 (zup p' k (some (hN h)))) (exF h F g1) (exC h C g1) := (congrArg (fun g => zsQ g 34 9 3 (zup p' k (some (hN h)))) zg).trans rfl
  have sS : St (zsQ g1 34 9 3 (zup p' k (some (hN h)))) := (S.zw.ext E p4.1).sQ
  have c73 := fC 73 (by omega)
  have c74 := fC 74 (by omega)
  have f1 : frB F (exF h F g1) C (exC h C g1) 1 := fun x h0 h1 => ⟨fun m => fF m x (by omega), fC x (by omega)⟩
  have nu := non_up (b := hN h) k1 hp
  have ka : ∀ a, 1000000 ≤ a → hAI g1 a = hAI h a := fun a ha => (E.2.2.1 a (Or.inr (by omega))).trans (if_neg (by omega))
  refine ⟨g1, zsQ g1 34 9 3 (zup p' k (some (hN h))), exF h F g1, exC h C g1, e1, ?_, ⟨sS, ?_, ?_⟩, ⟨?_, ?_, ?_⟩, sz.fr f1, ?_, ?_, fun l hl hn => ?_, ⟨?_, p4.1, ?_, ?_⟩, ?_, ⟨?_, ?_⟩, ?_⟩
  · rw [t1]; exact congrArg some hw
  · rw [c73]; exact Q.2.1.fr Q.2.2 f1
  · rw [c73]; exact Q.2.2
  · exact (ka 1000002 (by omega)).trans kn.1
  · exact (ka 1000003 (by omega)).trans kn.2.1
  · exact (ka 1000004 (by omega)).trans kn.2.2
  · exact (ka 1000001 (by omega)).trans sc
  · show (if 34 = 34 then some (9, 3, zup p' k (some (hN h))) else hAR g1 34) = _
    rw [if_pos rfl]
  · have up : zup p' k (some (hN h)) l = p' l := if_neg hn
    unfold imC imA
    rw [up, c73, c74]
    rcases p2 l hl with ⟨i1, i2⟩ | ⟨b', i1, i2, i3, i4, i5, i6, i7, i8⟩
    · exact Or.inl ⟨i1, i2⟩
    · have eb : frB F (exF h F g1) C (exC h C g1) b' := fun x h0 h1 => ⟨fun m => fF m x (by omega), fC x (by omega)⟩
      exact Or.inr ⟨b', i1, i2, i3, show b' + 33 ≤ hN g1 by omega, (i5.zw.ext E i4).sQ (by omega), i6.fr i7 eb, i7, i8.fr eb⟩
  · exact if_pos rfl
  · show hN h + 33 ≤ hN g1
    omega
  · exact (I'.toS (by omega)).sQ (by omega)
  · intro x y b c hx hy hn hb hc
    unfold zup at hb hc
    have old : ∀ l b', l < 3 → p' l = some b' → b' + 33 ≤ hN h := by
      intro l b' hl hlb
      rcases p2 l hl with ⟨j1, _⟩ | ⟨b2, j1, j2, j3, j4, _⟩
      · rw [j1] at hlb; exact absurd hlb (by simp)
      · rw [j1] at hlb
        have := Option.some.inj hlb
        omega
    by_cases cx : x = k
    · rw [if_pos cx] at hb
      rw [if_neg (by omega)] at hc
      have := Option.some.inj hb
      have := old y c hy hc
      omega
    · rw [if_neg cx] at hb
      by_cases cy : y = k
      · rw [if_pos cy] at hc
        have := Option.some.inj hc
        have := old x b hx hb
        omega
      · rw [if_neg cy] at hc
        exact p3 x y b c hx hy hn hb hc
  · show 89 ≤ hN g1
    omega
  · show hN g1 + 33 * _ ≤ 188
    omega
  · show hS g1 + 2000 * _ ≤ 60000
    omega
theorem j_image {k : Int} (hk : inI k) : jnt 187 321 [zI (i32 k)] := by
  intro L xs h F C W
  obtain ⟨Q, kn, sz, sc, p, p1, p2, p3, p4, p5⟩ := id W
  have S := Q.1
  unfold inI at hk
  have mi := fun h => @m_isIn h k 0 2 hk.1 hk.2 (by omega) (by omega) (by omega) (by omega)
  by_cases c : 0 ≤ k ∧ k < 3
  · have d0 : decide (i32 k < 0) = false := dF (by rw [i32_0, i32_lt (by omega) (by omega) (by omega) (by omega)]; omega)
    have d1 : decide (i32 k < i32 3) = true := dT (by rw [i32_lt (by omega) (by omega) (by omega) (by omega)]; omega)
    have aR := fun F C => aR_3 (h := h) (F := F) (C := C) p1 c.1 c.2
    have kk : (k.toNat : Int) = k := Int.toNat_of_nonneg c.1
    have kn3 : k.toNat < 3 := by omega
    rcases p2 k.toNat kn3 with ⟨i1, i2⟩ | ⟨b, i1, i2, i3, i4, i5, i6, i7, i8⟩
    · obtain ⟨g1, h2, F2, C2, e1, e2, P⟩ := im_new W p1 kn3 i1
      obtain ⟨F3, C3, C4, e3, e4, W'⟩ := im_copy P kn3
      rw [kk] at e2 e4
      have S2 := P.1.1
      have aR2 := fun F C => aR_3 (h := h2) (F := F) (C := C) P.2.2.2.2.1 c.1 c.2
      rw [P.2.2.2.2.2.2.1.1] at aR2
      rw [i1] at aR
      have tv := fun F C m as => zw_v (h := h2) (F := F) (C := C) (m := m) (as := as) P.2.2.2.2.2.2.1.2.2.2.1
      have e1' : zv 9 137 [zR (some (hN (zw h F C)))] (znO zTb 9 (zw h F C)) = some (zI 0, g1) := e1
      have e2' : zaT g1 (some 34) (i32 k) (some (hN (zw h F C))) = some (zw h2 F2 C2) := e2
      refine ⟨1, zw h2 F3 C3, h2, F3, C4, ?_, e4, zw_is, W'⟩
      simp only [zoI_s, zoR_s, zoH_s, zoL_s, zbI_s, zbV_s, zbR_s, zbL_s, zif_t, zif_f, zrz_0, zrz_1, decide_true, decide_false, e_Main_image, d0, d1, wr_705 S, aR, Option.isSome_none, e1', e2', wr_705 S2, wr_704 S2, aR2, tv, e3]
    · have P : wPre L xs h F C p k.toNat b := ⟨Q, kn, sz, sc, p1, fun l hl _ => p2 l hl, ⟨i1, i3, i4, i5⟩, p3, p4, p5⟩
      obtain ⟨F3, C3, C4, e3, e4, W'⟩ := im_copy P kn3
      rw [kk] at e4
      rw [i1] at aR
      have tv := fun F C m as => zw_v (h := h) (F := F) (C := C) (m := m) (as := as) i5.1
      refine ⟨1, zw h F3 C3, h, F3, C4, ?_, e4, zw_is, W'⟩
      simp only [zoI_s, zoR_s, zoH_s, zoL_s, zbI_s, zbV_s, zbR_s, zbL_s, zif_t, zif_f, zrz_0, zrz_1, decide_true, decide_false, e_Main_image, d0, d1, wr_705 S, wr_704 S, aR, Option.isSome_some, tv, e3]
  · have dm : decide (i32 (if 0 ≤ k ∧ k ≤ 2 then 1 else 0) ≠ 0) = false := by rw [if_neg (by omega)]; decide
    refine ⟨0, zw h F C, h, F, C, ?_, ?_, zw_is, W⟩
    · by_cases c0 : k < 0
      · have d0 : decide (i32 k < 0) = true := dT (by rw [i32_0, i32_lt (by omega) (by omega) (by omega) (by omega)]; omega)
        simp only [zoI_s, zoR_s, zoH_s, zoL_s, zbI_s, zbV_s, zbR_s, zbL_s, zif_t, zif_f, zrz_0, zrz_1, decide_true, decide_false, e_Main_image, d0]
      · have d0 : decide (i32 k < 0) = false := dF (by rw [i32_0, i32_lt (by omega) (by omega) (by omega) (by omega)]; omega)
        have d1 : decide (i32 k < i32 3) = false := dF (by rw [i32_lt (by omega) (by omega) (by omega) (by omega)]; omega)
        simp only [zoI_s, zoR_s, zoH_s, zoL_s, zbI_s, zbV_s, zbR_s, zbL_s, zif_t, zif_f, zrz_0, zrz_1, decide_true, decide_false, e_Main_image, d0, d1]
    · simp only [zoI_s, zoR_s, zoH_s, zoL_s, zbI_s, zbV_s, zbR_s, zbL_s, zif_t, zif_f, zrz_0, zrz_1, decide_true, decide_false, e_Model_image, mi, dm]
end IO
