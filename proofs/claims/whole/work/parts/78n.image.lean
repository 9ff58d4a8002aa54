/-! image, both -/
section IM
variable {h : zHeap} {F : Nat → Nat → Int} {C : Nat → Int → Int} {L : Nat} {xs : Nat → Int32}
def imC (h : zHeap) (F : Nat → Nat → Int) (C : Nat → Int → Int) (p : Nat → Option Nat) (k : Nat) : Prop := (p k = none ∧ C 74 (k : Int) = 0) ∨ ∃ b, p k = some b ∧ C 74 (k : Int) = 1 ∧ 89 ≤ b ∧ b + 33 ≤ hN h ∧ toS h b ∧ toV F C b (imA C k) ∧ aOK (imA C k) ∧ szP F b
/-- all but what is told in image k, which lies at b -/
def wPre (L : Nat) (xs : Nat → Int32) (h : zHeap) (F : Nat → Nat → Int) (C : Nat → Int → Int) (p : Nat → Option Nat) (k b : Nat) : Prop := qOK h F C ∧ knS h ∧ szP F 1 ∧ hAI h 1000001 = some (0, L, xs) ∧ hAR h 34 = some (9, 3, p) ∧ (∀ l, l < 3 → l ≠ k → imC h F C p l) ∧ (p k = some b ∧ 89 ≤ b ∧ b + 33 ≤ hN h ∧ toS h b) ∧ imP p ∧ (89 ≤ hN h ∧ hN h + 33 * non p ≤ 188) ∧ hS h + 2000 * non p ≤ 60000
theorem im_copy {p : Nat → Option Nat} {k b : Nat} (W : wPre L xs h F C p k b) (k1 : k < 3) : ∃ F1 C1 C2, zc 138 [zR (some b), zR (some 1)] (zw h F C) = some (zI 0, zw h F1 C1) ∧ zc 321 [zR (some 72), zI (i32 (k : Int))] (zw h F1 C1) = some (zI (i32 1), zw h F1 C2) ∧ wOK L xs h F1 C2 := by
  obtain ⟨Q, kn, sz, sc, p1, p2, ⟨q1, q2, q3, q4⟩, p3, p4, p5⟩ := W
  have S := Q.1
  obtain ⟨F1, C1, e1, fr, V1, Z1⟩ := c_tcopy (F := F) (C := C) q4 S.2.2.2.2.2.1 (by omega) Q.2.1 Q.2.2 sz
  have r73 : C1 73 = C 73 := (fr 73 (by omega)).2
  have r74 : C1 74 = C 74 := (fr 74 (by omega)).2
  have mi := fun h => @m_isIn h (k : Int) 0 2 (by omega) (by omega) (by omega) (by omega) (by omega) (by omega)
  have dm : decide (i32 (if 0 ≤ (k : Int) ∧ (k : Int) ≤ 2 then 1 else 0) ≠ 0) = true := by rw [if_pos (by omega)]; decide
  have cc := c74 (F := F1) (C := C1) S (k := (k : Int)) (by omega) (by omega)
  have mL := m_imageL (F := F1) (C := zsC C1 74 (k : Int) 1) S (k := (k : Int)) (by omega) (by omega)
  have z73 : zsC C1 74 (k : Int) 1 73 = C 73 := by rw [zsC_a (by omega), r73]
  rw [z73] at mL
  have g : ∀ x, x ≠ 73 → x ≠ 74 → zsW (zsC C1 74 (k : Int) 1) 73 (cpR (C 73) 0 (1230 * ((k : Int) + 1)) 1230) x = C1 x := fun x h1 h2 => by rw [zsW_a h1, zsC_a h2]
  have g73 : zsW (zsC C1 74 (k : Int) 1) 73 (cpR (C 73) 0 (1230 * ((k : Int) + 1)) 1230) 73 = cpR (C 73) 0 (1230 * ((k : Int) + 1)) 1230 := zsW_s _ _ _
  have g74 : ∀ j, zsW (zsC C1 74 (k : Int) 1) 73 (cpR (C 73) 0 (1230 * ((k : Int) + 1)) 1230) 74 j = if j = (k : Int) then 1 else C 74 j := by
    intro j
    rw [zsW_a (by omega), zsC_at, r74]
    by_cases c : j = (k : Int)
    · rw [if_pos ⟨rfl, c⟩, if_pos c]
    · rw [if_neg (fun z => c z.2), if_neg c]
  refine ⟨F1, C1, zsW (zsC C1 74 (k : Int) 1) 73 (cpR (C 73) 0 (1230 * ((k : Int) + 1)) 1230), e1, ?_, ?_⟩
  · simp only [zoI_s, zoR_s, zoH_s, zoL_s, zbI_s, zbV_s, zbR_s, zbL_s, zif_t, zif_f, zrz_0, zrz_1, decide_true, decide_false, e_Model_image, mi, dm, wr_769 S, cc, mL]
  · generalize zsW (zsC C1 74 (k : Int) 1) 73 (cpR (C 73) 0 (1230 * ((k : Int) + 1)) 1230) = C2 at g g73 g74 ⊢
    have a0 : ∀ j, 0 ≤ j → j < 1230 → C2 73 j = C 73 j := fun j j0 j1 => by rw [g73]; unfold cpR; rw [if_neg (by omega)]
    have ak : ∀ j, 0 ≤ j → j < 1230 → imA C2 k j = C 73 j := fun j j0 j1 => by
      unfold imA
      rw [g73]; unfold cpR
      rw [if_pos (by omega), show 1230 * ((k : Int) + 1) + j - 1230 * ((k : Int) + 1) + 0 = j by omega]
    have f1 : frB F F1 C C2 1 := fun x h0 h1 => ⟨(fr x (by omega)).1, by rw [g x (by omega) (by omega), (fr x (by omega)).2]⟩
    refine ⟨⟨S, (Q.2.1.fr Q.2.2 f1).cg Q.2.2 a0, Q.2.2.cg a0⟩, kn, sz.fr f1, sc, p, p1, fun l hl => ?_, p3, p4, p5⟩
    by_cases c : l = k
    · subst c
      exact Or.inr ⟨b, q1, by rw [g74, if_pos rfl], q2, q3, q4, (V1.fr Q.2.2 (fun x h0 _ => ⟨fun _ => rfl, g x (by omega) (by omega)⟩)).cg Q.2.2 ak, Q.2.2.cg ak, Z1⟩
    · rcases p2 l hl c with ⟨i1, i2⟩ | ⟨b', i1, i2, i3, i4, i5, i6, i7, i8⟩
      · exact Or.inl ⟨i1, by rw [g74, if_neg (by omega)]; exact i2⟩
      · have ap := p3 l k b' b hl k1 c i1 q1
        have eb : frB F F1 C C2 b' := fun x h0 h1 => ⟨(fr x (by omega)).1, by rw [g x (by omega) (by omega), (fr x (by omega)).2]⟩
        have ea : ∀ j, 0 ≤ j → j < 1230 → imA C2 l j = imA C l j := fun j j0 j1 => by
          unfold imA
          rw [g73]; unfold cpR
          rw [if_neg (by omega)]
        exact Or.inr ⟨b', i1, by rw [g74, if_neg (by omega)]; exact i2, i3, i4, i5, (i6.fr i7 eb).cg i7 ea, i7.cg ea, i8.fr eb⟩
end IM
