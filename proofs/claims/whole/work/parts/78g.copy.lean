/-! a Told copied -/
section TC
variable {h : zHeap} {F : Nat → Nat → Int} {C : Nat → Int → Int} {a b : Nat} {A : Int → Int}
theorem c_acopy (Ha : taS h a) (Hb : taS h b) (ab : a + 2 ≤ b ∨ b + 2 ≤ a) (n0 : 0 ≤ F 513 b) (n1 : F 513 b ≤ 600) : zc 136 [zR (some a), zR (some b)] (zw h F C) = some (zI 0, zw h (zsF F 513 a (F 513 b)) (zsW C (a + 1) (fun j => if 0 ≤ j ∧ j < F 513 b then C (b + 1) j else C (a + 1) j))) := by
  have a0 := Ha.2.2.2.2
  have b0 := Hb.2.2.2.2
  have y1 := @zw_aY h F C (b + 1) (a + 1) 1 600 600 (F 513 b) Hb.2.2.2.1 Ha.2.2.2.1 (Or.inr rfl) b0 a0 (by omega) n0 n1 n1 (by omega)
  have g1 := fun C => zw_gR (h := h) (F := F) (C := C) Ha.2.1
  have g2 := fun C => zw_gR (h := h) (F := F) (C := C) Hb.2.1
  have g3 := fun C => zw_gI (h := h) (F := F) (C := C) Hb.2.2.1
  have g4 := fun C => zw_pI (h := h) (F := F) (C := C) Ha.2.2.1 (F 513 b)
  simp only [zoI_s, zoR_s, zoH_s, zoL_s, zbI_s, zbV_s, zbR_s, zbL_s, zif_t, zif_f, zrz_0, zrz_1, decide_true, decide_false, e_Tape_copy, g1, g2, g3, y1, g4]
theorem t_turn0 (Ha : toS h a) (Hb : toS h b) (ab : a + 33 ≤ b ∨ b + 33 ≤ a) (Z : szP F b) : ∃ F' C', zr 138 7 [yR (some a), yR (some b), yI (i32 0)] [] (zw h F C) = zr 138 7 [yR (some a), yR (some b), yI (i32 1)] [] (zw h F' C') ∧ (∀ x, x < a + 7 ∨ a + 20 ≤ x → (∀ k, F' k x = F k x) ∧ C' x = C x) ∧ (∀ D, duV F C (b + 7) D → (D 0 ≤ 6 ∧ D 1 ≤ 4 ∧ D 2 ≤ 8) → duV F' C' (a + 7) D) ∧ (∀ D, yeV F C (b + 14) D → yeV F' C' (a + 14) D) ∧ (∀ D, loV F C (b + 16) D → loV F' C' (a + 16) D) ∧ F' 640 (a + 14) = F 640 (b + 14) ∧ F' 192 (a + 16) = F 192 (b + 16) := by
  have z := Z 0 (by omega)
  have z1 : 0 ≤ F 640 (b + 14) ∧ F 640 (b + 14) ≤ 40 := z.1
  have z2 : 0 ≤ F 192 (b + 16) ∧ F 192 (b + 16) ≤ 8 := z.2
  have Pa := Ha.2.2.2.2.2.2.2.2.1
  have Pb := Hb.2.2.2.2.2.2.2.2.1
  obtain ⟨F1, C1, e1, f1, v1⟩ := c_dcopy (F := F) (C := C) Pa.1 Pb.1 (by omega)
  have q1 : F1 640 (b + 14) = F 640 (b + 14) := (f1 _ (by omega)).1 _
  obtain ⟨F2, C2, e2, f2, u2, v2⟩ := c_ycopy (F := F1) (C := C1) Pa.2.1 Pb.2.1 (by omega) (by rw [q1]; exact z1.1) (by rw [q1]; exact z1.2)
  have q2 : F2 192 (b + 16) = F 192 (b + 16) := ((f2 _ (by omega)).1 _).trans ((f1 _ (by omega)).1 _)
  obtain ⟨F3, C3, e3, f3, u3, v3⟩ := c_lcopy (F := F2) (C := C2) Pa.2.2 Pb.2.2 (by omega) (by rw [q2]; exact z2.1) (by rw [q2]; exact z2.2)
  have ra := fun F C => @aR_2 h F C 2 (a + 7) (a + 20) (a + 4) Ha.2.2.2.2.2.1 0 (by omega) (by omega)
  have rb := fun F C => @aR_2 h F C 2 (b + 7) (b + 20) (b + 4) Hb.2.2.2.2.2.1 0 (by omega) (by omega)
  have ya := fun F C => @aR_2 h F C 10 (a + 14) (a + 27) (a + 5) Ha.2.2.2.2.2.2.1 0 (by omega) (by omega)
  have yb := fun F C => @aR_2 h F C 10 (b + 14) (b + 27) (b + 5) Hb.2.2.2.2.2.2.1 0 (by omega) (by omega)
  have la := fun F C => @aR_2 h F C 3 (a + 16) (a + 29) (a + 6) Ha.2.2.2.2.2.2.2.1 0 (by omega) (by omega)
  have lb := fun F C => @aR_2 h F C 3 (b + 16) (b + 29) (b + 6) Hb.2.2.2.2.2.2.2.1 0 (by omega) (by omega)
  have ga := fun F C => zw_gR (h := h) (F := F) (C := C) Ha.2.1.2.2.1
  have gb := fun F C => zw_gR (h := h) (F := F) (C := C) Hb.2.1.2.2.1
  have ga1 := fun F C => zw_gR (h := h) (F := F) (C := C) Ha.2.1.2.2.2.1
  have gb1 := fun F C => zw_gR (h := h) (F := F) (C := C) Hb.2.1.2.2.2.1
  have ga2 := fun F C => zw_gR (h := h) (F := F) (C := C) Ha.2.1.2.2.2.2
  have gb2 := fun F C => zw_gR (h := h) (F := F) (C := C) Hb.2.1.2.2.2.2
  have w1 := fun F C m as => zw_v (h := h) (F := F) (C := C) (m := m) (as := as) Pa.1.1
  have w2 := fun F C m as => zw_v (h := h) (F := F) (C := C) (m := m) (as := as) Pa.2.1.1
  have w3 := fun F C m as => zw_v (h := h) (F := F) (C := C) (m := m) (as := as) Pa.2.2.1
  have dd : decide (i32 2 ≤ i32 0) = false := by decide
  have ss : i32 0 + i32 1 = i32 1 := by decide
  have i0 : ((if (0 : Int) = 0 then (a + 7 : Nat) else a + 20) = a + 7) ∧ ((if (0 : Int) = 0 then (b + 7 : Nat) else b + 20) = b + 7) ∧ ((if (0 : Int) = 0 then (a + 14 : Nat) else a + 27) = a + 14) ∧ ((if (0 : Int) = 0 then (b + 14 : Nat) else b + 27) = b + 14) ∧ ((if (0 : Int) = 0 then (a + 16 : Nat) else a + 29) = a + 16) ∧ ((if (0 : Int) = 0 then (b + 16 : Nat) else b + 29) = b + 16) := ⟨rfl, rfl, rfl, rfl, rfl, rfl⟩
  rw [i0.1] at ra
  rw [i0.2.1] at rb
  rw [i0.2.2.1] at ya
  rw [i0.2.2.2.1] at yb
  rw [i0.2.2.2.2.1] at la
  rw [i0.2.2.2.2.2] at lb
  refine ⟨F3, C3, ?_, fun x hx => ⟨fun k => ((f3 x (by omega)).1 k).trans (((f2 x (by omega)).1 k).trans ((f1 x (by omega)).1 k)), (f3 x (by omega)).2.trans ((f2 x (by omega)).2.trans (f1 x (by omega)).2)⟩, fun D V hD => ?_, fun D V => ?_, fun D V => ?_, ?_, ?_⟩
  · rw [e_Told_copy_7]
    simp only [zoI_s, zoR_s, zoH_s, zoL_s, zbI_s, zbV_s, zbR_s, zbL_s, zif_t, zif_f, zrz_0, zrz_1, decide_true, decide_false, dd, ga, ra, gb, rb, w1, e1, ga1, ya, gb1, yb, w2, e2, ga2, la, gb2, lb, w3, e3, ss]
  · exact ((v1 D V hD).same (fun k => (f2 _ (by omega)).1 k) (fun j _ _ => (f2 _ (by omega)).2)).same (fun k => (f3 _ (by omega)).1 k) (fun j _ _ => (f3 _ (by omega)).2)
  · exact (v2 D (V.same (fun k => (f1 _ (by omega)).1 k) (f1 _ (by omega)).2)).same (fun k => (f3 _ (by omega)).1 k) (f3 _ (by omega)).2
  · exact v3 D ((V.same (fun k => (f1 _ (by omega)).1 k) (fun j _ _ => (f1 _ (by omega)).2)).same (fun k => (f2 _ (by omega)).1 k) (fun j _ _ => (f2 _ (by omega)).2))
  · rw [(f3 _ (by omega)).1, u2, q1]
  · rw [u3, q2]
theorem t_turn1 (Ha : toS h a) (Hb : toS h b) (ab : a + 33 ≤ b ∨ b + 33 ≤ a) (Z : szP F b) : ∃ F' C', zr 138 7 [yR (some a), yR (some b), yI (i32 1)] [] (zw h F C) = zr 138 7 [yR (some a), yR (some b), yI (i32 2)] [] (zw h F' C') ∧ (∀ x, x < a + 20 ∨ a + 33 ≤ x → (∀ k, F' k x = F k x) ∧ C' x = C x) ∧ (∀ D, duV F C (b + 20) D → (D 0 ≤ 6 ∧ D 1 ≤ 4 ∧ D 2 ≤ 8) → duV F' C' (a + 20) D) ∧ (∀ D, yeV F C (b + 27) D → yeV F' C' (a + 27) D) ∧ (∀ D, loV F C (b + 29) D → loV F' C' (a + 29) D) ∧ F' 640 (a + 27) = F 640 (b + 27) ∧ F' 192 (a + 29) = F 192 (b + 29) := by
  have z := Z 1 (by omega)
  have z1 : 0 ≤ F 640 (b + 27) ∧ F 640 (b + 27) ≤ 40 := z.1
  have z2 : 0 ≤ F 192 (b + 29) ∧ F 192 (b + 29) ≤ 8 := z.2
  have Pa := Ha.2.2.2.2.2.2.2.2.2.1
  have Pb := Hb.2.2.2.2.2.2.2.2.2.1
  obtain ⟨F1, C1, e1, f1, v1⟩ := c_dcopy (F := F) (C := C) Pa.1 Pb.1 (by omega)
  have q1 : F1 640 (b + 27) = F 640 (b + 27) := (f1 _ (by omega)).1 _
  obtain ⟨F2, C2, e2, f2, u2, v2⟩ := c_ycopy (F := F1) (C := C1) Pa.2.1 Pb.2.1 (by omega) (by rw [q1]; exact z1.1) (by rw [q1]; exact z1.2)
  have q2 : F2 192 (b + 29) = F 192 (b + 29) := ((f2 _ (by omega)).1 _).trans ((f1 _ (by omega)).1 _)
  obtain ⟨F3, C3, e3, f3, u3, v3⟩ := c_lcopy (F := F2) (C := C2) Pa.2.2 Pb.2.2 (by omega) (by rw [q2]; exact z2.1) (by rw [q2]; exact z2.2)
  have ra := fun F C => @aR_2 h F C 2 (a + 7) (a + 20) (a + 4) Ha.2.2.2.2.2.1 1 (by omega) (by omega)
  have rb := fun F C => @aR_2 h F C 2 (b + 7) (b + 20) (b + 4) Hb.2.2.2.2.2.1 1 (by omega) (by omega)
  have ya := fun F C => @aR_2 h F C 10 (a + 14) (a + 27) (a + 5) Ha.2.2.2.2.2.2.1 1 (by omega) (by omega)
  have yb := fun F C => @aR_2 h F C 10 (b + 14) (b + 27) (b + 5) Hb.2.2.2.2.2.2.1 1 (by omega) (by omega)
  have la := fun F C => @aR_2 h F C 3 (a + 16) (a + 29) (a + 6) Ha.2.2.2.2.2.2.2.1 1 (by omega) (by omega)
  have lb := fun F C => @aR_2 h F C 3 (b + 16) (b + 29) (b + 6) Hb.2.2.2.2.2.2.2.1 1 (by omega) (by omega)
  have ga := fun F C => zw_gR (h := h) (F := F) (C := C) Ha.2.1.2.2.1
  have gb := fun F C => zw_gR (h := h) (F := F) (C := C) Hb.2.1.2.2.1
  have ga1 := fun F C => zw_gR (h := h) (F := F) (C := C) Ha.2.1.2.2.2.1
  have gb1 := fun F C => zw_gR (h := h) (F := F) (C := C) Hb.2.1.2.2.2.1
  have ga2 := fun F C => zw_gR (h := h) (F := F) (C := C) Ha.2.1.2.2.2.2
  have gb2 := fun F C => zw_gR (h := h) (F := F) (C := C) Hb.2.1.2.2.2.2
  have w1 := fun F C m as => zw_v (h := h) (F := F) (C := C) (m := m) (as := as) Pa.1.1
  have w2 := fun F C m as => zw_v (h := h) (F := F) (C := C) (m := m) (as := as) Pa.2.1.1
  have w3 := fun F C m as => zw_v (h := h) (F := F) (C := C) (m := m) (as := as) Pa.2.2.1
  have dd : decide (i32 2 ≤ i32 1) = false := by decide
  have ss : i32 1 + i32 1 = i32 2 := by decide
  have i0 : ((if (1 : Int) = 0 then (a + 7 : Nat) else a + 20) = a + 20) ∧ ((if (1 : Int) = 0 then (b + 7 : Nat) else b + 20) = b + 20) ∧ ((if (1 : Int) = 0 then (a + 14 : Nat) else a + 27) = a + 27) ∧ ((if (1 : Int) = 0 then (b + 14 : Nat) else b + 27) = b + 27) ∧ ((if (1 : Int) = 0 then (a + 16 : Nat) else a + 29) = a + 29) ∧ ((if (1 : Int) = 0 then (b + 16 : Nat) else b + 29) = b + 29) := ⟨rfl, rfl, rfl, rfl, rfl, rfl⟩
  rw [i0.1] at ra
  rw [i0.2.1] at rb
  rw [i0.2.2.1] at ya
  rw [i0.2.2.2.1] at yb
  rw [i0.2.2.2.2.1] at la
  rw [i0.2.2.2.2.2] at lb
  refine ⟨F3, C3, ?_, fun x hx => ⟨fun k => ((f3 x (by omega)).1 k).trans (((f2 x (by omega)).1 k).trans ((f1 x (by omega)).1 k)), (f3 x (by omega)).2.trans ((f2 x (by omega)).2.trans (f1 x (by omega)).2)⟩, fun D V hD => ?_, fun D V => ?_, fun D V => ?_, ?_, ?_⟩
  · rw [e_Told_copy_7]
    simp only [zoI_s, zoR_s, zoH_s, zoL_s, zbI_s, zbV_s, zbR_s, zbL_s, zif_t, zif_f, zrz_0, zrz_1, decide_true, decide_false, dd, ga, ra, gb, rb, w1, e1, ga1, ya, gb1, yb, w2, e2, ga2, la, gb2, lb, w3, e3, ss]
  · exact ((v1 D V hD).same (fun k => (f2 _ (by omega)).1 k) (fun j _ _ => (f2 _ (by omega)).2)).same (fun k => (f3 _ (by omega)).1 k) (fun j _ _ => (f3 _ (by omega)).2)
  · exact (v2 D (V.same (fun k => (f1 _ (by omega)).1 k) (f1 _ (by omega)).2)).same (fun k => (f3 _ (by omega)).1 k) (f3 _ (by omega)).2
  · exact v3 D ((V.same (fun k => (f1 _ (by omega)).1 k) (fun j _ _ => (f1 _ (by omega)).2)).same (fun k => (f2 _ (by omega)).1 k) (fun j _ _ => (f2 _ (by omega)).2))
  · rw [(f3 _ (by omega)).1, u2, q1]
  · rw [u3, q2]
theorem c_tcopy (Ha : toS h a) (Hb : toS h b) (ab : a + 33 ≤ b ∨ b + 33 ≤ a) (V : toV F C b A) (O : aOK A) (Z : szP F b) : ∃ F' C', zc 138 [zR (some a), zR (some b)] (zw h F C) = some (zI 0, zw h F' C') ∧ (∀ x, x < a ∨ a + 33 ≤ x → (∀ k, F' k x = F k x) ∧ C' x = C x) ∧ toV F' C' a A ∧ szP F' a := by
  obtain ⟨⟨o0, o1, o2⟩, o4, o5, o6, o7, o8, o9⟩ := O
  obtain ⟨⟨v1, v2, v3⟩, v4, v5, v6, v7, v8⟩ := V
  have a40 := Ha.2.2.2.2.2.2.2.2.2.2
  have b40 := Hb.2.2.2.2.2.2.2.2.2.2
  have e0 := c_acopy (F := F) (C := C) Ha.2.2.2.1 Hb.2.2.2.1 (by omega) (by rw [v3]; exact o4.1) (by rw [v3]; exact o4.2)
  rw [v3] at e0
  have f0 : ∀ x, x ≠ a + 1 → x ≠ a + 2 → (∀ k, zsF F 513 (a + 1) (A 4) k x = F k x) ∧ zsW C (a + 1 + 1) (fun j => if 0 ≤ j ∧ j < A 4 then C (b + 1 + 1) j else C (a + 1 + 1) j) x = C x := fun x h1 h2 => ⟨fun k => zsF_a h1, zsW_a (by omega)⟩
  have Z0 : szP (zsF F 513 (a + 1) (A 4)) b := by
    intro y hy
    rw [zsF_k (by omega), zsF_k (by omega)]; exact Z y hy
  obtain ⟨F1, C1, e1, f1, d1, y1, l1, s1, s1'⟩ := t_turn0 (F := zsF F 513 (a + 1) (A 4)) (C := zsW C (a + 1 + 1) (fun j => if 0 ≤ j ∧ j < A 4 then C (b + 1 + 1) j else C (a + 1 + 1) j)) Ha Hb ab Z0
  have Z1 : szP F1 b := by
    intro y hy
    rw [(f1 _ (by omega)).1, (f1 _ (by omega)).1]; exact Z0 y hy
  obtain ⟨F2, C2, e2, f2, d2, y2, l2, s2, s2'⟩ := t_turn1 (F := F1) (C := C1) Ha Hb ab Z1
  have fb : ∀ x, (x < a + 7 ∨ a + 33 ≤ x) → x ≠ a + 1 → x ≠ a + 2 → (∀ k, F2 k x = F k x) ∧ C2 x = C x := fun x hx h1 h2 => ⟨fun k => ((f2 x (by omega)).1 k).trans (((f1 x (by omega)).1 k).trans ((f0 x h1 h2).1 k)), (f2 x (by omega)).2.trans ((f1 x (by omega)).2.trans (f0 x h1 h2).2)⟩
  have yy := @zw_aY h F2 C2 (b + 3) (a + 3) 0 3 3 3 Hb.2.2.2.2.1 Ha.2.2.2.2.1 (Or.inl rfl) (by omega) (by omega) (by omega) (by omega) (by omega) (by omega) (by omega)
  have ga := fun F C => zw_gR (h := h) (F := F) (C := C) Ha.2.1.1
  have gb := fun F C => zw_gR (h := h) (F := F) (C := C) Hb.2.1.1
  have ga1 := fun F C => zw_gR (h := h) (F := F) (C := C) Ha.2.1.2.1
  have gb1 := fun F C => zw_gR (h := h) (F := F) (C := C) Hb.2.1.2.1
  have w1 := fun F C m as => zw_v (h := h) (F := F) (C := C) (m := m) (as := as) Ha.2.2.2.1.1
  have i1 := fun C => zw_gI (h := h) (F := F2) (C := C) Hb.2.2.1.1
  have i1' : F2 581 b = A 5 := by rw [(fb b (by omega) (by omega) (by omega)).1]; exact v1
  have i2 := fun C => zw_gI (h := h) (F := zsF F2 581 a (A 5)) (C := C) Hb.2.2.1.2
  have i2' : zsF F2 581 a (A 5) 582 b = A 6 := by rw [zsF_k (by omega), (fb b (by omega) (by omega) (by omega)).1]; exact v2
  rw [i1'] at i1
  rw [i2'] at i2
  have p1 := fun C => zw_pI (h := h) (F := F2) (C := C) Ha.2.2.1.1 (A 5)
  have p2 := fun C => zw_pI (h := h) (F := zsF F2 581 a (A 5)) (C := C) Ha.2.2.1.2 (A 6)
  have dd : decide (i32 2 ≤ i32 2) = true := by decide
  have e3 : zr 138 7 [yR (some a), yR (some b), yI (i32 2)] [] (zw h F2 C2) = some (zI 0, zw h (zsF (zsF F2 581 a (A 5)) 582 a (A 6)) (zsW C2 (a + 3) (fun j => if 0 ≤ j ∧ j < 3 then C2 (b + 3) j else C2 (a + 3) j))) := by
    rw [e_Told_copy_7]
    simp only [zoI_s, zoR_s, zoH_s, zoL_s, zbI_s, zbV_s, zbR_s, zbL_s, zif_t, zif_f, zrz_0, zrz_1, decide_true, decide_false, dd, ga1, gb1, yy, i1, p1, i2, p2]
  have gF : ∀ k x, x ≠ a → zsF (zsF F2 581 a (A 5)) 582 a (A 6) k x = F2 k x := fun k x hx => by rw [zsF_a hx, zsF_a hx]
  have gC : ∀ x, x ≠ a + 3 → zsW C2 (a + 3) (fun j => if 0 ≤ j ∧ j < 3 then C2 (b + 3) j else C2 (a + 3) j) x = C2 x := fun x hx => zsW_a hx
  refine ⟨zsF (zsF F2 581 a (A 5)) 582 a (A 6), zsW C2 (a + 3) (fun j => if 0 ≤ j ∧ j < 3 then C2 (b + 3) j else C2 (a + 3) j), ?_, fun x hx => ⟨fun k => by rw [gF k x (by omega), (fb x (by omega) (by omega) (by omega)).1], by rw [gC x (by omega), (fb x (by omega) (by omega) (by omega)).2]⟩, ⟨⟨?_, ?_, ?_⟩, ?_, ?_, ?_, ?_, ?_⟩, ?_⟩
  · have e00 : zr 138 7 [yR (some a), yR (some b), yI (i32 0)] [] (zw h (zsF F 513 (a + 1) (A 4)) (zsW C (a + 1 + 1) (fun j => if 0 ≤ j ∧ j < A 4 then C (b + 1 + 1) j else C (a + 1 + 1) j))) = _ := e1.trans (e2.trans e3)
    simp only [zoI_s, zoR_s, zoH_s, zoL_s, zbI_s, zbV_s, zbR_s, zbL_s, zif_t, zif_f, zrz_0, zrz_1, decide_true, decide_false, e_Told_copy, ga, gb, w1, e0, e00]
  · rw [zsF_k (by omega), zsF_s]
  · rw [zsF_s]
  · rw [gF _ _ (by omega), (f2 _ (by omega)).1, (f1 _ (by omega)).1, zsF_s]
  · intro i i0 hi
    rw [gC _ (by omega), (f2 _ (by omega)).2, (f1 _ (by omega)).2, zsW_s]
    rw [if_pos ⟨i0, hi⟩]; exact v4 i i0 hi
  · intro i i0 hi
    rw [zsW_s]
    rw [if_pos ⟨i0, hi⟩, (fb (b + 3) (by omega) (by omega) (by omega)).2]; exact v5 i i0 hi
  · intro d hd
    have o := o6 d (by omega) hd
    have w := v6 d hd
    have sz : (fun j => A (610 + 44 * (d : Int) + j)) 0 ≤ 6 ∧ (fun j => A (610 + 44 * (d : Int) + j)) 1 ≤ 4 ∧ (fun j => A (610 + 44 * (d : Int) + j)) 2 ≤ 8 := ⟨o.1.2, o.2.1.2, o.2.2.1.2⟩
    rcases (show d = 0 ∨ d = 1 by omega) with rfl | rfl
    · exact ((d1 _ (w.same (fun k => (f0 _ (by omega) (by omega)).1 k) (fun j _ _ => (f0 _ (by omega) (by omega)).2)) sz).same (fun k => (f2 _ (by omega)).1 k) (fun j _ _ => (f2 _ (by omega)).2)).same (fun k => gF k _ (by omega)) (fun j _ _ => gC _ (by omega))
    · exact (d2 _ ((w.same (fun k => (f0 _ (by omega) (by omega)).1 k) (fun j _ _ => (f0 _ (by omega) (by omega)).2)).same (fun k => (f1 _ (by omega)).1 k) (fun j _ _ => (f1 _ (by omega)).2)) sz).same (fun k => gF k _ (by omega)) (fun j _ _ => gC _ (by omega))
  · intro d hd
    have w := v7 d hd
    rcases (show d = 0 ∨ d = 1 by omega) with rfl | rfl
    · exact ((y1 _ (w.same (fun k => (f0 _ (by omega) (by omega)).1 k) (f0 _ (by omega) (by omega)).2)).same (fun k => (f2 _ (by omega)).1 k) (f2 _ (by omega)).2).same (fun k => gF k _ (by omega)) (gC _ (by omega))
    · exact (y2 _ ((w.same (fun k => (f0 _ (by omega) (by omega)).1 k) (f0 _ (by omega) (by omega)).2).same (fun k => (f1 _ (by omega)).1 k) (f1 _ (by omega)).2)).same (fun k => gF k _ (by omega)) (gC _ (by omega))
  · intro d hd
    have w := v8 d hd
    rcases (show d = 0 ∨ d = 1 by omega) with rfl | rfl
    · exact ((l1 _ (w.same (fun k => (f0 _ (by omega) (by omega)).1 k) (fun j _ _ => (f0 _ (by omega) (by omega)).2))).same (fun k => (f2 _ (by omega)).1 k) (fun j _ _ => (f2 _ (by omega)).2)).same (fun k => gF k _ (by omega)) (fun j _ _ => gC _ (by omega))
    · exact (l2 _ ((w.same (fun k => (f0 _ (by omega) (by omega)).1 k) (fun j _ _ => (f0 _ (by omega) (by omega)).2)).same (fun k => (f1 _ (by omega)).1 k) (fun j _ _ => (f1 _ (by omega)).2))).same (fun k => gF k _ (by omega)) (fun j _ _ => gC _ (by omega))
  · intro y hy
    rcases (show y = 0 ∨ y = 1 by omega) with rfl | rfl
    · have z := Z0 0 (by omega)
      rw [gF _ _ (by omega), gF _ _ (by omega), (f2 _ (by omega)).1, (f2 _ (by omega)).1]
      have s := s1
      have s' := s1'
      exact ⟨by rw [show F1 640 (a + 14 + 13 * 0) = _ from s1]; exact z.1, by rw [show F1 192 (a + 16 + 13 * 0) = _ from s1']; exact z.2⟩
    · have z := Z1 1 (by omega)
      rw [gF _ _ (by omega), gF _ _ (by omega)]
      exact ⟨by rw [show F2 640 (a + 14 + 13 * 1) = _ from s2]; exact z.1, by rw [show F2 192 (a + 16 + 13 * 1) = _ from s2']; exact z.2⟩
end TC
