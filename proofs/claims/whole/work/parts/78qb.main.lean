/-! the class made -/
section CM
def wCL1 : List (Nat × Nat) := [(0, 11), (35, 5), (50, 1), (57, 0), (60, 4), (65, 7), (68, 6)]
def wRF1 : List (Nat × Nat × Nat) := [(704, 0, 1), (705, 0, 34), (706, 0, 35), (707, 0, 50), (708, 0, 57), (709, 0, 60), (710, 0, 65), (711, 0, 68), (320, 35, 36), (321, 35, 43), (322, 35, 45), (325, 35, 2), (326, 35, 49), (66, 50, 51), (67, 50, 52), (68, 50, 53), (69, 50, 54), (70, 50, 55), (71, 50, 56), (1, 57, 58), (2, 57, 59), (256, 60, 61), (257, 60, 62), (258, 60, 63), (259, 60, 64), (449, 65, 66), (450, 65, 67), (384, 68, 69), (385, 68, 70), (386, 68, 71)]
def wIT1 : List (Nat × Nat) := [(323, 35), (324, 35), (327, 35), (328, 35), (329, 35), (330, 35), (64, 50), (65, 50), (72, 50), (73, 50), (74, 50), (75, 50), (76, 50), (77, 50), (78, 50), (79, 50), (80, 50), (0, 57), (3, 57), (448, 65)]
def wRW1 : List (Nat × Nat) := [(49, 5), (51, 6), (52, 6), (53, 4), (54, 4), (55, 8), (56, 8), (58, 800), (59, 800), (61, 576), (62, 8), (63, 256), (64, 8), (66, 80), (67, 9), (69, 8), (70, 4), (71, 6)]
/-- what the class's constructor leaves -/
def half (L : Nat) (xs : Nat → Int32) (z : zHeap) : Prop := hN z = 72 ∧ hS z = 4227 ∧ (∀ q ∈ wCL1, hCL z q.1 = some q.2) ∧ (∀ q ∈ wRF1, hFR z q.1 q.2.1 = some (some q.2.2)) ∧ (∀ q ∈ wIT1, itS z q.1 q.2) ∧ (∀ q ∈ wRW1, rwS z q.1 0 q.2) ∧ toS z 1 ∧ (duS z 36 ∧ yeS z 43 ∧ loS z 45) ∧ (hFI z 581 1 = some (i32 0) ∧ hFI z 582 1 = some (i32 (-1)) ∧ hFI z 513 2 = some 0 ∧ hAI z 4 = some (0, 3, fun _ => 0)) ∧ (∀ y, y < 2 → hFI z 640 (1 + 14 + 13 * y) = some 0 ∧ hFI z 192 (1 + 16 + 13 * y) = some 0) ∧ hAR z 34 = some (9, 3, fun _ => none) ∧ (∀ a, 1000000 ≤ a → hAI z a = hAI (zh0 L xs) a)
theorem i_Main (L : Nat) (xs : Nat → Int32) : ∃ z, zv 11 149 [zR (some 0)] (znO zTb 11 (zh0 L xs)) = some (zI 0, z) ∧ half L xs z := by
  have K : (1000 : Nat) < zK0 := by unfold zK0; omega
  obtain ⟨g, hg⟩ : ∃ y, y = zh0 L xs := ⟨_, rfl⟩
  have ng : hN g = 0 := by rw [hg]; rfl
  have sg : hS g = 0 := by rw [hg]; rfl
  have O : ∀ k, k / 64 = 11 → zfk zTb k = 2 → hFR (znO zTb 11 g) k 0 = some none := fun k hk hz => by
    have := nO_own g hk hz
    rw [ng] at this
    exact this
  obtain ⟨g1, q1⟩ : ∃ y, y = znO zTb 11 g := ⟨_, rfl⟩
  have n1 : hN g1 = 1 := by rw [q1, nO_N, ng]
  have s1 : hS g1 = 8 := by rw [q1, nO_S, sg]; rfl
  have f1 : ∀ k, hFR g1 k 0 = hFR (znO zTb 11 g) k 0 := fun k => by rw [q1]
  have c1 : hCL g1 0 = some 11 := by rw [q1, nO_CL, if_pos ng.symm]
  have E1 : ext g g1 := by rw [q1]; exact ext.nO g 11
  obtain ⟨g2, e2, x2, n2, s2, T1, T2, T3⟩ := i_Told g1 (by omega)
  have f2 : ∀ k, hFR g2 k 0 = hFR g1 k 0 := fun k => (x2.2.1 k 0 (by omega)).2
  obtain ⟨g3, q3⟩ : ∃ y, y = zsR g2 704 0 (some (hN g1)) := ⟨_, rfl⟩
  have p3 : zpR g2 (some 0) 704 (some (hN g1)) = some g3 := by rw [q3]; exact zpR_s (y := none) _ (by rw [f2, f1]; exact O 704 rfl (by decide))
  have n3 : hN g3 = hN g2 := by rw [q3, sR_N]
  have s3 : hS g3 = hS g2 := by rw [q3, sR_S]
  have f3 : ∀ k, hFR g3 k 0 = if k = 704 then some (some (hN g1)) else hFR g2 k 0 := fun k => by rw [q3, sR_own]
  have Y3 : xp 0 g2 g3 := by rw [q3]; exact xp.sR _ _ _ _
  have X3 : xp 0 g1 g3 := x2.xp.trans Y3
  have E3 : ext g g3 := by rw [q3]; exact (E1.trans x2).sR (by omega)
  rw [n1] at T1 T2 T3
  obtain ⟨g4, q4⟩ : ∃ y, y = nref 9 3 705 0 g3 := ⟨_, rfl⟩
  have p4 : zpR (znQ 9 3 g3) (some 0) 705 (some (hN g3)) = some g4 := by rw [q4]; exact zpR_s (y := none) _ (by show hFR g3 705 0 = _; rw [f3, if_neg (by omega), f2, f1]; exact O 705 rfl (by decide))
  have n4 : hN g4 = hN g3 + 1 := by rw [q4, nref_N]
  have s4 : hS g4 = hS g3 + 3 := by rw [q4, nref_S]
  have f4 : ∀ k, hFR g4 k 0 = if k = 705 then some (some (hN g3)) else hFR g3 k 0 := fun k => by rw [q4, nref_own]
  have Y4 : xp 0 g3 g4 := by rw [q4]; exact xp.ref _ _ _ _ _
  have E4 : ext g g4 := by rw [q4]; exact E3.ref (by omega)
  have A4 : hAR g4 34 = some (9, 3, fun _ => none) := by rw [q4, nref_AR, if_pos (by omega)]
  have a4 : hN g4 = 35 := by omega
  have r5 : zgR (znO zTb 5 g4) (some 0) 704 = some (some 1) := by
    show hFR (znO zTb 5 g4) 704 0 = _
    rw [nO_FR, if_neg (by omega), f4, if_neg (by omega), f3, if_pos rfl, n1]
  have r6 : zgR (znO zTb 5 g4) (some 1) 576 = some (some 2) := by
    show hFR (znO zTb 5 g4) 576 1 = _
    rw [nO_FR, if_neg (by omega), (Y4.2.1 576 1 (by omega)).2 (by omega), (Y3.2.1 576 1 (by omega)).2 (by omega)]; exact T1.2.1.1
  obtain ⟨g5, e5, x5, n5, s5, R1, ⟨R2, R3, R4, R5, R6⟩, R7, ⟨R8, R9, R10⟩, R11⟩ := i_Reader g4 2 (by omega)
  have f5 : ∀ k, hFR g5 k 0 = hFR g4 k 0 := fun k => (x5.2.1 k 0 (by omega)).2
  obtain ⟨g6, q6⟩ : ∃ y, y = zsR g5 706 0 (some (hN g4)) := ⟨_, rfl⟩
  rw [a4] at R1 R2 R3 R4 R5 R6 R7 R8 R9 R10 R11
  have p6 : zpR g5 (some 0) 706 (some (hN g4)) = some g6 := by rw [q6]; exact zpR_s (y := none) _ (by rw [f5, f4, if_neg (by omega), f3, if_neg (by omega), f2, f1]; exact O 706 rfl (by decide))
  have n6 : hN g6 = hN g5 := by rw [q6, sR_N]
  have s6 : hS g6 = hS g5 := by rw [q6, sR_S]
  have f6 : ∀ k, hFR g6 k 0 = if k = 706 then some (some (hN g4)) else hFR g5 k 0 := fun k => by rw [q6, sR_own]
  have Y6 : xp 0 g5 g6 := by rw [q6]; exact xp.sR _ _ _ _
  have X6 : xp 0 g4 g6 := x5.xp.trans Y6
  have E6 : ext g g6 := by rw [q6]; exact (E4.trans x5).sR (by omega)
  obtain ⟨g7, e7, M7⟩ : ∃ y, zv 1 11 [zR (some (hN g6))] (znO zTb 1 g6) = some (zI 0, y) ∧ made g6 y 1 lCo := ⟨_, i_Course g6, made_mk g6 1 lCo (by decide)⟩
  have x7 := M7.1
  have n7 : hN g7 = hN g6 + 7 := M7.2.1.trans (by show hN g6 + 1 + 6 = _; omega)
  have s7 : hS g7 = hS g6 + 53 := M7.2.2.1.trans (by show hS g6 + 17 + 36 = _; omega)
  have f7 : ∀ k, hFR g7 k 0 = hFR g6 k 0 := fun k => (x7.2.1 k 0 (by omega)).2
  obtain ⟨g8, q8⟩ : ∃ y, y = zsR g7 707 0 (some (hN g6)) := ⟨_, rfl⟩
  have p8 : zpR g7 (some 0) 707 (some (hN g6)) = some g8 := by rw [q8]; exact zpR_s (y := none) _ (by rw [f7, f6, if_neg (by omega), f5, f4, if_neg (by omega), f3, if_neg (by omega), f2, f1]; exact O 707 rfl (by decide))
  have n8 : hN g8 = hN g7 := by rw [q8, sR_N]
  have s8 : hS g8 = hS g7 := by rw [q8, sR_S]
  have f8 : ∀ k, hFR g8 k 0 = if k = 707 then some (some (hN g6)) else hFR g7 k 0 := fun k => by rw [q8, sR_own]
  have Y8 : xp 0 g7 g8 := by rw [q8]; exact xp.sR _ _ _ _
  have X8 : xp 0 g6 g8 := x7.xp.trans Y8
  have E8 : ext g g8 := by rw [q8]; exact (E6.trans x7).sR (by omega)
  obtain ⟨g9, e9, M9⟩ : ∃ y, zv 0 0 [zR (some (hN g8))] (znO zTb 0 g8) = some (zI 0, y) ∧ made g8 y 0 lAc := ⟨_, i_Acts g8, made_mk g8 0 lAc (by decide)⟩
  have x9 := M9.1
  have n9 : hN g9 = hN g8 + 3 := M9.2.1.trans (by show hN g8 + 1 + 2 = _; omega)
  have s9 : hS g9 = hS g8 + 1604 := M9.2.2.1.trans (by show hS g8 + 4 + 1600 = _; omega)
  have f9 : ∀ k, hFR g9 k 0 = hFR g8 k 0 := fun k => (x9.2.1 k 0 (by omega)).2
  obtain ⟨g10, q10⟩ : ∃ y, y = zsR g9 708 0 (some (hN g8)) := ⟨_, rfl⟩
  have p10 : zpR g9 (some 0) 708 (some (hN g8)) = some g10 := by rw [q10]; exact zpR_s (y := none) _ (by rw [f9, f8, if_neg (by omega), f7, f6, if_neg (by omega), f5, f4, if_neg (by omega), f3, if_neg (by omega), f2, f1]; exact O 708 rfl (by decide))
  have n10 : hN g10 = hN g9 := by rw [q10, sR_N]
  have s10 : hS g10 = hS g9 := by rw [q10, sR_S]
  have f10 : ∀ k, hFR g10 k 0 = if k = 708 then some (some (hN g8)) else hFR g9 k 0 := fun k => by rw [q10, sR_own]
  have Y10 : xp 0 g9 g10 := by rw [q10]; exact xp.sR _ _ _ _
  have X10 : xp 0 g8 g10 := x9.xp.trans Y10
  have E10 : ext g g10 := by rw [q10]; exact (E8.trans x9).sR (by omega)
  obtain ⟨g11, e11, M11⟩ : ∃ y, zv 4 56 [zR (some (hN g10))] (znO zTb 4 g10) = some (zI 0, y) ∧ made g10 y 4 lPl := ⟨_, i_Plans g10, made_mk g10 4 lPl (by decide)⟩
  have x11 := M11.1
  have n11 : hN g11 = hN g10 + 5 := M11.2.1.trans (by show hN g10 + 1 + 4 = _; omega)
  have s11 : hS g11 = hS g10 + 852 := M11.2.2.1.trans (by show hS g10 + 4 + 848 = _; omega)
  have f11 : ∀ k, hFR g11 k 0 = hFR g10 k 0 := fun k => (x11.2.1 k 0 (by omega)).2
  obtain ⟨g12, q12⟩ : ∃ y, y = zsR g11 709 0 (some (hN g10)) := ⟨_, rfl⟩
  have p12 : zpR g11 (some 0) 709 (some (hN g10)) = some g12 := by rw [q12]; exact zpR_s (y := none) _ (by rw [f11, f10, if_neg (by omega), f9, f8, if_neg (by omega), f7, f6, if_neg (by omega), f5, f4, if_neg (by omega), f3, if_neg (by omega), f2, f1]; exact O 709 rfl (by decide))
  have n12 : hN g12 = hN g11 := by rw [q12, sR_N]
  have s12 : hS g12 = hS g11 := by rw [q12, sR_S]
  have f12 : ∀ k, hFR g12 k 0 = if k = 709 then some (some (hN g10)) else hFR g11 k 0 := fun k => by rw [q12, sR_own]
  have Y12 : xp 0 g11 g12 := by rw [q12]; exact xp.sR _ _ _ _
  have X12 : xp 0 g10 g12 := x11.xp.trans Y12
  have E12 : ext g g12 := by rw [q12]; exact (E10.trans x11).sR (by omega)
  obtain ⟨g13, e13, M13⟩ : ∃ y, zv 7 123 [zR (some (hN g12))] (znO zTb 7 g12) = some (zI 0, y) ∧ made g12 y 7 lSu := ⟨_, i_Suspects g12, made_mk g12 7 lSu (by decide)⟩
  have x13 := M13.1
  have n13 : hN g13 = hN g12 + 3 := M13.2.1.trans (by show hN g12 + 1 + 2 = _; omega)
  have s13 : hS g13 = hS g12 + 92 := M13.2.2.1.trans (by show hS g12 + 3 + 89 = _; omega)
  have f13 : ∀ k, hFR g13 k 0 = hFR g12 k 0 := fun k => (x13.2.1 k 0 (by omega)).2
  obtain ⟨g14, q14⟩ : ∃ y, y = zsR g13 710 0 (some (hN g12)) := ⟨_, rfl⟩
  have p14 : zpR g13 (some 0) 710 (some (hN g12)) = some g14 := by rw [q14]; exact zpR_s (y := none) _ (by rw [f13, f12, if_neg (by omega), f11, f10, if_neg (by omega), f9, f8, if_neg (by omega), f7, f6, if_neg (by omega), f5, f4, if_neg (by omega), f3, if_neg (by omega), f2, f1]; exact O 710 rfl (by decide))
  have n14 : hN g14 = hN g13 := by rw [q14, sR_N]
  have s14 : hS g14 = hS g13 := by rw [q14, sR_S]
  have f14 : ∀ k, hFR g14 k 0 = if k = 710 then some (some (hN g12)) else hFR g13 k 0 := fun k => by rw [q14, sR_own]
  have Y14 : xp 0 g13 g14 := by rw [q14]; exact xp.sR _ _ _ _
  have X14 : xp 0 g12 g14 := x13.xp.trans Y14
  have E14 : ext g g14 := by rw [q14]; exact (E12.trans x13).sR (by omega)
  obtain ⟨g15, e15, M15⟩ : ∃ y, zv 6 92 [zR (some (hN g14))] (znO zTb 6 g14) = some (zI 0, y) ∧ made g14 y 6 lSy := ⟨_, i_Survey g14, made_mk g14 6 lSy (by decide)⟩
  have x15 := M15.1
  have n15 : hN g15 = hN g14 + 4 := M15.2.1.trans (by show hN g14 + 1 + 3 = _; omega)
  have s15 : hS g15 = hS g14 + 21 := M15.2.2.1.trans (by show hS g14 + 3 + 18 = _; omega)
  have f15 : ∀ k, hFR g15 k 0 = hFR g14 k 0 := fun k => (x15.2.1 k 0 (by omega)).2
  obtain ⟨g16, q16⟩ : ∃ y, y = zsR g15 711 0 (some (hN g14)) := ⟨_, rfl⟩
  have p16 : zpR g15 (some 0) 711 (some (hN g14)) = some g16 := by rw [q16]; exact zpR_s (y := none) _ (by rw [f15, f14, if_neg (by omega), f13, f12, if_neg (by omega), f11, f10, if_neg (by omega), f9, f8, if_neg (by omega), f7, f6, if_neg (by omega), f5, f4, if_neg (by omega), f3, if_neg (by omega), f2, f1]; exact O 711 rfl (by decide))
  have n16 : hN g16 = hN g15 := by rw [q16, sR_N]
  have s16 : hS g16 = hS g15 := by rw [q16, sR_S]
  have f16 : ∀ k, hFR g16 k 0 = if k = 711 then some (some (hN g14)) else hFR g15 k 0 := fun k => by rw [q16, sR_own]
  have Y16 : xp 0 g15 g16 := by rw [q16]; exact xp.sR _ _ _ _
  have X16 : xp 0 g14 g16 := x15.xp.trans Y16
  have E16 : ext g g16 := by rw [q16]; exact (E14.trans x15).sR (by omega)
  have W14 : xp 0 g14 g16 := X16
  have W12 : xp 0 g12 g16 := X14.trans W14
  have W10 : xp 0 g10 g16 := X12.trans W12
  have W8 : xp 0 g8 g16 := X10.trans W10
  have W6 : xp 0 g6 g16 := X8.trans W8
  have W4 : xp 0 g4 g16 := X6.trans W6
  have W3 : xp 0 g3 g16 := Y4.trans W4
  have W1 : xp 0 g1 g16 := X3.trans W3
  have Z2 : xp 0 g2 g16 := Y3.trans W3
  have Z5 : xp 0 g5 g16 := Y6.trans W6
  have B7 := M7.fin (Y8.trans W8) (show hN g6 = 50 by omega) (by omega)
  have B9 := M9.fin (Y10.trans W10) (show hN g8 = 57 by omega) (by omega)
  have B11 := M11.fin (Y12.trans W12) (show hN g10 = 60 by omega) (by omega)
  have B13 := M13.fin (Y14.trans W14) (show hN g12 = 65 by omega) (by omega)
  have B15 := M15.fin Y16 (show hN g14 = 68 by omega) (by omega)
  have w704 : hFR g16 704 0 = some (some 1) := by rw [f16, if_neg (by omega), f15, f14, if_neg (by omega), f13, f12, if_neg (by omega), f11, f10, if_neg (by omega), f9, f8, if_neg (by omega), f7, f6, if_neg (by omega), f5, f4, if_neg (by omega), f3, if_pos rfl, show hN g1 = 1 by omega]
  have w705 : hFR g16 705 0 = some (some 34) := by rw [f16, if_neg (by omega), f15, f14, if_neg (by omega), f13, f12, if_neg (by omega), f11, f10, if_neg (by omega), f9, f8, if_neg (by omega), f7, f6, if_neg (by omega), f5, f4, if_pos rfl, show hN g3 = 34 by omega]
  have w706 : hFR g16 706 0 = some (some 35) := by rw [f16, if_neg (by omega), f15, f14, if_neg (by omega), f13, f12, if_neg (by omega), f11, f10, if_neg (by omega), f9, f8, if_neg (by omega), f7, f6, if_pos rfl, show hN g4 = 35 by omega]
  have w707 : hFR g16 707 0 = some (some 50) := by rw [f16, if_neg (by omega), f15, f14, if_neg (by omega), f13, f12, if_neg (by omega), f11, f10, if_neg (by omega), f9, f8, if_pos rfl, show hN g6 = 50 by omega]
  have w708 : hFR g16 708 0 = some (some 57) := by rw [f16, if_neg (by omega), f15, f14, if_neg (by omega), f13, f12, if_neg (by omega), f11, f10, if_pos rfl, show hN g8 = 57 by omega]
  have w709 : hFR g16 709 0 = some (some 60) := by rw [f16, if_neg (by omega), f15, f14, if_neg (by omega), f13, f12, if_pos rfl, show hN g10 = 60 by omega]
  have w710 : hFR g16 710 0 = some (some 65) := by rw [f16, if_neg (by omega), f15, f14, if_pos rfl, show hN g12 = 65 by omega]
  have w711 : hFR g16 711 0 = some (some 68) := by rw [f16, if_pos rfl, show hN g14 = 68 by omega]
  have b5 := fun k => (Z5.2.1 k 35 (by omega)).2 (by omega)
  have CLs : ∀ q ∈ wCL1, hCL g16 q.1 = some q.2 := (List.forall_mem_cons.2 ⟨(W1.2.2.2 0 (by omega)).2.trans c1, (List.forall_mem_cons.2 ⟨(Z5.2.2.2 35 (by omega)).2.trans R1, (List.forall_mem_cons.2 ⟨B7.1, (List.forall_mem_cons.2 ⟨B9.1, (List.forall_mem_cons.2 ⟨B11.1, (List.forall_mem_cons.2 ⟨B13.1, (List.forall_mem_cons.2 ⟨B15.1, (fun q hq => absurd hq (List.not_mem_nil))⟩)⟩)⟩)⟩)⟩)⟩)⟩)
  have RFs : ∀ q ∈ wRF1, hFR g16 q.1 q.2.1 = some (some q.2.2) := (List.forall_mem_cons.2 ⟨w704, (List.forall_mem_cons.2 ⟨w705, (List.forall_mem_cons.2 ⟨w706, (List.forall_mem_cons.2 ⟨w707, (List.forall_mem_cons.2 ⟨w708, (List.forall_mem_cons.2 ⟨w709, (List.forall_mem_cons.2 ⟨w710, (List.forall_mem_cons.2 ⟨w711, (List.forall_mem_cons.2 ⟨(b5 320).trans R2, (List.forall_mem_cons.2 ⟨(b5 321).trans R3, (List.forall_mem_cons.2 ⟨(b5 322).trans R4, (List.forall_mem_cons.2 ⟨(b5 325).trans R5, (List.forall_mem_cons.2 ⟨(b5 326).trans R6, (List.forall_mem_cons.2 ⟨(B7.2.2 0 0 6 66 rfl).1, (List.forall_mem_cons.2 ⟨(B7.2.2 1 0 6 67 rfl).1, (List.forall_mem_cons.2 ⟨(B7.2.2 2 0 4 68 rfl).1, (List.forall_mem_cons.2 ⟨(B7.2.2 3 0 4 69 rfl).1, (List.forall_mem_cons.2 ⟨(B7.2.2 4 0 8 70 rfl).1, (List.forall_mem_cons.2 ⟨(B7.2.2 5 0 8 71 rfl).1, (List.forall_mem_cons.2 ⟨(B9.2.2 0 0 800 1 rfl).1, (List.forall_mem_cons.2 ⟨(B9.2.2 1 0 800 2 rfl).1, (List.forall_mem_cons.2 ⟨(B11.2.2 0 0 576 256 rfl).1, (List.forall_mem_cons.2 ⟨(B11.2.2 1 0 8 257 rfl).1, (List.forall_mem_cons.2 ⟨(B11.2.2 2 0 256 258 rfl).1, (List.forall_mem_cons.2 ⟨(B11.2.2 3 0 8 259 rfl).1, (List.forall_mem_cons.2 ⟨(B13.2.2 0 0 80 449 rfl).1, (List.forall_mem_cons.2 ⟨(B13.2.2 1 0 9 450 rfl).1, (List.forall_mem_cons.2 ⟨(B15.2.2 0 0 8 384 rfl).1, (List.forall_mem_cons.2 ⟨(B15.2.2 1 0 4 385 rfl).1, (List.forall_mem_cons.2 ⟨(B15.2.2 2 0 6 386 rfl).1, (fun q hq => absurd hq (List.not_mem_nil))⟩)⟩)⟩)⟩)⟩)⟩)⟩)⟩)⟩)⟩)⟩)⟩)⟩)⟩)⟩)⟩)⟩)⟩)⟩)⟩)⟩)⟩)⟩)⟩)⟩)⟩)⟩)⟩)⟩)⟩)
  have ITs : ∀ q ∈ wIT1, itS g16 q.1 q.2 := (List.forall_mem_cons.2 ⟨⟨0, (Z5.2.1 323 35 (by omega)).1.trans (R7 323 rfl (by decide))⟩, (List.forall_mem_cons.2 ⟨⟨0, (Z5.2.1 324 35 (by omega)).1.trans (R7 324 rfl (by decide))⟩, (List.forall_mem_cons.2 ⟨⟨0, (Z5.2.1 327 35 (by omega)).1.trans (R7 327 rfl (by decide))⟩, (List.forall_mem_cons.2 ⟨⟨0, (Z5.2.1 328 35 (by omega)).1.trans (R7 328 rfl (by decide))⟩, (List.forall_mem_cons.2 ⟨⟨0, (Z5.2.1 329 35 (by omega)).1.trans (R7 329 rfl (by decide))⟩, (List.forall_mem_cons.2 ⟨⟨0, (Z5.2.1 330 35 (by omega)).1.trans (R7 330 rfl (by decide))⟩, (List.forall_mem_cons.2 ⟨⟨0, B7.2.1 64 rfl (by decide)⟩, (List.forall_mem_cons.2 ⟨⟨0, B7.2.1 65 rfl (by decide)⟩, (List.forall_mem_cons.2 ⟨⟨0, B7.2.1 72 rfl (by decide)⟩, (List.forall_mem_cons.2 ⟨⟨0, B7.2.1 73 rfl (by decide)⟩, (List.forall_mem_cons.2 ⟨⟨0, B7.2.1 74 rfl (by decide)⟩, (List.forall_mem_cons.2 ⟨⟨0, B7.2.1 75 rfl (by decide)⟩, (List.forall_mem_cons.2 ⟨⟨0, B7.2.1 76 rfl (by decide)⟩, (List.forall_mem_cons.2 ⟨⟨0, B7.2.1 77 rfl (by decide)⟩, (List.forall_mem_cons.2 ⟨⟨0, B7.2.1 78 rfl (by decide)⟩, (List.forall_mem_cons.2 ⟨⟨0, B7.2.1 79 rfl (by decide)⟩, (List.forall_mem_cons.2 ⟨⟨0, B7.2.1 80 rfl (by decide)⟩, (List.forall_mem_cons.2 ⟨⟨0, B9.2.1 0 rfl (by decide)⟩, (List.forall_mem_cons.2 ⟨⟨0, B9.2.1 3 rfl (by decide)⟩, (List.forall_mem_cons.2 ⟨⟨0, B13.2.1 448 rfl (by decide)⟩, (fun q hq => absurd hq (List.not_mem_nil))⟩)⟩)⟩)⟩)⟩)⟩)⟩)⟩)⟩)⟩)⟩)⟩)⟩)⟩)⟩)⟩)⟩)⟩)⟩)⟩)
  have RWs : ∀ q ∈ wRW1, rwS g16 q.1 0 q.2 := (List.forall_mem_cons.2 ⟨R11.xp Z5 (by omega), (List.forall_mem_cons.2 ⟨⟨_, (B7.2.2 0 0 6 66 rfl).2⟩, (List.forall_mem_cons.2 ⟨⟨_, (B7.2.2 1 0 6 67 rfl).2⟩, (List.forall_mem_cons.2 ⟨⟨_, (B7.2.2 2 0 4 68 rfl).2⟩, (List.forall_mem_cons.2 ⟨⟨_, (B7.2.2 3 0 4 69 rfl).2⟩, (List.forall_mem_cons.2 ⟨⟨_, (B7.2.2 4 0 8 70 rfl).2⟩, (List.forall_mem_cons.2 ⟨⟨_, (B7.2.2 5 0 8 71 rfl).2⟩, (List.forall_mem_cons.2 ⟨⟨_, (B9.2.2 0 0 800 1 rfl).2⟩, (List.forall_mem_cons.2 ⟨⟨_, (B9.2.2 1 0 800 2 rfl).2⟩, (List.forall_mem_cons.2 ⟨⟨_, (B11.2.2 0 0 576 256 rfl).2⟩, (List.forall_mem_cons.2 ⟨⟨_, (B11.2.2 1 0 8 257 rfl).2⟩, (List.forall_mem_cons.2 ⟨⟨_, (B11.2.2 2 0 256 258 rfl).2⟩, (List.forall_mem_cons.2 ⟨⟨_, (B11.2.2 3 0 8 259 rfl).2⟩, (List.forall_mem_cons.2 ⟨⟨_, (B13.2.2 0 0 80 449 rfl).2⟩, (List.forall_mem_cons.2 ⟨⟨_, (B13.2.2 1 0 9 450 rfl).2⟩, (List.forall_mem_cons.2 ⟨⟨_, (B15.2.2 0 0 8 384 rfl).2⟩, (List.forall_mem_cons.2 ⟨⟨_, (B15.2.2 1 0 4 385 rfl).2⟩, (List.forall_mem_cons.2 ⟨⟨_, (B15.2.2 2 0 6 386 rfl).2⟩, (fun q hq => absurd hq (List.not_mem_nil))⟩)⟩)⟩)⟩)⟩)⟩)⟩)⟩)⟩)⟩)⟩)⟩)⟩)⟩)⟩)⟩)⟩)⟩)
  obtain ⟨t1, t2, t3, ⟨t4, t5⟩, t6, t7, t8, t9, t10, t11⟩ := id T1
  refine ⟨g16, ?_, by omega, by omega, CLs, RFs, ITs, RWs, (T1.toS (by omega)).xp Z2 (by omega), ⟨R8.xp Z5 (by omega), R9.xp Z5 (by omega), R10.xp Z5 (by omega)⟩, ⟨?_, ?_, ?_, ?_⟩, fun y hy => ⟨?_, ?_⟩, ?_, fun a ha => ?_⟩
  · rw [← hg, ← q1, zv_s c1, e_Main_init, e2, zbV_s, p3, zoH_s, zl_3, zoN_s, p4, zoH_s, r5, zoR_s, r6, zoR_s, e5, zbV_s, p6, zoH_s, e7, zbV_s, p8, zoH_s, e9, zbV_s, p10, zoH_s, e11, zbV_s, p12, zoH_s, e13, zbV_s, p14, zoH_s, e15, zbV_s, p16, zoH_s]
  · rw [(Z2.2.1 _ 1 (by omega)).1]; exact T2
  · rw [(Z2.2.1 _ 1 (by omega)).1]; exact T3
  · rw [(Z2.2.1 _ 2 (by omega)).1]; exact t5
  · rw [Z2.2.2.1 4 (Or.inl (by omega))]; exact t6
  · rw [(Z2.2.1 _ (1 + 14 + 13 * y) (by omega)).1]; exact (t10 y hy).2.2.2.1
  · rw [(Z2.2.1 _ (1 + 16 + 13 * y) (by omega)).1]; exact (t10 y hy).2.2.2.2
  · rw [(W4.2.2.2 34 (by omega)).1]; exact A4
  · rw [W1.2.2.1 a (Or.inr (by omega)), q1, nO_AI, hg]
end CM
