/-! the law: each turn, all turns -/
section LP
variable {L i : Nat} {xs : Nat → Int32} {h : zHeap} {F : Nat → Nat → Int} {C : Nat → Int → Int}
theorem l_end (W : wOK L xs h F C) (hL : L ≤ 3584) (hi : i + 7 ≤ L) : lgo L xs i (zr 323 1599 [yR (some 1000001), yR (some 0), yR (some 72), yI (i32 (i : Int))] [] (zw h F C)) := by
  have s7 : i32 (i : Int) + i32 7 = i32 ((i + 7 : Nat) : Int) := by rw [i32_add]; rfl
  exact ⟨h, F, C, by rw [e_Law_1599, s7], W⟩
theorem l_N (W : wOK L xs h F C) : zaN (zw h F C) (some 1000001) = some (i32 (L : Int)) := by
  unfold zaN
  dsimp only
  rw [zw_sc, W.2.2.2.1]
theorem l_step (W : wOK L xs h F C) (hL : L ≤ 3584) (hi : i + 7 ≤ L) : lgo L xs i (zr 323 10 [yR (some 1000001), yR (some 0), yR (some 72), yI (i32 (i : Int))] [] (zw h F C)) := by
  have d : decide (i32 (L : Int) - i32 7 < i32 (i : Int)) = false := dF (by rw [i32_sub, i32_lt (by omega) (by omega) (by omega) (by omega)]; omega)
  have r : zaI (zw h F C) (some 1000001) (i32 (i : Int)) 0 = some (xs i) := zaI_s (i := (i : Int)) (zw_sc.trans W.2.2.2.1) (by omega) (by omega) (by omega)
  rw [e_Law_10, l_N W, zoI_s, d, zif_f, r, zoI_s]
  exact lgo_zif (lc_22 W hL hi) (lgo_zif (lc_79 W hL hi) (lgo_zif (lc_96 W hL hi) (lgo_zif (lc_123 W hL hi) (lgo_zif (lc_140 W hL hi) (lgo_zif (lc_167 W hL hi) (lgo_zif (lc_232 W hL hi) (lgo_zif (lc_269 W hL hi) (lgo_zif (lc_296 W hL hi) (lgo_zif (lc_343 W hL hi) (lgo_zif (lc_410 W hL hi) (lgo_zif (lc_457 W hL hi) (lgo_zif (lc_512 W hL hi) (lgo_zif (lc_549 W hL hi) (lgo_zif (lc_566 W hL hi) (lgo_zif (lc_603 W hL hi) (lgo_zif (lc_660 W hL hi) (lgo_zif (lc_697 W hL hi) (lgo_zif (lc_734 W hL hi) (lgo_zif (lc_800 W hL hi) (lgo_zif (lc_847 W hL hi) (lgo_zif (lc_904 W hL hi) (lgo_zif (lc_961 W hL hi) (lgo_zif (lc_998 W hL hi) (lgo_zif (lc_1045 W hL hi) (lgo_zif (lc_1092 W hL hi) (lgo_zif (lc_1137 W hL hi) (lgo_zif (lc_1182 W hL hi) (lgo_zif (lc_1209 W hL hi) (lgo_zif (lc_1246 W hL hi) (lgo_zif (lc_1273 W hL hi) (lgo_zif (lc_1318 W hL hi) (lgo_zif (lc_1355 W hL hi) (lgo_zif (lc_1431 W hL hi) (lgo_zif (lc_1476 W hL hi) (lgo_zif (lc_1503 W hL hi) (lgo_zif (lc_1548 W hL hi) (lgo_zif (lc_1565 W hL hi) (lgo_zif (lc_1582 W hL hi) (l_end W hL hi)))))))))))))))))))))))))))))))))))))))
theorem l_out (W : wOK L xs h F C) (hL : L ≤ 3584) (hi : ¬ i + 7 ≤ L) (hi2 : i ≤ L + 7) : zr 323 10 [yR (some 1000001), yR (some 0), yR (some 72), yI (i32 (i : Int))] [] (zw h F C) = some (zI 1, zw h F C) := by
  have d : decide (i32 (L : Int) - i32 7 < i32 (i : Int)) = true := dT (by rw [i32_sub, i32_lt (by omega) (by omega) (by omega) (by omega)]; omega)
  rw [e_Law_10, l_N W, zoI_s, d, zif_t, zrz_1, i32_1]
theorem l_all (hL : L ≤ 3584) : ∀ n i h F C, wOK L xs h F C → i ≤ L + 7 → L < i + n → ∃ hf, zr 323 10 [yR (some 1000001), yR (some 0), yR (some 72), yI (i32 (i : Int))] [] (zw h F C) = some (zI 1, hf) ∧ hN hf ≤ 600000 ∧ hS hf ≤ 7302250 := by
  intro n
  induction n with
  | zero =>
    intro i h F C W h1 h2
    obtain ⟨_, _, _, _, p, _, _, _, b1, b2⟩ := id W
    exact ⟨_, l_out W hL (by omega) h1, show hN h ≤ 600000 by omega, show hS h ≤ 7302250 by omega⟩
  | succ n ih =>
    intro i h F C W h1 h2
    by_cases c : i + 7 ≤ L
    · obtain ⟨h', F', C', e, W'⟩ := l_step W hL c
      rw [e]
      exact ih (i + 7) h' F' C' W' (by omega) (by omega)
    · obtain ⟨_, _, _, _, p, _, _, _, b1, b2⟩ := id W
      exact ⟨_, l_out W hL c h1, show hN h ≤ 600000 by omega, show hS h ≤ 7302250 by omega⟩
theorem pure_law (L : Nat) (xs : Nat → Int32) (hL : L ≤ 3584) : ∃ hf, zc 323 [zR (some 1000001)] (zh0 L xs) = some (zI 1, hf) ∧ hN hf ≤ 600000 ∧ hS hf ≤ 7302250 := by
  obtain ⟨y, z, F, C, e1, n1, e2, W⟩ := w_start L xs
  obtain ⟨hf, e3, b⟩ := l_all hL (L + 1) 0 z F C W (by omega) (by omega)
  refine ⟨hf, ?_, b⟩
  have e1' : zv 11 149 [zR (some (hN (zh0 L xs)))] (znO zTb 11 (zh0 L xs)) = some (zI 0, y) := e1
  rw [e_Law, e1', zbV_s, n1, e2, zbV_s]
  exact e3
end LP
