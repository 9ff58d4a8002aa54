/-! the reference's duchy, and what it lays out ahead -/
theorem hFI_sI (h : zHeap) (k a : Nat) (x : Int32) (k' a' : Nat) : hFI (zsI h k a x) k' a' = if k' = k ∧ a' = a then some x else hFI h k' a' := rfl
theorem hFR_sI (h : zHeap) (k a : Nat) (x : Int32) : hFR (zsI h k a x) = hFR h := rfl
theorem hAI_sI (h : zHeap) (k a : Nat) (x : Int32) : hAI (zsI h k a x) = hAI h := rfl
theorem hAR_sI (h : zHeap) (k a : Nat) (x : Int32) : hAR (zsI h k a x) = hAR h := rfl
theorem hCL_sI (h : zHeap) (k a : Nat) (x : Int32) : hCL (zsI h k a x) = hCL h := rfl
theorem hFI_sA (h : zHeap) (a t n : Nat) (f : Nat → Int32) : hFI (zsA h a t n f) = hFI h := rfl
theorem hFR_sA (h : zHeap) (a t n : Nat) (f : Nat → Int32) : hFR (zsA h a t n f) = hFR h := rfl
theorem hAI_sA (h : zHeap) (a t n : Nat) (f : Nat → Int32) (a' : Nat) : hAI (zsA h a t n f) a' = if a' = a then some (t, n, f) else hAI h a' := rfl
theorem hAR_sA (h : zHeap) (a t n : Nat) (f : Nat → Int32) : hAR (zsA h a t n f) = hAR h := rfl
theorem hCL_sA (h : zHeap) (a t n : Nat) (f : Nat → Int32) : hCL (zsA h a t n f) = hCL h := rfl
/-- the reference at m, its row 'all' at al, the duchy D taken: d0 its place -/
def moD (h : zHeap) (m al : Nat) (A : Nat → Int32) (d0 : Nat) (D : Nat → Int) (nR nP nQ : Nat) : Prop := hCL h m = some 12 ∧ hFR h 768 m = some (some al) ∧ hAI h al = some (0, 4920, A) ∧ d0 ≤ 1000 ∧ (∀ j, j < 44 → A (d0 + j) = i32 (D j)) ∧ hFI h 778 m = some (i32 d0) ∧ hFI h 779 m = some (i32 nR) ∧ hFI h 780 m = some (i32 nP) ∧ hFI h 781 m = some (i32 nQ)
/-- the three numbers of the reed that is laid out -/
def moW (h : zHeap) (m : Nat) (w k c : Int) : Prop := hFI h 782 m = some (i32 w) ∧ hFI h 783 m = some (i32 k) ∧ hFI h 784 m = some (i32 c)
def moL (h : zHeap) (m : Nat) (w k c : Int) : zHeap := zsI (zsI (zsI h 782 m (i32 w)) 783 m (i32 k)) 784 m (i32 c)
section MO
variable {h : zHeap} {m al d0 : Nat} {A : Nat → Int32} {D : Nat → Int} {nR nP nQ : Nat}
theorem m_isIn (x a b : Int) (h1 : -2147483648 ≤ x) (h2 : x < 2147483648) (h3 : -2147483648 ≤ a) (h4 : a < 2147483648) (h5 : -2147483648 ≤ b) (h6 : b < 2147483648) : zc 200 [zI (i32 x), zI (i32 a), zI (i32 b)] h = some (zI (i32 (if a ≤ x ∧ x ≤ b then 1 else 0)), h) := by
  rw [e_Model_isIn, zif_dec, zif_dec]
  simp only [i32_lt h1 h2 h3 h4, i32_lt h5 h6 h1 h2, zrz_0, zrz_1]
  by_cases c1 : x < a
  · rw [if_pos c1, if_neg (by omega)]
  · rw [if_neg c1]
    by_cases c2 : b < x
    · rw [if_pos c2, if_neg (by omega)]
    · rw [if_neg c2, if_pos (by omega)]
theorem zrz_b (p : Prop) [Decidable p] (h : zHeap) : zrz (i32 (if p then 1 else 0)) h = some (zI (i32 (if p then 1 else 0)), h) := by
  by_cases c : p
  · rw [if_pos c]; exact zrz_1 h
  · rw [if_neg c]; exact zrz_0 h
theorem moD.at (H : moD h m al A d0 D nR nP nQ) {i : Int} (j : Nat) (hj : j < 44) (hi : i = d0 + j) : zaI h (some al) (i32 i) 0 = some (i32 (D j)) := by
  obtain ⟨-, -, g3, g4, g5, -⟩ := H
  subst hi
  rw [show ((d0 : Int) + (j : Int)) = ((d0 + j : Nat) : Int) by omega, zaI_n g3 (by omega) (by omega), g5 j hj]
theorem m_wetOf (H : moD h m al A d0 D nR nP nQ) (O : dOK D nR nP nQ) {r : Nat} (hr : r < nR) : zv 12 230 [zR (some m), zI (i32 r)] h = some (zI (i32 (dW D r)), h) := by
  have := O.2.1.1
  rw [zv_s H.1, e_Model_wetOf, zgR_s, H.2.1, zoR_s, zgI_s, H.2.2.2.2.2.1, zoI_s, i32_add, i32_mul, i32_add, H.at (4 + 2 * r) (by omega) (by omega), zoI_s]
  rfl
theorem m_keyOf (H : moD h m al A d0 D nR nP nQ) (O : dOK D nR nP nQ) {r : Nat} (hr : r < nR) : zv 12 231 [zR (some m), zI (i32 r)] h = some (zI (i32 (dK D r)), h) := by
  have := O.2.1.1
  rw [zv_s H.1, e_Model_keyOf, zgR_s, H.2.1, zoR_s, zgI_s, H.2.2.2.2.2.1, zoI_s, i32_add, i32_add, i32_mul, i32_add, H.at (5 + 2 * r) (by omega) (by omega), zoI_s]
  rfl
theorem m_breathOf (H : moD h m al A d0 D nR nP nQ) (O : dOK D nR nP nQ) {p : Nat} (hp : p < nP) : zv 12 232 [zR (some m), zI (i32 p)] h = some (zI (i32 (dB D p)), h) := by
  have := O.2.1.2.1
  rw [zv_s H.1, e_Model_breathOf, zgR_s, H.2.1, zoR_s, zgI_s, H.2.2.2.2.2.1, zoI_s, i32_add, i32_add, H.at (16 + p) (by omega) (by omega), zoI_s]
  rfl
theorem m_depthOf (H : moD h m al A d0 D nR nP nQ) (O : dOK D nR nP nQ) {q : Nat} (hq : q < nQ) : zv 12 233 [zR (some m), zI (i32 q)] h = some (zI (i32 (dD D q)), h) := by
  have := O.2.1.2.2
  rw [zv_s H.1, e_Model_depthOf, zgR_s, H.2.1, zoR_s, zgI_s, H.2.2.2.2.2.1, zoI_s, i32_add, i32_mul, i32_add, H.at (20 + 2 * q) (by omega) (by omega), zoI_s]
  rfl
theorem m_kindOf (H : moD h m al A d0 D nR nP nQ) (O : dOK D nR nP nQ) {q : Nat} (hq : q < nQ) : zv 12 234 [zR (some m), zI (i32 q)] h = some (zI (i32 (dT D q)), h) := by
  have := O.2.1.2.2
  rw [zv_s H.1, e_Model_kindOf, zgR_s, H.2.1, zoR_s, zgI_s, H.2.2.2.2.2.1, zoI_s, i32_add, i32_add, i32_mul, i32_add, H.at (21 + 2 * q) (by omega) (by omega), zoI_s]
  rfl
theorem m_noteOf (H : moD h m al A d0 D nR nP nQ) (O : dOK D nR nP nQ) {w k c : Int} (hw : moW h m w k c) {p q : Nat} (h1 : 0 ≤ w) (h2 : w ≤ 9) (h3 : 0 ≤ k) (h4 : k ≤ 7) (h5 : 0 ≤ c) (h6 : c ≤ 9) (hp : p < nP) (hq : q < nQ) : zv 12 237 [zR (some m), zI (i32 p), zI (i32 q)] h = some (zI (i32 (noteS D w k c p q)), h) := by
  have b1 := O.2.2.2.2.2.1 p hp
  have b2 := O.2.2.2.2.2.2.1 q hq
  have b3 := O.2.2.2.2.2.2.2.1 q hq
  rw [zv_s H.1, e_Model_noteOf, m_depthOf H O hq, zbI_s, zgI_s, hw.1, zoI_s, m_breathOf H O hp, zbI_s, zif_dec, i32_add]
  simp only [i32_le (show -2147483648 ≤ dD D q by omega) (by omega) (show -2147483648 ≤ w + dB D p by omega) (by omega)]
  unfold noteS
  by_cases c1 : w + dB D p < dD D q
  · rw [if_pos c1, if_neg (by omega)]
  · rw [if_neg c1, if_pos (by omega), zgI_s, hw.1, zoI_s, m_breathOf H O hp, zbI_s, zgI_s, hw.2.1, zoI_s, m_kindOf H O hq, zbI_s, m_depthOf H O hq, zbI_s, zgI_s, hw.2.2, zoI_s, if_neg (by decide), zoI_s]
    simp only [i32_mul, i32_add, i32_sub]
    rw [i32_rem (by omega) (by omega) (by omega) (by omega)]
theorem m_meant (H : moD h m al A d0 D nR nP nQ) {n : Int} (h1 : -1 ≤ n) (h2 : n ≤ 7) : zv 12 238 [zR (some m), zI (i32 n)] h = some (zI (i32 (meanS D n)), h) := by
  rw [zv_s H.1, e_Model_meant, zif_dec]
  simp only [ne_eq, i32_eq (show -2147483648 ≤ n by omega) (by omega) (show -2147483648 ≤ (-1:Int) by omega) (by omega)]
  unfold meanS
  by_cases c1 : n = -1
  · rw [if_neg (by omega), if_pos (by omega)]
  · obtain ⟨k, rfl⟩ := Int.eq_ofNat_of_zero_le (show 0 ≤ n by omega)
    rw [if_pos c1, if_neg (by omega), zgR_s, H.2.1, zoR_s, zgI_s, H.2.2.2.2.2.1, zoI_s, i32_add, i32_add, H.at (36 + k) (by omega) (by omega), zoI_s]
    rfl
theorem m_answerOf (H : moD h m al A d0 D nR nP nQ) (O : dOK D nR nP nQ) {w k c : Int} (hw : moW h m w k c) {p q : Nat} (h1 : 0 ≤ w) (h2 : w ≤ 9) (h3 : 0 ≤ k) (h4 : k ≤ 7) (h5 : 0 ≤ c) (h6 : c ≤ 9) (hp : p < nP) (hq : q < nQ) : zv 12 239 [zR (some m), zI (i32 p), zI (i32 q)] h = some (zI (i32 (meanS D (noteS D w k c p q))), h) := by
  rw [zv_s H.1, e_Model_answerOf, m_noteOf H O hw h1 h2 h3 h4 h5 h6 hp hq, zbI_s, m_meant H noteS_rng.1 noteS_rng.2, zbI_s]
theorem moD.L (H : moD h m al A d0 D nR nP nQ) (w k c : Int) : moD (moL h m w k c) m al A d0 D nR nP nQ := by
  obtain ⟨g1, g2, g3, g4, g5, g6, g7, g8, g9⟩ := H
  refine ⟨g1, g2, g3, g4, g5, ?_, ?_, ?_, ?_⟩ <;> (unfold moL; simp only [hFI_sI]; simp; assumption)
theorem moW.L (h : zHeap) (m : Nat) (w k c : Int) : moW (moL h m w k c) m w k c := by
  refine ⟨?_, ?_, ?_⟩ <;> (unfold moL; simp [hFI_sI])
theorem moL_L (h : zHeap) (m : Nat) (w k c w' k' c' : Int) : moL (moL h m w k c) m w' k' c' = moL h m w' k' c' := by
  unfold moL zsI
  refine Prod.ext ?_ rfl
  funext k2 a2
  simp only [hFI]
  split <;> rename_i c1
  · rfl
  · split <;> rename_i c2
    · rfl
    · split <;> rename_i c3
      · rfl
      · rfl
/-- lays(r) -/
theorem m_lays (H : moD h m al A d0 D nR nP nQ) (O : dOK D nR nP nQ) {w k c : Int} (hw : moW h m w k c) {r : Nat} (hr : r < nR) : zv 12 236 [zR (some m), zI (i32 r)] h = some (zI 0, moL h m (dW D r) (dK D r) (D 3)) := by
  have H1 : moD (zsI h 782 m (i32 (dW D r))) m al A d0 D nR nP nQ := by
    obtain ⟨g1, g2, g3, g4, g5, g6, g7, g8, g9⟩ := H
    refine ⟨g1, g2, g3, g4, g5, ?_, ?_, ?_, ?_⟩ <;> (simp only [hFI_sI]; simp; assumption)
  have H2 : moD (zsI (zsI h 782 m (i32 (dW D r))) 783 m (i32 (dK D r))) m al A d0 D nR nP nQ := by
    obtain ⟨g1, g2, g3, g4, g5, g6, g7, g8, g9⟩ := H
    refine ⟨g1, g2, g3, g4, g5, ?_, ?_, ?_, ?_⟩ <;> (simp only [hFI_sI]; simp; assumption)
  rw [zv_s H.1, e_Model_lays, m_wetOf H O hr, zbI_s, zpI_s _ hw.1, zoH_s, m_keyOf H1 O hr, zbI_s, zpI_s (y := i32 k) _ (by simp only [hFI_sI]; simp; exact hw.2.1), zoH_s, zgR_s, H2.2.1, zoR_s, zgI_s, H2.2.2.2.2.2.1, zoI_s, i32_add, H2.at 3 (by omega) (by omega), zoI_s, zpI_s (y := i32 c) _ (by simp only [hFI_sI]; simp; exact hw.2.2), zoH_s]
  rfl
end MO
