/-! a duchy: 44 numbers (how many reeds, players, questions; the cold; wets and keys from 4 on; breaths from 16 on; depths and kinds from 20 on; the book from 36 on) -/
def dW (D : Nat → Int) (r : Nat) : Int := D (4 + 2 * r)
def dK (D : Nat → Int) (r : Nat) : Int := D (5 + 2 * r)
def dB (D : Nat → Int) (p : Nat) : Int := D (16 + p)
def dD (D : Nat → Int) (q : Nat) : Int := D (20 + 2 * q)
def dT (D : Nat → Int) (q : Nat) : Int := D (21 + 2 * q)
def dM (D : Nat → Int) (n : Nat) : Int := D (36 + n)
def dOK (D : Nat → Int) (nR nP nQ : Nat) : Prop := (D 0 = nR ∧ D 1 = nP ∧ D 2 = nQ) ∧ (nR ≤ 6 ∧ nP ≤ 4 ∧ nQ ≤ 8) ∧ (0 ≤ D 3 ∧ D 3 ≤ 9) ∧ (∀ r, r < nR → 0 ≤ dW D r ∧ dW D r ≤ 9) ∧ (∀ r, r < nR → 0 ≤ dK D r ∧ dK D r ≤ 7) ∧ (∀ p, p < nP → 1 ≤ dB D p ∧ dB D p ≤ 9) ∧ (∀ q, q < nQ → 1 ≤ dD D q ∧ dD D q ≤ 15) ∧ (∀ q, q < nQ → 0 ≤ dT D q ∧ dT D q ≤ 3) ∧ (∀ n, n < 8 → 0 ≤ dM D n ∧ dM D n ≤ 2)
/-- a note; -1: a cough -/
def noteS (D : Nat → Int) (w k c : Int) (p q : Nat) : Int := if w + dB D p < dD D q then -1 else (3 * w + dB D p + k + 5 * dT D q + dD D q + 16 - c) % 8
def meanS (D : Nat → Int) (n : Int) : Int := if n < 0 then -1 else dM D n.toNat
/-- the class's Duchy at a -/
def duC (h : zHeap) (a : Nat) (D : Nat → Int) (nR nP nQ : Nat) : Prop := hCL h a = some 2 ∧ hFI h 128 a = some (i32 nR) ∧ hFI h 129 a = some (i32 nP) ∧ hFI h 130 a = some (i32 nQ) ∧ hFI h 131 a = some (i32 (D 3)) ∧
  hFR h 132 a = some (some (a + 1)) ∧ hFR h 133 a = some (some (a + 2)) ∧ hFR h 134 a = some (some (a + 3)) ∧ hFR h 135 a = some (some (a + 4)) ∧ hFR h 136 a = some (some (a + 5)) ∧ hFR h 137 a = some (some (a + 6)) ∧
  (∃ f, hAI h (a + 1) = some (0, 6, f) ∧ ∀ r, r < nR → f r = i32 (dW D r)) ∧ (∃ f, hAI h (a + 2) = some (0, 6, f) ∧ ∀ r, r < nR → f r = i32 (dK D r)) ∧ (∃ f, hAI h (a + 3) = some (0, 4, f) ∧ ∀ p, p < nP → f p = i32 (dB D p)) ∧ (∃ f, hAI h (a + 4) = some (0, 8, f) ∧ ∀ q, q < nQ → f q = i32 (dD D q)) ∧ (∃ f, hAI h (a + 5) = some (0, 8, f) ∧ ∀ q, q < nQ → f q = i32 (dT D q)) ∧ (∃ f, hAI h (a + 6) = some (0, 8, f) ∧ ∀ n, n < 8 → f n = i32 (dM D n))
/-- the answer of a reed as it is told -/
def ansS (D : Nat → Int) (r p q : Nat) : Int := meanS D (noteS D (dW D r) (dK D r) (D 3) p q)
section DU
variable {h : zHeap} {a : Nat} {D : Nat → Int} {nR nP nQ : Nat}
theorem zaI_n {h : zHeap} {a n k : Nat} {f : Nat → Int32} (hf : hAI h a = some (0, n, f)) (h2 : k < n) (h3 : k < 2147483648) : zaI h (some a) (i32 (k : Int)) 0 = some (f k) := by
  rw [zaI_s hf (by omega) (by omega) (by omega)]
  rfl
theorem duC.wet (H : duC h a D nR nP nQ) (O : dOK D nR nP nQ) {r : Nat} (hr : r < nR) : zaI h (some (a + 1)) (i32 (r : Int)) 0 = some (i32 (dW D r)) := by
  obtain ⟨f, g1, g2⟩ := H.2.2.2.2.2.2.2.2.2.2.2.1
  have := O.2.1.1
  rw [zaI_n g1 (by omega) (by omega), g2 r hr]
theorem duC.key (H : duC h a D nR nP nQ) (O : dOK D nR nP nQ) {r : Nat} (hr : r < nR) : zaI h (some (a + 2)) (i32 (r : Int)) 0 = some (i32 (dK D r)) := by
  obtain ⟨f, g1, g2⟩ := H.2.2.2.2.2.2.2.2.2.2.2.2.1
  have := O.2.1.1
  rw [zaI_n g1 (by omega) (by omega), g2 r hr]
theorem duC.breath (H : duC h a D nR nP nQ) (O : dOK D nR nP nQ) {p : Nat} (hr : p < nP) : zaI h (some (a + 3)) (i32 (p : Int)) 0 = some (i32 (dB D p)) := by
  obtain ⟨f, g1, g2⟩ := H.2.2.2.2.2.2.2.2.2.2.2.2.2.1
  have := O.2.1.2.1
  rw [zaI_n g1 (by omega) (by omega), g2 p hr]
theorem duC.depth (H : duC h a D nR nP nQ) (O : dOK D nR nP nQ) {q : Nat} (hr : q < nQ) : zaI h (some (a + 4)) (i32 (q : Int)) 0 = some (i32 (dD D q)) := by
  obtain ⟨f, g1, g2⟩ := H.2.2.2.2.2.2.2.2.2.2.2.2.2.2.1
  have := O.2.1.2.2
  rw [zaI_n g1 (by omega) (by omega), g2 q hr]
theorem duC.kind (H : duC h a D nR nP nQ) (O : dOK D nR nP nQ) {q : Nat} (hr : q < nQ) : zaI h (some (a + 5)) (i32 (q : Int)) 0 = some (i32 (dT D q)) := by
  obtain ⟨f, g1, g2⟩ := H.2.2.2.2.2.2.2.2.2.2.2.2.2.2.2.1
  have := O.2.1.2.2
  rw [zaI_n g1 (by omega) (by omega), g2 q hr]
theorem duC.means (H : duC h a D nR nP nQ) {n : Nat} (hr : n < 8) : zaI h (some (a + 6)) (i32 (n : Int)) 0 = some (i32 (dM D n)) := by
  obtain ⟨f, g1, g2⟩ := H.2.2.2.2.2.2.2.2.2.2.2.2.2.2.2.2
  rw [zaI_n g1 (by omega) (by omega), g2 n hr]
/-! what the class's Duchy answers -/
theorem c_hasReed (H : duC h a D nR nP nQ) (O : dOK D nR nP nQ) {x : Int} (h1 : -2147483648 ≤ x) (h2 : x < 2147483648) : zv 2 39 [zR (some a), zI (i32 x)] h = some (zI (i32 (if 0 ≤ x ∧ x < nR then 1 else 0)), h) := by
  have hn := O.2.1.1
  rw [zv_s H.1, e_Duchy_hasReed, zif_dec, i32_0, zgI_s, H.2.1, zoI_s, zif_dec]
  simp only [i32_lt h1 h2 (show -2147483648 ≤ (0:Int) by omega) (by omega), i32_le (show -2147483648 ≤ (nR:Int) by omega) (by omega) h1 h2, zrz_0, zrz_1]
  by_cases c1 : x < 0
  · rw [if_pos c1, if_neg (by omega)]
  · rw [if_neg c1]
    by_cases c2 : (nR : Int) ≤ x
    · rw [if_pos c2, if_neg (by omega)]
    · rw [if_neg c2, if_pos (by omega)]
theorem c_coughs (H : duC h a D nR nP nQ) (O : dOK D nR nP nQ) {w : Int} {p q : Nat} (h1 : 0 ≤ w) (h2 : w ≤ 9) (hp : p < nP) (hq : q < nQ) : zv 2 46 [zR (some a), zI (i32 w), zI (i32 p), zI (i32 q)] h = some (zI (i32 (if w + dB D p < dD D q then 1 else 0)), h) := by
  have b1 := O.2.2.2.2.2.1 p hp
  have b2 := O.2.2.2.2.2.2.1 q hq
  rw [zv_s H.1, e_Duchy_coughs, zgR_s, H.2.2.2.2.2.2.2.2.1, zoR_s, H.depth O hq, zoI_s, zgR_s, H.2.2.2.2.2.2.2.1, zoR_s, H.breath O hp, zoI_s, zif_dec, i32_add]
  simp only [i32_le (show -2147483648 ≤ dD D q by omega) (by omega) (show -2147483648 ≤ w + dB D p by omega) (by omega), zrz_0, zrz_1]
  by_cases c1 : dD D q ≤ w + dB D p
  · rw [if_pos c1, if_neg (by omega)]
  · rw [if_neg c1, if_pos (by omega)]
theorem c_noteAt (H : duC h a D nR nP nQ) (O : dOK D nR nP nQ) {w k c : Int} {p q : Nat} (h1 : 0 ≤ w) (h2 : w ≤ 9) (h3 : 0 ≤ k) (h4 : k ≤ 7) (h5 : 0 ≤ c) (h6 : c ≤ 9) (hp : p < nP) (hq : q < nQ) : zv 2 47 [zR (some a), zI (i32 w), zI (i32 k), zI (i32 c), zI (i32 p), zI (i32 q)] h = some (zI (i32 (noteS D w k c p q)), h) := by
  have b1 := O.2.2.2.2.2.1 p hp
  have b2 := O.2.2.2.2.2.2.1 q hq
  have b3 := O.2.2.2.2.2.2.2.1 q hq
  rw [zv_s H.1, e_Duchy_noteAt, c_coughs H O h1 h2 hp hq, zbI_s, zif_dec, i32_0]
  unfold noteS
  by_cases c1 : w + dB D p < dD D q
  · rw [if_pos c1, if_pos c1, if_neg (by decide)]
  · rw [if_neg c1, if_neg c1, if_pos rfl, zgR_s, H.2.2.2.2.2.2.2.1, zoR_s, H.breath O hp, zoI_s, zgR_s, H.2.2.2.2.2.2.2.2.2.1, zoR_s, H.kind O hq, zoI_s, zgR_s, H.2.2.2.2.2.2.2.2.1, zoR_s, H.depth O hq, zoI_s]
    simp only [i32_mul, i32_add, i32_sub]
    rw [i32_and7 (by omega) (by omega)]
theorem noteS_rng {D : Nat → Int} {w k c : Int} {p q : Nat} : -1 ≤ noteS D w k c p q ∧ noteS D w k c p q ≤ 7 := by
  unfold noteS
  split <;> omega
theorem c_noteOf (H : duC h a D nR nP nQ) (O : dOK D nR nP nQ) {r p q : Nat} (hr : r < nR) (hp : p < nP) (hq : q < nQ) : zv 2 48 [zR (some a), zI (i32 r), zI (i32 p), zI (i32 q)] h = some (zI (i32 (noteS D (dW D r) (dK D r) (D 3) p q)), h) := by
  have b1 := O.2.2.2.1 r hr
  have b2 := O.2.2.2.2.1 r hr
  rw [zv_s H.1, e_Duchy_noteOf, zgR_s, H.2.2.2.2.2.1, zoR_s, H.wet O hr, zoI_s, zgR_s, H.2.2.2.2.2.2.1, zoR_s, H.key O hr, zoI_s, zgI_s, H.2.2.2.2.1, zoI_s, c_noteAt H O b1.1 b1.2 b2.1 b2.2 O.2.2.1.1 O.2.2.1.2 hp hq, zbI_s]
theorem c_meaning (H : duC h a D nR nP nQ) {n : Int} (h1 : -1 ≤ n) (h2 : n ≤ 7) : zv 2 50 [zR (some a), zI (i32 n)] h = some (zI (i32 (meanS D n)), h) := by
  rw [zv_s H.1, e_Duchy_meaning, zif_dec, i32_0, zif_dec]
  simp only [i32_lt (show -2147483648 ≤ n by omega) (by omega) (show -2147483648 ≤ (0:Int) by omega) (by omega), i32_lt (show -2147483648 ≤ n by omega) (by omega) (show -2147483648 ≤ (8:Int) by omega) (by omega)]
  unfold meanS
  by_cases c1 : n < 0
  · rw [if_pos c1, if_pos c1]
  · obtain ⟨m, rfl⟩ := Int.eq_ofNat_of_zero_le (show 0 ≤ n by omega)
    rw [if_neg c1, if_neg c1, if_pos (by omega), zgR_s, H.2.2.2.2.2.2.2.2.2.2.1, zoR_s, H.means (by omega), zoI_s]
    rfl
theorem c_answerOf (H : duC h a D nR nP nQ) (O : dOK D nR nP nQ) {r p q : Nat} (hr : r < nR) (hp : p < nP) (hq : q < nQ) : zv 2 51 [zR (some a), zI (i32 r), zI (i32 p), zI (i32 q)] h = some (zI (i32 (meanS D (noteS D (dW D r) (dK D r) (D 3) p q))), h) := by
  rw [zv_s H.1, e_Duchy_answerOf, c_noteOf H O hr hp hq, zbI_s, c_meaning H noteS_rng.1 noteS_rng.2, zbI_s]
theorem c_ans (H : duC h a D nR nP nQ) (O : dOK D nR nP nQ) {r p q : Nat} (hr : r < nR) (hp : p < nP) (hq : q < nQ) : zv 2 51 [zR (some a), zI (i32 r), zI (i32 p), zI (i32 q)] h = some (zI (i32 (ansS D r p q)), h) := c_answerOf H O hr hp hq
end DU
