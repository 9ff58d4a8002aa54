/-! alike() -/
theorem meanS_rng {D : Nat → Int} {nR nP nQ : Nat} (O : dOK D nR nP nQ) {n : Int} (h : n ≤ 7) : -1 ≤ meanS D n ∧ meanS D n ≤ 2 := by
  unfold meanS
  split
  · omega
  · have := O.2.2.2.2.2.2.2.2 n.toNat (by omega)
    omega
theorem ansS_rng {D : Nat → Int} {nR nP nQ : Nat} (O : dOK D nR nP nQ) (r p q : Nat) : -1 ≤ ansS D r p q ∧ ansS D r p q ≤ 2 := meanS_rng O noteS_rng.2
def sameS (D : Nat → Int) (a b p q : Nat) : Int := if ansS D a p q = ansS D b p q then 1 else 0
def alikeS (D : Nat → Int) (nP nQ a b : Nat) : Int := sumS (fun p => sumS (sameS D a b p) nQ) nP
section AL
variable {h : zHeap} {a : Nat} {D : Nat → Int} {nR nP nQ : Nat}
theorem c_same (H : duC h a D nR nP nQ) (O : dOK D nR nP nQ) {sv x y : Nat} (hsv : hCL h sv = some 6) (hx : x < nR) (hy : y < nR) : zv 6 93 [zR (some sv), zR (some a), zI (i32 x), zI (i32 y)] h = some (zI (i32 (alikeS D nP nQ x y)), h) := by
  have b1 := O.2.1
  rw [zv_s hsv, e_Survey_sameAnswers]
  obtain ⟨⟨acc, w⟩, e0, e1⟩ := zforG (S := Int × Option zVal) (fun p s => zr 93 4 [yR (some sv), yR (some a), yI (i32 x), yI (i32 y), yI (i32 s.1), yI (i32 (p : Int)), s.2] [] h) (fun p s => s.1 = sumS (fun p => sumS (sameS D x y p) nQ) p) nP (by
    rintro p ⟨acc, w⟩ hp he
    dsimp only at he ⊢
    subst he
    obtain ⟨acc2, e2, e3⟩ := zforG (S := Int) (fun q s => zr 93 10 [yR (some sv), yR (some a), yI (i32 x), yI (i32 y), yI (i32 s), yI (i32 (p : Int)), yI (i32 (q : Int))] [] h) (fun q s => s = sumS (fun p => sumS (sameS D x y p) nQ) p + sumS (sameS D x y p) q) nQ (by
      rintro q acc hq rfl
      refine ⟨_, rfl, ?_⟩
      have b2 := ansS_rng O x p q
      have b3 := ansS_rng O y p q
      dsimp only
      rw [e_Survey_sameAnswers_10, zgI_s, H.2.2.2.1, zoI_s, zif_dec, if_neg (by rw [i32_le (by omega) (by omega) (by omega) (by omega)]; omega), c_ans H O hx hp hq, zbI_s, c_ans H O hy hp hq, zbI_s, zif_dec, i32_succ, i32_add, sumS_succ]
      simp only [ne_eq, i32_eq (show -2147483648 ≤ ansS D x p q by omega) (by omega) (show -2147483648 ≤ ansS D y p q by omega) (by omega)]
      unfold sameS
      by_cases c1 : ansS D x p q = ansS D y p q
      · rw [if_neg (fun z => z c1), if_pos c1, Int.add_assoc]
      · rw [if_pos c1, if_neg c1, Int.add_zero]) (sumS (fun p => sumS (sameS D x y p) nQ) p) (by simp [sumS])
    refine ⟨(acc2, yI (i32 (nQ : Int))), e2, ?_⟩
    dsimp only at e3 ⊢
    rw [e_Survey_sameAnswers_4, zgI_s, H.2.2.1, zoI_s, zif_dec, if_neg (by rw [i32_le (by omega) (by omega) (by omega) (by omega)]; omega)]
    refine e3.trans ?_
    rw [e_Survey_sameAnswers_10, zgI_s, H.2.2.2.1, zoI_s, zif_dec, if_pos (by rw [i32_le (by omega) (by omega) (by omega) (by omega)]; omega), i32_succ]) (0, none) rfl
  refine e1.trans ?_
  dsimp only at e0 ⊢
  rw [e_Survey_sameAnswers_4, zgI_s, H.2.2.1, zoI_s, zif_dec, if_pos (by rw [i32_le (by omega) (by omega) (by omega) (by omega)]; omega), e0]
  rfl
end AL
section ALM
variable {h : zHeap} {m al d0 : Nat} {A : Nat → Int32} {D : Nat → Int} {nR nP nQ : Nat}
/-- the reed r is laid out: what it answers -/
theorem m_ans (H : moD h m al A d0 D nR nP nQ) (O : dOK D nR nP nQ) {r : Nat} (hr : r < nR) (hw : moW h m (dW D r) (dK D r) (D 3)) {p q : Nat} (hp : p < nP) (hq : q < nQ) : zv 12 239 [zR (some m), zI (i32 p), zI (i32 q)] h = some (zI (i32 (ansS D r p q)), h) := m_answerOf H O hw (O.2.2.2.1 r hr).1 (O.2.2.2.1 r hr).2 (O.2.2.2.2.1 r hr).1 (O.2.2.2.2.1 r hr).2 O.2.2.1.1 O.2.2.1.2 hp hq
theorem m_alike_loop (H : moD h m al A d0 D nR nP nQ) (O : dOK D nR nP nQ) {w k c : Int} {x y : Nat} (hx : x < nR) (hy : y < nR) (v : Int32) (w6 w7 : Option zVal) (hw : moW h m w k c) : ∃ w' k' c', zr 252 18 [yR (some m), yI v, yI (i32 x), yI (i32 y), yI (i32 0), yI (i32 0), w6, w7] [] (moL h m w k c) = some (zI (i32 (alikeS D nP nQ x y)), moL h m w' k' c') := by
  have b1 := O.2.1
  obtain ⟨⟨acc, w8, w9, w', k', c'⟩, e0, e1⟩ := zforG (S := Int × Option zVal × Option zVal × Int × Int × Int) (fun p s => zr 252 18 [yR (some m), yI v, yI (i32 x), yI (i32 y), yI (i32 s.1), yI (i32 (p : Int)), s.2.1, s.2.2.1] [] (moL h m s.2.2.2.1 s.2.2.2.2.1 s.2.2.2.2.2)) (fun p s => s.1 = sumS (fun p => sumS (sameS D x y p) nQ) p) nP (by
    rintro p ⟨acc, u6, u7, w1, k1, c1⟩ hp he
    dsimp only at he ⊢
    subst he
    obtain ⟨⟨acc2, u8, w2, k2, c2⟩, e2, e3⟩ := zforG (S := Int × Option zVal × Int × Int × Int) (fun q s => zr 252 24 [yR (some m), yI v, yI (i32 x), yI (i32 y), yI (i32 s.1), yI (i32 (p : Int)), yI (i32 (q : Int)), s.2.1] [] (moL h m s.2.2.1 s.2.2.2.1 s.2.2.2.2)) (fun q s => s.1 = sumS (fun p => sumS (sameS D x y p) nQ) p + sumS (sameS D x y p) q) nQ (by
      rintro q ⟨acc, u7, w3, k3, c3⟩ hq he
      dsimp only at he ⊢
      subst he
      have b2 := ansS_rng O x p q
      have b3 := ansS_rng O y p q
      refine ⟨(sumS (fun p => sumS (sameS D x y p) nQ) p + sumS (sameS D x y p) (q + 1), yI (i32 (ansS D x p q)), dW D y, dK D y, D 3), rfl, ?_⟩
      have H1 := H.L w3 k3 c3
      have H2 := H.L (dW D x) (dK D x) (D 3)
      have H3 := H.L (dW D y) (dK D y) (D 3)
      dsimp only
      rw [e_Model_alike_24, zgI_s, H1.2.2.2.2.2.2.2.2, zoI_s, zif_dec, if_neg (by rw [i32_le (by omega) (by omega) (by omega) (by omega)]; omega), m_lays H1 O (moW.L h m w3 k3 c3) hx, zbV_s, moL_L, m_ans H2 O hx (moW.L h m _ _ _) hp hq, zbI_s, m_lays H2 O (moW.L h m _ _ _) hy, zbV_s, moL_L, m_ans H3 O hy (moW.L h m _ _ _) hp hq, zbI_s, zif_dec, i32_succ, i32_add, i32_add, sumS_succ]
      simp only [ne_eq, i32_eq (show -2147483648 ≤ ansS D x p q by omega) (by omega) (show -2147483648 ≤ ansS D y p q by omega) (by omega)]
      unfold sameS
      by_cases c1 : ansS D x p q = ansS D y p q
      · rw [if_neg (fun z => z c1), if_pos c1, Int.add_assoc]
      · rw [if_pos c1, if_neg c1, Int.add_zero, Int.add_zero]) (sumS (fun p => sumS (sameS D x y p) nQ) p, u7, w1, k1, c1) (by simp [sumS])
    refine ⟨(acc2, yI (i32 (nQ : Int)), u8, w2, k2, c2), e2, ?_⟩
    have H1 := H.L w1 k1 c1
    have H2 := H.L w2 k2 c2
    dsimp only at e3 ⊢
    rw [e_Model_alike_18, zgI_s, H1.2.2.2.2.2.2.2.1, zoI_s, zif_dec, if_neg (by rw [i32_le (by omega) (by omega) (by omega) (by omega)]; omega)]
    refine e3.trans ?_
    rw [e_Model_alike_24, zgI_s, H2.2.2.2.2.2.2.2.2, zoI_s, zif_dec, if_pos (by rw [i32_le (by omega) (by omega) (by omega) (by omega)]; omega), i32_succ]) (0, w6, w7, w, k, c) rfl
  refine ⟨w', k', c', e1.trans ?_⟩
  have H1 := H.L w' k' c'
  dsimp only at e0 ⊢
  rw [e_Model_alike_18, zgI_s, H1.2.2.2.2.2.2.2.1, zoI_s, zif_dec, if_pos (by rw [i32_le (by omega) (by omega) (by omega) (by omega)]; omega), e0]
  rfl
end ALM
