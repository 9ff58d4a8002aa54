/-! the steps of a course -/
def blwN (D : Int → Int) (X : Nat → Int → Int) (r p q : Int) : Int := noteS D (X 1 r) (X 2 r) (X 0 6) p q
def blwX (X : Nat → Int → Int) (r p : Int) : Nat → Int → Int := zsC (zsC (zsC X 1 r (driS (X 1 r) 1)) 3 p (X 3 p + 1)) 6 p (X 6 p + 1)
def crkX (X : Nat → Int → Int) (r : Int) : Nat → Int → Int := zsC (if X 0 1 = 0 then zsC X 0 70 (X 0 71) else X) 0 1 (orI (X 0 1) r)
def ask1 (X : Nat → Int → Int) (r p q m : Int) : Nat → Int → Int := zsC (zsC (blwX X r p) 0 7 m) 5 q (X 5 q + 1)
def ask2 (X : Nat → Int → Int) (r p q m : Int) : Nat → Int → Int := if m = -1 then zsC (ask1 X r p q m) 0 5 (X 0 5 + 1) else if m = 0 then zsC (ask1 X r p q m) 0 2 (X 0 2 + 1) else ask1 X r p q m
def ask3 (X : Nat → Int → Int) (r p q m v : Int) : Nat → Int → Int := if v = 0 ∨ v = 1 then zsC (if X 4 q = 1 - v then crkX (ask2 X r p q m) r else ask2 X r p q m) 4 q v else ask2 X r p q m
def askX (D : Int → Int) (X : Nat → Int → Int) (r p q : Int) : Nat → Int → Int := ask3 X r p q (blwN D X r p q) (meanS D (blwN D X r p q))
def sndP (D : Int → Int) (X : Nat → Int → Int) (r : Int) : Prop := (0 ≤ r ∧ r < D 0) ∧ bitI (X 0 1) r = 0
def mayP (D : Int → Int) (X : Nat → Int → Int) (p : Int) : Prop := (0 ≤ p ∧ p < D 1) ∧ X 3 p < 3
def due1 (X : Nat → Int → Int) (a b p s q : Int) : Nat → Int → Int := blwX (blwX (zsC X 5 q (X 5 q + 1)) a p) b s
def dueX (D : Int → Int) (X : Nat → Int → Int) (a b p s q : Int) : Nat → Int → Int := if meanS D (blwN D X a p q) ≠ -1 ∧ meanS D (blwN D X a p q) = meanS D (blwN D X b s q) then zsC (due1 X a b p s q) 0 3 (X 0 3 + 1) else if (0 ≤ meanS D (blwN D X a p q) ∧ meanS D (blwN D X a p q) ≤ 1) ∧ meanS D (blwN D X b s q) = 1 - meanS D (blwN D X a p q) then zsC (due1 X a b p s q) 0 4 (X 0 4 + 1) else due1 X a b p s q
def slpW (D : Int → Int) (X : Nat → Int → Int) (k : Int) : Nat → Int → Int := fun c j => if c = 1 ∧ 0 ≤ j ∧ j < k then driS (X 1 j) 1 else X c j
def slpP (X : Nat → Int → Int) (k : Int) : Nat → Int → Int := fun c j => if c = 3 ∧ 0 ≤ j ∧ j < k then 0 else X c j
def slpX (D : Int → Int) (X : Nat → Int → Int) : Nat → Int → Int := slpP (slpW D (zsC X 0 0 (X 0 0 + 1)) (D 0)) 4
theorem blw_rng (D : Int → Int) (X : Nat → Int → Int) (r p q : Int) : -1 ≤ blwN D X r p q ∧ blwN D X r p q ≤ 7 := noteS_rng
section KO
variable {D : Int → Int} {X : Nat → Int → Int} {B : Int}
theorem cOK.blw (O : dOK D) (K : cOK D X B) {r p : Int} (r0 : 0 ≤ r) (r1 : r < D 0) (hp : mayP D X p) : cOK D (blwX X r p) (B + 1) := by
  have b1 := O.2.1
  obtain ⟨⟨p0, p1⟩, p2⟩ := hp
  have kr := (K.2.2.2.2.2.2.2.2.2.2.1 r r0 r1).1
  have kp := K.2.2.2.2.2.2.2.2.2.2.2.1 p p0 (by omega)
  have dr := driS_rng (n := 1) kr.1 kr.2 (by omega)
  exact (((K.mono (by omega)).w1 dr).w3 (by omega)).w6 (by omega) p1
theorem cOK.crk (K : cOK D X B) {r : Int} (r0 : 0 ≤ r) (r1 : r < 6) : cOK D (crkX X r) B := by
  have o := orI_lt (s := X 0 1) (r := r) (n := 6) K.2.1.1 r0 r1 (by omega) K.2.1.2
  have o2 : orI (X 0 1) r < 64 := o.2.2
  have k9 := K.2.2.2.2.2.2.2.2.2.1
  unfold crkX
  by_cases c : X 0 1 = 0
  · rw [if_pos c]
    exact (K.i70 (by omega)).i1 ⟨o.1, o2⟩
  · rw [if_neg c]
    exact K.i1 ⟨o.1, o2⟩
theorem cOK.ask (O : dOK D) (K : cOK D X B) {r p q : Int} (hr : sndP D X r) (hp : mayP D X p) (q0 : 0 ≤ q) (q1 : q < D 2) : cOK D (askX D X r p q) (B + 1) := by
  have b0 := O.1
  have b2 := O.2.2.1
  have nr := blw_rng D X r p q
  have kq := K.2.2.2.2.2.2.2.2.2.2.2.2 q q0 (by omega)
  have k5 := K.2.2.2.2.2.1
  have k2 := K.2.2.1
  have s1 : cOK D (ask1 X r p q (blwN D X r p q)) (B + 1) := (((K.blw O hr.1.1 hr.1.2 hp).i7 nr).w5 (by omega) q1)
  have s2 : cOK D (ask2 X r p q (blwN D X r p q)) (B + 1) := by
    unfold ask2
    split
    · exact s1.i5 (by omega)
    · split
      · exact s1.i2 (by omega)
      · exact s1
  unfold askX ask3
  split
  · rename_i hv
    split
    · exact (s2.crk hr.1.1 (by have := hr.1.2; omega)).w4 (by omega)
    · exact s2.w4 (by omega)
  · exact s2
theorem cOK.due (O : dOK D) (K : cOK D X B) {a b p s q : Int} (ha : sndP D X a) (hb : sndP D X b) (hp : mayP D X p) (hs : mayP D X s) (hne : p ≠ s) (q0 : 0 ≤ q) (q1 : q < D 2) : cOK D (dueX D X a b p s q) (B + 1) := by
  have b1 := O.2.1
  have b2 := O.2.2.1
  have kq := K.2.2.2.2.2.2.2.2.2.2.2.2 q q0 (by omega)
  have k3 := K.2.2.2.1
  have k4 := K.2.2.2.2.1
  have ka := (K.2.2.2.2.2.2.2.2.2.2.1 a ha.1.1 ha.1.2).1
  have kp := K.2.2.2.2.2.2.2.2.2.2.2.1 p hp.1.1 (by have := hp.1.2; omega)
  have ks := K.2.2.2.2.2.2.2.2.2.2.2.1 s hs.1.1 (by have := hs.1.2; omega)
  have hp2 := hp.2
  have hs2 := hs.2
  have da := driS_rng (n := 1) ka.1 ka.2 (by omega)
  have e3 : blwX (zsC X 5 q (X 5 q + 1)) a p 3 s = X 3 s := by unfold blwX; simp (disch := omega) only [if_true, if_false, not_true_eq_false, not_false_eq_true, zoI_s, zoR_s, zoH_s, zoL_s, zbI_s, zbV_s, zbR_s, zbL_s, zif_dec, i32_0, ne_eq, i32_lt, i32_le, i32_eq, i32_add, i32_mul, i32_sub, i32_neg, zrz_0, zrz_1, zif_t, zif_f, zsF_s, zsF_k, zsF_a, zsC_s, zsC_a, zsC_i, zsW_s, zsW_a, Int.add_zero, Int.zero_add, true_and, false_and, and_false, Bool.false_eq_true, decide_true, decide_false, Bool.true_and, Bool.false_and, Bool.true_or, Bool.false_or, sub1, and_true, if_pos, if_neg]
  have e6 : blwX (zsC X 5 q (X 5 q + 1)) a p 6 s = X 6 s := by unfold blwX; simp (disch := omega) only [if_true, if_false, not_true_eq_false, not_false_eq_true, zoI_s, zoR_s, zoH_s, zoL_s, zbI_s, zbV_s, zbR_s, zbL_s, zif_dec, i32_0, ne_eq, i32_lt, i32_le, i32_eq, i32_add, i32_mul, i32_sub, i32_neg, zrz_0, zrz_1, zif_t, zif_f, zsF_s, zsF_k, zsF_a, zsC_s, zsC_a, zsC_i, zsW_s, zsW_a, Int.add_zero, Int.zero_add, true_and, false_and, and_false, Bool.false_eq_true, decide_true, decide_false, Bool.true_and, Bool.false_and, Bool.true_or, Bool.false_or, sub1, and_true, if_pos, if_neg]
  have s1 : cOK D (blwX (zsC X 5 q (X 5 q + 1)) a p) (B + 1) := (((((K.mono (show B ≤ B + 1 by omega)).w5 (x := q) (v := X 5 q + 1) (by omega) q1).w1 (x := a) (v := driS (X 1 a) 1) da).w3 (x := p) (v := X 3 p + 1) (by omega)).w6 (x := p) (v := X 6 p + 1) (by omega) hp.1.2)
  have kb := (s1.2.2.2.2.2.2.2.2.2.2.1 b hb.1.1 hb.1.2).1
  have db := driS_rng (n := 1) kb.1 kb.2 (by omega)
  have s2 : cOK D (due1 X a b p s q) (B + 1) := ((s1.w1 db).w3 (by rw [e3]; omega)).w6 (by rw [e6]; omega) hs.1.2
  unfold dueX
  split
  · exact s2.i3 (by omega)
  · split
    · exact s2.i4 (by omega)
    · exact s2
theorem cOK.slp (K : cOK D X B) : cOK D (slpX D X) (B + 1) := by
  have K1 := (K.mono (show B ≤ B + 1 by omega)).i0 (v := X 0 0 + 1) (by have := K.1; omega)
  obtain ⟨k0, k1, k2, k3, k4, k5, k6, k7, k8, k9, ka, kb, kc⟩ := K1
  refine ⟨k0, k1, k2, k3, k4, k5, k6, k7, k8, k9, fun r r0 r1 => ?_, fun p p0 p1 => ?_, kc⟩
  · have g := ka r r0 r1
    refine ⟨?_, g.2⟩
    show 0 ≤ (if (1 : Nat) = 1 ∧ 0 ≤ r ∧ r < D 0 then driS (X 1 r) 1 else X 1 r) ∧ (if (1 : Nat) = 1 ∧ 0 ≤ r ∧ r < D 0 then driS (X 1 r) 1 else X 1 r) ≤ 9
    rw [if_pos ⟨rfl, r0, r1⟩]
    exact driS_rng g.1.1 g.1.2 (by omega)
  · have g := kb p p0 p1
    refine ⟨?_, g.2⟩
    show 0 ≤ (if (3 : Nat) = 3 ∧ 0 ≤ p ∧ p < 4 then 0 else X 3 p) ∧ (if (3 : Nat) = 3 ∧ 0 ≤ p ∧ p < 4 then 0 else X 3 p) ≤ 3
    rw [if_pos ⟨rfl, p0, p1⟩]; omega
end KO
section CC
variable {h : zHeap} {F0 F : Nat → Nat → Int} {C0 C X : Nat → Int → Int} {a : Nat} {D : Int → Int} {B : Int}
theorem c_isSound (S : St h) (H : duS h a) (V : duV F0 C0 a D) (O : dOK D) (ha : a ≤ 28) (R : crC F0 C0 D F C X) (K : cOK D X B) {r : Int} (h1 : -2147483648 ≤ r) (h2 : r < 2147483648) : zc 15 [zR (some 50), zR (some a), zI (i32 r)] (zw h F C) = some (zI (i32 (if (0 ≤ r ∧ r < D 0) ∧ bitI (X 0 1) r = 0 then 1 else 0)), zw h F C) := by
  have V1 := V.tq R.1 ha
  have b0 := O.1
  have k1 := K.2.1
  have e := R.2.1.2.1
  rw [e_Course_isSound]
  by_cases c : 0 ≤ r ∧ r < D 0
  · rcases bitI_01 (X 0 1) r with c2 | c2
    · simp (disch := omega) only [if_true, if_false, not_true_eq_false, not_false_eq_true, zoI_s, zoR_s, zoH_s, zoL_s, zbI_s, zbV_s, zbR_s, zbL_s, zif_dec, i32_0, ne_eq, i32_lt, i32_le, i32_eq, i32_add, i32_mul, i32_sub, i32_neg, zrz_0, zrz_1, zif_t, zif_f, zsF_s, zsF_k, zsF_a, zsC_s, zsC_a, zsC_i, zsW_s, zsW_a, Int.add_zero, Int.zero_add, true_and, false_and, and_false, Bool.false_eq_true, decide_true, decide_false, Bool.true_and, Bool.false_and, Bool.true_or, Bool.false_or, sub1, and_true, if_pos, if_neg, dv H, dg_128 H, dp_128 H, dg_129 H, dp_129 H, dg_130 H, dp_130 H, dg_131 H, dp_131 H, dr_132 H, da_132 H, dr_133 H, da_133 H, dr_134 H, da_134 H, dr_135 H, da_135 H, dr_136 H, da_136 H, dr_137 H, da_137 H, c_hasReed H V1 O, ib_0, wv_50 S, wr_66 S, wr_67 S, wr_68 S, wr_69 S, wr_70 S, wr_71 S, wg_64 S, wp_64 S, wg_65 S, wp_65 S, wg_72 S, wp_72 S, wg_73 S, wp_73 S, wg_74 S, wp_74 S, wg_75 S, wp_75 S, wg_76 S, wp_76 S, wg_77 S, wp_77 S, wg_78 S, wp_78 S, wg_79 S, wp_79 S, wg_80 S, wp_80 S, e, b_shr, c2]
    · simp (disch := omega) only [if_true, if_false, not_true_eq_false, not_false_eq_true, zoI_s, zoR_s, zoH_s, zoL_s, zbI_s, zbV_s, zbR_s, zbL_s, zif_dec, i32_0, ne_eq, i32_lt, i32_le, i32_eq, i32_add, i32_mul, i32_sub, i32_neg, zrz_0, zrz_1, zif_t, zif_f, zsF_s, zsF_k, zsF_a, zsC_s, zsC_a, zsC_i, zsW_s, zsW_a, Int.add_zero, Int.zero_add, true_and, false_and, and_false, Bool.false_eq_true, decide_true, decide_false, Bool.true_and, Bool.false_and, Bool.true_or, Bool.false_or, sub1, and_true, if_pos, if_neg, dv H, dg_128 H, dp_128 H, dg_129 H, dp_129 H, dg_130 H, dp_130 H, dg_131 H, dp_131 H, dr_132 H, da_132 H, dr_133 H, da_133 H, dr_134 H, da_134 H, dr_135 H, da_135 H, dr_136 H, da_136 H, dr_137 H, da_137 H, c_hasReed H V1 O, ib_0, wv_50 S, wr_66 S, wr_67 S, wr_68 S, wr_69 S, wr_70 S, wr_71 S, wg_64 S, wp_64 S, wg_65 S, wp_65 S, wg_72 S, wp_72 S, wg_73 S, wp_73 S, wg_74 S, wp_74 S, wg_75 S, wp_75 S, wg_76 S, wp_76 S, wg_77 S, wp_77 S, wg_78 S, wp_78 S, wg_79 S, wp_79 S, wg_80 S, wp_80 S, e, b_shr, c2]
  · simp (disch := omega) only [if_true, if_false, not_true_eq_false, not_false_eq_true, zoI_s, zoR_s, zoH_s, zoL_s, zbI_s, zbV_s, zbR_s, zbL_s, zif_dec, i32_0, ne_eq, i32_lt, i32_le, i32_eq, i32_add, i32_mul, i32_sub, i32_neg, zrz_0, zrz_1, zif_t, zif_f, zsF_s, zsF_k, zsF_a, zsC_s, zsC_a, zsC_i, zsW_s, zsW_a, Int.add_zero, Int.zero_add, true_and, false_and, and_false, Bool.false_eq_true, decide_true, decide_false, Bool.true_and, Bool.false_and, Bool.true_or, Bool.false_or, sub1, and_true, if_pos, if_neg, dv H, dg_128 H, dp_128 H, dg_129 H, dp_129 H, dg_130 H, dp_130 H, dg_131 H, dp_131 H, dr_132 H, da_132 H, dr_133 H, da_133 H, dr_134 H, da_134 H, dr_135 H, da_135 H, dr_136 H, da_136 H, dr_137 H, da_137 H, c_hasReed H V1 O, ib_0]
theorem c_mayPlay (S : St h) (H : duS h a) (V : duV F0 C0 a D) (O : dOK D) (ha : a ≤ 28) (R : crC F0 C0 D F C X) (K : cOK D X B) {p : Int} (h1 : -2147483648 ≤ p) (h2 : p < 2147483648) : zc 16 [zR (some 50), zR (some a), zI (i32 p)] (zw h F C) = some (zI (i32 (if (0 ≤ p ∧ p < D 1) ∧ X 3 p < 3 then 1 else 0)), zw h F C) := by
  have V1 := V.tq R.1 ha
  have b1 := O.2.1
  rw [e_Course_mayPlay]
  by_cases c : 0 ≤ p ∧ p < D 1
  · have e := (R.2.2.2.1 p c.1 (by omega)).1
    have k := (K.2.2.2.2.2.2.2.2.2.2.2.1 p c.1 (by omega)).1
    by_cases c2 : X 3 p < 3
    · simp (disch := omega) only [if_true, if_false, not_true_eq_false, not_false_eq_true, zoI_s, zoR_s, zoH_s, zoL_s, zbI_s, zbV_s, zbR_s, zbL_s, zif_dec, i32_0, ne_eq, i32_lt, i32_le, i32_eq, i32_add, i32_mul, i32_sub, i32_neg, zrz_0, zrz_1, zif_t, zif_f, zsF_s, zsF_k, zsF_a, zsC_s, zsC_a, zsC_i, zsW_s, zsW_a, Int.add_zero, Int.zero_add, true_and, false_and, and_false, Bool.false_eq_true, decide_true, decide_false, Bool.true_and, Bool.false_and, Bool.true_or, Bool.false_or, sub1, and_true, if_pos, if_neg, dv H, dg_128 H, dp_128 H, dg_129 H, dp_129 H, dg_130 H, dp_130 H, dg_131 H, dp_131 H, dr_132 H, da_132 H, dr_133 H, da_133 H, dr_134 H, da_134 H, dr_135 H, da_135 H, dr_136 H, da_136 H, dr_137 H, da_137 H, c_hasPlayer H V1 O, ib_0, wv_50 S, wr_66 S, wr_67 S, wr_68 S, wr_69 S, wr_70 S, wr_71 S, wg_64 S, wp_64 S, wg_65 S, wp_65 S, wg_72 S, wp_72 S, wg_73 S, wp_73 S, wg_74 S, wp_74 S, wg_75 S, wp_75 S, wg_76 S, wp_76 S, wg_77 S, wp_77 S, wg_78 S, wp_78 S, wg_79 S, wp_79 S, wg_80 S, wp_80 S, wa_53 S, ws_53 S, e]
    · simp (disch := omega) only [if_true, if_false, not_true_eq_false, not_false_eq_true, zoI_s, zoR_s, zoH_s, zoL_s, zbI_s, zbV_s, zbR_s, zbL_s, zif_dec, i32_0, ne_eq, i32_lt, i32_le, i32_eq, i32_add, i32_mul, i32_sub, i32_neg, zrz_0, zrz_1, zif_t, zif_f, zsF_s, zsF_k, zsF_a, zsC_s, zsC_a, zsC_i, zsW_s, zsW_a, Int.add_zero, Int.zero_add, true_and, false_and, and_false, Bool.false_eq_true, decide_true, decide_false, Bool.true_and, Bool.false_and, Bool.true_or, Bool.false_or, sub1, and_true, if_pos, if_neg, dv H, dg_128 H, dp_128 H, dg_129 H, dp_129 H, dg_130 H, dp_130 H, dg_131 H, dp_131 H, dr_132 H, da_132 H, dr_133 H, da_133 H, dr_134 H, da_134 H, dr_135 H, da_135 H, dr_136 H, da_136 H, dr_137 H, da_137 H, c_hasPlayer H V1 O, ib_0, wv_50 S, wr_66 S, wr_67 S, wr_68 S, wr_69 S, wr_70 S, wr_71 S, wg_64 S, wp_64 S, wg_65 S, wp_65 S, wg_72 S, wp_72 S, wg_73 S, wp_73 S, wg_74 S, wp_74 S, wg_75 S, wp_75 S, wg_76 S, wp_76 S, wg_77 S, wp_77 S, wg_78 S, wp_78 S, wg_79 S, wp_79 S, wg_80 S, wp_80 S, wa_53 S, ws_53 S, e]
  · simp (disch := omega) only [if_true, if_false, not_true_eq_false, not_false_eq_true, zoI_s, zoR_s, zoH_s, zoL_s, zbI_s, zbV_s, zbR_s, zbL_s, zif_dec, i32_0, ne_eq, i32_lt, i32_le, i32_eq, i32_add, i32_mul, i32_sub, i32_neg, zrz_0, zrz_1, zif_t, zif_f, zsF_s, zsF_k, zsF_a, zsC_s, zsC_a, zsC_i, zsW_s, zsW_a, Int.add_zero, Int.zero_add, true_and, false_and, and_false, Bool.false_eq_true, decide_true, decide_false, Bool.true_and, Bool.false_and, Bool.true_or, Bool.false_or, sub1, and_true, if_pos, if_neg, dv H, dg_128 H, dp_128 H, dg_129 H, dp_129 H, dg_130 H, dp_130 H, dg_131 H, dp_131 H, dr_132 H, da_132 H, dr_133 H, da_133 H, dr_134 H, da_134 H, dr_135 H, da_135 H, dr_136 H, da_136 H, dr_137 H, da_137 H, c_hasPlayer H V1 O, ib_0]
theorem c_blow (S : St h) (H : duS h a) (V : duV F0 C0 a D) (O : dOK D) (ha : a ≤ 28) (R : crC F0 C0 D F C X) (K : cOK D X B) {r p q : Int} (r0 : 0 ≤ r) (r1 : r < D 0) (p0 : 0 ≤ p) (p1 : p < D 1) (q0 : 0 ≤ q) (q1 : q < D 2) : ∃ C', zc 19 [zR (some 50), zR (some a), zI (i32 r), zI (i32 p), zI (i32 q)] (zw h F C) = some (zI (i32 (blwN D X r p q)), zw h F C') ∧ crC F0 C0 D F C' (blwX X r p) := by
  have V1 := V.tq R.1 ha
  have b0 := O.1
  have b1 := O.2.1
  have er := R.2.2.1 r r0 r1
  have ep := R.2.2.2.1 p p0 (by omega)
  have e6 := R.2.1.2.2.2.2.2.2.1
  have k6 := K.2.2.2.2.2.2.1
  have kr := K.2.2.2.2.2.2.2.2.2.2.1 r r0 r1
  have dr := driS_rng (n := 1) kr.1.1 kr.1.2 (by omega)
  refine ⟨_, ?_, ((R.w51 r (driS (X 1 r) 1)).w53 p (X 3 p + 1)).w54 p (X 6 p + 1)⟩
  rw [e_Course_blow]
  simp (disch := omega) only [if_true, if_false, not_true_eq_false, not_false_eq_true, zoI_s, zoR_s, zoH_s, zoL_s, zbI_s, zbV_s, zbR_s, zbL_s, zif_dec, i32_0, ne_eq, i32_lt, i32_le, i32_eq, i32_add, i32_mul, i32_sub, i32_neg, zrz_0, zrz_1, zif_t, zif_f, zsF_s, zsF_k, zsF_a, zsC_s, zsC_a, zsC_i, zsW_s, zsW_a, Int.add_zero, Int.zero_add, true_and, false_and, and_false, Bool.false_eq_true, decide_true, decide_false, Bool.true_and, Bool.false_and, Bool.true_or, Bool.false_or, sub1, and_true, if_pos, if_neg, wv_50 S, wr_66 S, wr_67 S, wr_68 S, wr_69 S, wr_70 S, wr_71 S, wg_64 S, wp_64 S, wg_65 S, wp_65 S, wg_72 S, wp_72 S, wg_73 S, wp_73 S, wg_74 S, wp_74 S, wg_75 S, wp_75 S, wg_76 S, wp_76 S, wg_77 S, wp_77 S, wg_78 S, wp_78 S, wg_79 S, wp_79 S, wg_80 S, wp_80 S, wa_51 S, ws_51 S, wa_52 S, ws_52 S, wa_53 S, ws_53 S, wa_54 S, ws_54 S, er.1, er.2, ep.1, ep.2, e6, dv H, dg_128 H, dp_128 H, dg_129 H, dp_129 H, dg_130 H, dp_130 H, dg_131 H, dp_131 H, dr_132 H, da_132 H, dr_133 H, da_133 H, dr_134 H, da_134 H, dr_135 H, da_135 H, dr_136 H, da_136 H, dr_137 H, da_137 H, c_noteAt H V1 O, c_dried]
  rfl
theorem c_crack (S : St h) (R : crC F0 C0 D F C X) (K : cOK D X B) {r : Int} (r0 : 0 ≤ r) (r1 : r < 6) : ∃ F', zc 20 [zR (some 50), zI (i32 r)] (zw h F C) = some (zI 0, zw h F' C) ∧ crC F0 C0 D F' C (crkX X r) := by
  have e1 := R.2.1.2.1
  have e71 := R.2.1.2.2.2.2.2.2.2.2.2.1
  have k1 := K.2.1
  unfold crkX
  rw [e_Course_crack]
  by_cases c : X 0 1 = 0
  · rw [if_pos c]
    refine ⟨_, ?_, (R.f65 (X 0 71)).f72 (orI (X 0 1) r)⟩
    simp (disch := omega) only [if_true, if_false, not_true_eq_false, not_false_eq_true, zoI_s, zoR_s, zoH_s, zoL_s, zbI_s, zbV_s, zbR_s, zbL_s, zif_dec, i32_0, ne_eq, i32_lt, i32_le, i32_eq, i32_add, i32_mul, i32_sub, i32_neg, zrz_0, zrz_1, zif_t, zif_f, zsF_s, zsF_k, zsF_a, zsC_s, zsC_a, zsC_i, zsW_s, zsW_a, Int.add_zero, Int.zero_add, true_and, false_and, and_false, Bool.false_eq_true, decide_true, decide_false, Bool.true_and, Bool.false_and, Bool.true_or, Bool.false_or, sub1, and_true, if_pos, if_neg, wv_50 S, wr_66 S, wr_67 S, wr_68 S, wr_69 S, wr_70 S, wr_71 S, wg_64 S, wp_64 S, wg_65 S, wp_65 S, wg_72 S, wp_72 S, wg_73 S, wp_73 S, wg_74 S, wp_74 S, wg_75 S, wp_75 S, wg_76 S, wp_76 S, wg_77 S, wp_77 S, wg_78 S, wp_78 S, wg_79 S, wp_79 S, wg_80 S, wp_80 S, e1, e71, b_or]
  · rw [if_neg c]
    refine ⟨_, ?_, R.f72 (orI (X 0 1) r)⟩
    simp (disch := omega) only [if_true, if_false, not_true_eq_false, not_false_eq_true, zoI_s, zoR_s, zoH_s, zoL_s, zbI_s, zbV_s, zbR_s, zbL_s, zif_dec, i32_0, ne_eq, i32_lt, i32_le, i32_eq, i32_add, i32_mul, i32_sub, i32_neg, zrz_0, zrz_1, zif_t, zif_f, zsF_s, zsF_k, zsF_a, zsC_s, zsC_a, zsC_i, zsW_s, zsW_a, Int.add_zero, Int.zero_add, true_and, false_and, and_false, Bool.false_eq_true, decide_true, decide_false, Bool.true_and, Bool.false_and, Bool.true_or, Bool.false_or, sub1, and_true, if_pos, if_neg, wv_50 S, wr_66 S, wr_67 S, wr_68 S, wr_69 S, wr_70 S, wr_71 S, wg_64 S, wp_64 S, wg_65 S, wp_65 S, wg_72 S, wp_72 S, wg_73 S, wp_73 S, wg_74 S, wp_74 S, wg_75 S, wp_75 S, wg_76 S, wp_76 S, wg_77 S, wp_77 S, wg_78 S, wp_78 S, wg_79 S, wp_79 S, wg_80 S, wp_80 S, e1, b_or]
theorem c_ask (S : St h) (H : duS h a) (V : duV F0 C0 a D) (O : dOK D) (ha : a ≤ 28) (R : crC F0 C0 D F C X) (K : cOK D X B) {r p q : Int} (hr : sndP D X r) (hp : mayP D X p) (q0 : 0 ≤ q) (q1 : q < D 2) (hB : B ≤ 1000) : ∃ F' C', zc 17 [zR (some 50), zR (some a), zI (i32 r), zI (i32 p), zI (i32 q)] (zw h F C) = some (zI (i32 1), zw h F' C') ∧ crC F0 C0 D F' C' (askX D X r p q) := by
  have b0 := O.1
  have b1 := O.2.1
  have b2 := O.2.2.1
  have V1 := V.tq R.1 ha
  obtain ⟨⟨r0, r1⟩, r2⟩ := id hr
  obtain ⟨⟨p0, p1⟩, p2⟩ := id hp
  have es := c_isSound S H V O ha R K (r := r) (by omega) (by omega)
  rw [if_pos ⟨⟨r0, r1⟩, r2⟩] at es
  have em := c_mayPlay S H V O ha R K (p := p) (by omega) (by omega)
  rw [if_pos ⟨⟨p0, p1⟩, p2⟩] at em
  obtain ⟨C1, eb, R1⟩ := c_blow S H V O ha R K r0 r1 p0 p1 q0 q1
  have nr := blw_rng D X r p q
  have K2 : cOK D (ask2 X r p q (blwN D X r p q)) (B + 1) := by
    have kq := K.2.2.2.2.2.2.2.2.2.2.2.2 q q0 (by omega)
    have k5 := K.2.2.2.2.2.1
    have k2 := K.2.2.1
    have s1 : cOK D (ask1 X r p q (blwN D X r p q)) (B + 1) := (((K.blw O r0 r1 hp).i7 nr).w5 (by omega) q1)
    unfold ask2
    split
    · exact s1.i5 (by omega)
    · split
      · exact s1.i2 (by omega)
      · exact s1
  have mr := meanS_rng O nr.2
  have eq5 : C1 55 q = X 5 q := (R1.2.2.2.2 q q0 (by omega)).2
  have ef5 : F 77 50 = X 0 5 := R1.2.1.2.2.2.2.2.1
  have ef2 : F 74 50 = X 0 2 := R1.2.1.2.2.1
  have kx5 := (K.2.2.2.2.2.2.2.2.2.2.2.2 q q0 (by omega)).2.1
  have kk5 := K.2.2.2.2.2.1
  have kk2 := K.2.2.1
  -- up to the answer
  obtain ⟨F2, C2, e2, R2⟩ : ∃ F2 C2, zc 17 [zR (some 50), zR (some a), zI (i32 r), zI (i32 p), zI (i32 q)] (zw h F C) = zr 17 42 [yR (some 50), yR (some a), yI (i32 r), yI (i32 p), yI (i32 q), none] [] (zw h F2 C2) ∧ crC F0 C0 D F2 C2 (if blwN D X r p q = -1 then zsC (ask1 X r p q (blwN D X r p q)) 0 5 (X 0 5 + 1) else ask1 X r p q (blwN D X r p q)) := by
    have R3 := (R1.f79 (blwN D X r p q)).w55 q (X 5 q + 1)
    by_cases cm : blwN D X r p q = -1
    · rw [if_pos cm]
      refine ⟨_, _, ?_, R3.f77 (X 0 5 + 1)⟩
      simp (disch := omega) only [if_true, if_false, not_true_eq_false, not_false_eq_true, zoI_s, zoR_s, zoH_s, zoL_s, zbI_s, zbV_s, zbR_s, zbL_s, zif_dec, i32_0, ne_eq, i32_lt, i32_le, i32_eq, i32_add, i32_mul, i32_sub, i32_neg, zrz_0, zrz_1, zif_t, zif_f, zsF_s, zsF_k, zsF_a, zsC_s, zsC_a, zsC_i, zsW_s, zsW_a, Int.add_zero, Int.zero_add, true_and, false_and, and_false, Bool.false_eq_true, decide_true, decide_false, Bool.true_and, Bool.false_and, Bool.true_or, Bool.false_or, sub1, and_true, if_pos, if_neg, e_Course_ask, wv_50 S, wr_66 S, wr_67 S, wr_68 S, wr_69 S, wr_70 S, wr_71 S, wg_64 S, wp_64 S, wg_65 S, wp_65 S, wg_72 S, wp_72 S, wg_73 S, wp_73 S, wg_74 S, wp_74 S, wg_75 S, wp_75 S, wg_76 S, wp_76 S, wg_77 S, wp_77 S, wg_78 S, wp_78 S, wg_79 S, wp_79 S, wg_80 S, wp_80 S, es, em, dv H, dg_128 H, dp_128 H, dg_129 H, dp_129 H, dg_130 H, dp_130 H, dg_131 H, dp_131 H, dr_132 H, da_132 H, dr_133 H, da_133 H, dr_134 H, da_134 H, dr_135 H, da_135 H, dr_136 H, da_136 H, dr_137 H, da_137 H, c_hasQuestion H V1 O, ib_0, eb, wa_55 S, ws_55 S, eq5, ef5]
    · rw [if_neg cm]
      refine ⟨_, _, ?_, R3⟩
      simp (disch := omega) only [if_true, if_false, not_true_eq_false, not_false_eq_true, zoI_s, zoR_s, zoH_s, zoL_s, zbI_s, zbV_s, zbR_s, zbL_s, zif_dec, i32_0, ne_eq, i32_lt, i32_le, i32_eq, i32_add, i32_mul, i32_sub, i32_neg, zrz_0, zrz_1, zif_t, zif_f, zsF_s, zsF_k, zsF_a, zsC_s, zsC_a, zsC_i, zsW_s, zsW_a, Int.add_zero, Int.zero_add, true_and, false_and, and_false, Bool.false_eq_true, decide_true, decide_false, Bool.true_and, Bool.false_and, Bool.true_or, Bool.false_or, sub1, and_true, if_pos, if_neg, e_Course_ask, wv_50 S, wr_66 S, wr_67 S, wr_68 S, wr_69 S, wr_70 S, wr_71 S, wg_64 S, wp_64 S, wg_65 S, wp_65 S, wg_72 S, wp_72 S, wg_73 S, wp_73 S, wg_74 S, wp_74 S, wg_75 S, wp_75 S, wg_76 S, wp_76 S, wg_77 S, wp_77 S, wg_78 S, wp_78 S, wg_79 S, wp_79 S, wg_80 S, wp_80 S, es, em, dv H, dg_128 H, dp_128 H, dg_129 H, dp_129 H, dg_130 H, dp_130 H, dg_131 H, dp_131 H, dr_132 H, da_132 H, dr_133 H, da_133 H, dr_134 H, da_134 H, dr_135 H, da_135 H, dr_136 H, da_136 H, dr_137 H, da_137 H, c_hasQuestion H V1 O, ib_0, eb, wa_55 S, ws_55 S, eq5, ef5]
  rw [e2]
  generalize hm : blwN D X r p q = m at *
  have V2 := V.tq R2.1 ha
  -- the note 0
  obtain ⟨F3, e3, R3⟩ : ∃ F3, (∀ v, meanS D m = v → zr 17 42 [yR (some 50), yR (some a), yI (i32 r), yI (i32 p), yI (i32 q), none] [] (zw h F2 C2) = (if v = 0 ∨ v = 1 then (if X 4 q = 1 - v then zbV (zc 20 [zR (some 50), zI (i32 r)] (zw h F3 C2)) (fun h11 => zoR (zgR h11 (some 50) 71) fun r12 => zoH (zaS h11 r12 (i32 q) (i32 v)) fun h13 => some (zI (i32 1), h13)) else some (zI (i32 1), zw h F3 (zsC C2 56 q v))) else some (zI (i32 1), zw h F3 C2))) ∧ crC F0 C0 D F3 C2 (ask2 X r p q m) := by
    have em7 : F2 79 50 = m := by
      rw [R2.2.1.2.2.2.2.2.2.2.1]
      split
      · rfl
      · rfl
    have e74 : F2 74 50 = X 0 2 := by
      rw [R2.2.1.2.2.1]
      split
      · rfl
      · rfl
    have e4 : C2 56 q = X 4 q := by
      rw [(R2.2.2.2.2 q q0 (by omega)).1]
      split
      · rfl
      · rfl
    have k4 := (K.2.2.2.2.2.2.2.2.2.2.2.2 q q0 (by omega)).1
    by_cases c0 : m = 0
    · refine ⟨zsF F2 74 50 (X 0 2 + 1), fun v hv => ?_, ?_⟩
      rotate_left
      · unfold ask2
        rw [if_neg (by omega), if_pos c0]
        rw [if_neg (by omega)] at R2
        exact R2.f74 (X 0 2 + 1)
      · rw [hv] at mr
        have V3 := V2.tq (tq.rfl.sF (F1 := F2) (C1 := C2) (k := 74) (a := 50) (x := X 0 2 + 1) (by omega) (by omega)) ha
        have ev := c_meaning H V3 (n := m) (by omega) (by omega)
        rw [hv] at ev
        rw [e_Course_ask_42]
        by_cases v1 : v = 1
        · by_cases vx : X 4 q = 1 - v
          · simp (disch := omega) only [if_true, if_false, not_true_eq_false, not_false_eq_true, zoI_s, zoR_s, zoH_s, zoL_s, zbI_s, zbV_s, zbR_s, zbL_s, zif_dec, i32_0, ne_eq, i32_lt, i32_le, i32_eq, i32_add, i32_mul, i32_sub, i32_neg, zrz_0, zrz_1, zif_t, zif_f, zsF_s, zsF_k, zsF_a, zsC_s, zsC_a, zsC_i, zsW_s, zsW_a, Int.add_zero, Int.zero_add, true_and, false_and, and_false, Bool.false_eq_true, decide_true, decide_false, Bool.true_and, Bool.false_and, Bool.true_or, Bool.false_or, sub1, and_true, if_pos, if_neg, wv_50 S, wr_66 S, wr_67 S, wr_68 S, wr_69 S, wr_70 S, wr_71 S, wg_64 S, wp_64 S, wg_65 S, wp_65 S, wg_72 S, wp_72 S, wg_73 S, wp_73 S, wg_74 S, wp_74 S, wg_75 S, wp_75 S, wg_76 S, wp_76 S, wg_77 S, wp_77 S, wg_78 S, wp_78 S, wg_79 S, wp_79 S, wg_80 S, wp_80 S, em7, e74, dv H, dg_128 H, dp_128 H, dg_129 H, dp_129 H, dg_130 H, dp_130 H, dg_131 H, dp_131 H, dr_132 H, da_132 H, dr_133 H, da_133 H, dr_134 H, da_134 H, dr_135 H, da_135 H, dr_136 H, da_136 H, dr_137 H, da_137 H, ev, wa_56 S, ws_56 S, e4, c_areOpposed, ib_0]
          · simp (disch := omega) only [if_true, if_false, not_true_eq_false, not_false_eq_true, zoI_s, zoR_s, zoH_s, zoL_s, zbI_s, zbV_s, zbR_s, zbL_s, zif_dec, i32_0, ne_eq, i32_lt, i32_le, i32_eq, i32_add, i32_mul, i32_sub, i32_neg, zrz_0, zrz_1, zif_t, zif_f, zsF_s, zsF_k, zsF_a, zsC_s, zsC_a, zsC_i, zsW_s, zsW_a, Int.add_zero, Int.zero_add, true_and, false_and, and_false, Bool.false_eq_true, decide_true, decide_false, Bool.true_and, Bool.false_and, Bool.true_or, Bool.false_or, sub1, and_true, if_pos, if_neg, wv_50 S, wr_66 S, wr_67 S, wr_68 S, wr_69 S, wr_70 S, wr_71 S, wg_64 S, wp_64 S, wg_65 S, wp_65 S, wg_72 S, wp_72 S, wg_73 S, wp_73 S, wg_74 S, wp_74 S, wg_75 S, wp_75 S, wg_76 S, wp_76 S, wg_77 S, wp_77 S, wg_78 S, wp_78 S, wg_79 S, wp_79 S, wg_80 S, wp_80 S, em7, e74, dv H, dg_128 H, dp_128 H, dg_129 H, dp_129 H, dg_130 H, dp_130 H, dg_131 H, dp_131 H, dr_132 H, da_132 H, dr_133 H, da_133 H, dr_134 H, da_134 H, dr_135 H, da_135 H, dr_136 H, da_136 H, dr_137 H, da_137 H, ev, wa_56 S, ws_56 S, e4, c_areOpposed, ib_0]
        · by_cases v0 : v = 0
          · by_cases vx : X 4 q = 1 - v
            · simp (disch := omega) only [if_true, if_false, not_true_eq_false, not_false_eq_true, zoI_s, zoR_s, zoH_s, zoL_s, zbI_s, zbV_s, zbR_s, zbL_s, zif_dec, i32_0, ne_eq, i32_lt, i32_le, i32_eq, i32_add, i32_mul, i32_sub, i32_neg, zrz_0, zrz_1, zif_t, zif_f, zsF_s, zsF_k, zsF_a, zsC_s, zsC_a, zsC_i, zsW_s, zsW_a, Int.add_zero, Int.zero_add, true_and, false_and, and_false, Bool.false_eq_true, decide_true, decide_false, Bool.true_and, Bool.false_and, Bool.true_or, Bool.false_or, sub1, and_true, if_pos, if_neg, wv_50 S, wr_66 S, wr_67 S, wr_68 S, wr_69 S, wr_70 S, wr_71 S, wg_64 S, wp_64 S, wg_65 S, wp_65 S, wg_72 S, wp_72 S, wg_73 S, wp_73 S, wg_74 S, wp_74 S, wg_75 S, wp_75 S, wg_76 S, wp_76 S, wg_77 S, wp_77 S, wg_78 S, wp_78 S, wg_79 S, wp_79 S, wg_80 S, wp_80 S, em7, e74, dv H, dg_128 H, dp_128 H, dg_129 H, dp_129 H, dg_130 H, dp_130 H, dg_131 H, dp_131 H, dr_132 H, da_132 H, dr_133 H, da_133 H, dr_134 H, da_134 H, dr_135 H, da_135 H, dr_136 H, da_136 H, dr_137 H, da_137 H, ev, wa_56 S, ws_56 S, e4, c_areOpposed, ib_0]
            · simp (disch := omega) only [if_true, if_false, not_true_eq_false, not_false_eq_true, zoI_s, zoR_s, zoH_s, zoL_s, zbI_s, zbV_s, zbR_s, zbL_s, zif_dec, i32_0, ne_eq, i32_lt, i32_le, i32_eq, i32_add, i32_mul, i32_sub, i32_neg, zrz_0, zrz_1, zif_t, zif_f, zsF_s, zsF_k, zsF_a, zsC_s, zsC_a, zsC_i, zsW_s, zsW_a, Int.add_zero, Int.zero_add, true_and, false_and, and_false, Bool.false_eq_true, decide_true, decide_false, Bool.true_and, Bool.false_and, Bool.true_or, Bool.false_or, sub1, and_true, if_pos, if_neg, wv_50 S, wr_66 S, wr_67 S, wr_68 S, wr_69 S, wr_70 S, wr_71 S, wg_64 S, wp_64 S, wg_65 S, wp_65 S, wg_72 S, wp_72 S, wg_73 S, wp_73 S, wg_74 S, wp_74 S, wg_75 S, wp_75 S, wg_76 S, wp_76 S, wg_77 S, wp_77 S, wg_78 S, wp_78 S, wg_79 S, wp_79 S, wg_80 S, wp_80 S, em7, e74, dv H, dg_128 H, dp_128 H, dg_129 H, dp_129 H, dg_130 H, dp_130 H, dg_131 H, dp_131 H, dr_132 H, da_132 H, dr_133 H, da_133 H, dr_134 H, da_134 H, dr_135 H, da_135 H, dr_136 H, da_136 H, dr_137 H, da_137 H, ev, wa_56 S, ws_56 S, e4, c_areOpposed, ib_0]
          · simp (disch := omega) only [if_true, if_false, not_true_eq_false, not_false_eq_true, zoI_s, zoR_s, zoH_s, zoL_s, zbI_s, zbV_s, zbR_s, zbL_s, zif_dec, i32_0, ne_eq, i32_lt, i32_le, i32_eq, i32_add, i32_mul, i32_sub, i32_neg, zrz_0, zrz_1, zif_t, zif_f, zsF_s, zsF_k, zsF_a, zsC_s, zsC_a, zsC_i, zsW_s, zsW_a, Int.add_zero, Int.zero_add, true_and, false_and, and_false, Bool.false_eq_true, decide_true, decide_false, Bool.true_and, Bool.false_and, Bool.true_or, Bool.false_or, sub1, and_true, if_pos, if_neg, wv_50 S, wr_66 S, wr_67 S, wr_68 S, wr_69 S, wr_70 S, wr_71 S, wg_64 S, wp_64 S, wg_65 S, wp_65 S, wg_72 S, wp_72 S, wg_73 S, wp_73 S, wg_74 S, wp_74 S, wg_75 S, wp_75 S, wg_76 S, wp_76 S, wg_77 S, wp_77 S, wg_78 S, wp_78 S, wg_79 S, wp_79 S, wg_80 S, wp_80 S, em7, e74, dv H, dg_128 H, dp_128 H, dg_129 H, dp_129 H, dg_130 H, dp_130 H, dg_131 H, dp_131 H, dr_132 H, da_132 H, dr_133 H, da_133 H, dr_134 H, da_134 H, dr_135 H, da_135 H, dr_136 H, da_136 H, dr_137 H, da_137 H, ev, wa_56 S, ws_56 S, e4, c_areOpposed, ib_0]
    · refine ⟨F2, fun v hv => ?_, ?_⟩
      · rw [hv] at mr
        have ev := c_meaning H V2 (n := m) (by omega) (by omega)
        rw [hv] at ev
        rw [e_Course_ask_42]
        by_cases v1 : v = 1
        · by_cases vx : X 4 q = 1 - v
          · simp (disch := omega) only [if_true, if_false, not_true_eq_false, not_false_eq_true, zoI_s, zoR_s, zoH_s, zoL_s, zbI_s, zbV_s, zbR_s, zbL_s, zif_dec, i32_0, ne_eq, i32_lt, i32_le, i32_eq, i32_add, i32_mul, i32_sub, i32_neg, zrz_0, zrz_1, zif_t, zif_f, zsF_s, zsF_k, zsF_a, zsC_s, zsC_a, zsC_i, zsW_s, zsW_a, Int.add_zero, Int.zero_add, true_and, false_and, and_false, Bool.false_eq_true, decide_true, decide_false, Bool.true_and, Bool.false_and, Bool.true_or, Bool.false_or, sub1, and_true, if_pos, if_neg, wv_50 S, wr_66 S, wr_67 S, wr_68 S, wr_69 S, wr_70 S, wr_71 S, wg_64 S, wp_64 S, wg_65 S, wp_65 S, wg_72 S, wp_72 S, wg_73 S, wp_73 S, wg_74 S, wp_74 S, wg_75 S, wp_75 S, wg_76 S, wp_76 S, wg_77 S, wp_77 S, wg_78 S, wp_78 S, wg_79 S, wp_79 S, wg_80 S, wp_80 S, em7, e74, dv H, dg_128 H, dp_128 H, dg_129 H, dp_129 H, dg_130 H, dp_130 H, dg_131 H, dp_131 H, dr_132 H, da_132 H, dr_133 H, da_133 H, dr_134 H, da_134 H, dr_135 H, da_135 H, dr_136 H, da_136 H, dr_137 H, da_137 H, ev, wa_56 S, ws_56 S, e4, c_areOpposed, ib_0]
          · simp (disch := omega) only [if_true, if_false, not_true_eq_false, not_false_eq_true, zoI_s, zoR_s, zoH_s, zoL_s, zbI_s, zbV_s, zbR_s, zbL_s, zif_dec, i32_0, ne_eq, i32_lt, i32_le, i32_eq, i32_add, i32_mul, i32_sub, i32_neg, zrz_0, zrz_1, zif_t, zif_f, zsF_s, zsF_k, zsF_a, zsC_s, zsC_a, zsC_i, zsW_s, zsW_a, Int.add_zero, Int.zero_add, true_and, false_and, and_false, Bool.false_eq_true, decide_true, decide_false, Bool.true_and, Bool.false_and, Bool.true_or, Bool.false_or, sub1, and_true, if_pos, if_neg, wv_50 S, wr_66 S, wr_67 S, wr_68 S, wr_69 S, wr_70 S, wr_71 S, wg_64 S, wp_64 S, wg_65 S, wp_65 S, wg_72 S, wp_72 S, wg_73 S, wp_73 S, wg_74 S, wp_74 S, wg_75 S, wp_75 S, wg_76 S, wp_76 S, wg_77 S, wp_77 S, wg_78 S, wp_78 S, wg_79 S, wp_79 S, wg_80 S, wp_80 S, em7, e74, dv H, dg_128 H, dp_128 H, dg_129 H, dp_129 H, dg_130 H, dp_130 H, dg_131 H, dp_131 H, dr_132 H, da_132 H, dr_133 H, da_133 H, dr_134 H, da_134 H, dr_135 H, da_135 H, dr_136 H, da_136 H, dr_137 H, da_137 H, ev, wa_56 S, ws_56 S, e4, c_areOpposed, ib_0]
        · by_cases v0 : v = 0
          · by_cases vx : X 4 q = 1 - v
            · simp (disch := omega) only [if_true, if_false, not_true_eq_false, not_false_eq_true, zoI_s, zoR_s, zoH_s, zoL_s, zbI_s, zbV_s, zbR_s, zbL_s, zif_dec, i32_0, ne_eq, i32_lt, i32_le, i32_eq, i32_add, i32_mul, i32_sub, i32_neg, zrz_0, zrz_1, zif_t, zif_f, zsF_s, zsF_k, zsF_a, zsC_s, zsC_a, zsC_i, zsW_s, zsW_a, Int.add_zero, Int.zero_add, true_and, false_and, and_false, Bool.false_eq_true, decide_true, decide_false, Bool.true_and, Bool.false_and, Bool.true_or, Bool.false_or, sub1, and_true, if_pos, if_neg, wv_50 S, wr_66 S, wr_67 S, wr_68 S, wr_69 S, wr_70 S, wr_71 S, wg_64 S, wp_64 S, wg_65 S, wp_65 S, wg_72 S, wp_72 S, wg_73 S, wp_73 S, wg_74 S, wp_74 S, wg_75 S, wp_75 S, wg_76 S, wp_76 S, wg_77 S, wp_77 S, wg_78 S, wp_78 S, wg_79 S, wp_79 S, wg_80 S, wp_80 S, em7, e74, dv H, dg_128 H, dp_128 H, dg_129 H, dp_129 H, dg_130 H, dp_130 H, dg_131 H, dp_131 H, dr_132 H, da_132 H, dr_133 H, da_133 H, dr_134 H, da_134 H, dr_135 H, da_135 H, dr_136 H, da_136 H, dr_137 H, da_137 H, ev, wa_56 S, ws_56 S, e4, c_areOpposed, ib_0]
            · simp (disch := omega) only [if_true, if_false, not_true_eq_false, not_false_eq_true, zoI_s, zoR_s, zoH_s, zoL_s, zbI_s, zbV_s, zbR_s, zbL_s, zif_dec, i32_0, ne_eq, i32_lt, i32_le, i32_eq, i32_add, i32_mul, i32_sub, i32_neg, zrz_0, zrz_1, zif_t, zif_f, zsF_s, zsF_k, zsF_a, zsC_s, zsC_a, zsC_i, zsW_s, zsW_a, Int.add_zero, Int.zero_add, true_and, false_and, and_false, Bool.false_eq_true, decide_true, decide_false, Bool.true_and, Bool.false_and, Bool.true_or, Bool.false_or, sub1, and_true, if_pos, if_neg, wv_50 S, wr_66 S, wr_67 S, wr_68 S, wr_69 S, wr_70 S, wr_71 S, wg_64 S, wp_64 S, wg_65 S, wp_65 S, wg_72 S, wp_72 S, wg_73 S, wp_73 S, wg_74 S, wp_74 S, wg_75 S, wp_75 S, wg_76 S, wp_76 S, wg_77 S, wp_77 S, wg_78 S, wp_78 S, wg_79 S, wp_79 S, wg_80 S, wp_80 S, em7, e74, dv H, dg_128 H, dp_128 H, dg_129 H, dp_129 H, dg_130 H, dp_130 H, dg_131 H, dp_131 H, dr_132 H, da_132 H, dr_133 H, da_133 H, dr_134 H, da_134 H, dr_135 H, da_135 H, dr_136 H, da_136 H, dr_137 H, da_137 H, ev, wa_56 S, ws_56 S, e4, c_areOpposed, ib_0]
          · simp (disch := omega) only [if_true, if_false, not_true_eq_false, not_false_eq_true, zoI_s, zoR_s, zoH_s, zoL_s, zbI_s, zbV_s, zbR_s, zbL_s, zif_dec, i32_0, ne_eq, i32_lt, i32_le, i32_eq, i32_add, i32_mul, i32_sub, i32_neg, zrz_0, zrz_1, zif_t, zif_f, zsF_s, zsF_k, zsF_a, zsC_s, zsC_a, zsC_i, zsW_s, zsW_a, Int.add_zero, Int.zero_add, true_and, false_and, and_false, Bool.false_eq_true, decide_true, decide_false, Bool.true_and, Bool.false_and, Bool.true_or, Bool.false_or, sub1, and_true, if_pos, if_neg, wv_50 S, wr_66 S, wr_67 S, wr_68 S, wr_69 S, wr_70 S, wr_71 S, wg_64 S, wp_64 S, wg_65 S, wp_65 S, wg_72 S, wp_72 S, wg_73 S, wp_73 S, wg_74 S, wp_74 S, wg_75 S, wp_75 S, wg_76 S, wp_76 S, wg_77 S, wp_77 S, wg_78 S, wp_78 S, wg_79 S, wp_79 S, wg_80 S, wp_80 S, em7, e74, dv H, dg_128 H, dp_128 H, dg_129 H, dp_129 H, dg_130 H, dp_130 H, dg_131 H, dp_131 H, dr_132 H, da_132 H, dr_133 H, da_133 H, dr_134 H, da_134 H, dr_135 H, da_135 H, dr_136 H, da_136 H, dr_137 H, da_137 H, ev, wa_56 S, ws_56 S, e4, c_areOpposed, ib_0]
      · unfold ask2
        rw [if_neg c0]
        exact R2
  rw [e3 _ rfl]
  unfold askX ask3
  rw [hm]
  by_cases cv : meanS D m = 0 ∨ meanS D m = 1
  · rw [if_pos cv, if_pos cv]
    by_cases cx : X 4 q = 1 - meanS D m
    · rw [if_pos cx, if_pos cx]
      obtain ⟨F4, e4, R4⟩ := c_crack S R3 K2 r0 (by omega)
      refine ⟨F4, _, ?_, R4.w56 q (meanS D m)⟩
      simp (disch := omega) only [if_true, if_false, not_true_eq_false, not_false_eq_true, zoI_s, zoR_s, zoH_s, zoL_s, zbI_s, zbV_s, zbR_s, zbL_s, zif_dec, i32_0, ne_eq, i32_lt, i32_le, i32_eq, i32_add, i32_mul, i32_sub, i32_neg, zrz_0, zrz_1, zif_t, zif_f, zsF_s, zsF_k, zsF_a, zsC_s, zsC_a, zsC_i, zsW_s, zsW_a, Int.add_zero, Int.zero_add, true_and, false_and, and_false, Bool.false_eq_true, decide_true, decide_false, Bool.true_and, Bool.false_and, Bool.true_or, Bool.false_or, sub1, and_true, if_pos, if_neg, e4, wv_50 S, wr_66 S, wr_67 S, wr_68 S, wr_69 S, wr_70 S, wr_71 S, wg_64 S, wp_64 S, wg_65 S, wp_65 S, wg_72 S, wp_72 S, wg_73 S, wp_73 S, wg_74 S, wp_74 S, wg_75 S, wp_75 S, wg_76 S, wp_76 S, wg_77 S, wp_77 S, wg_78 S, wp_78 S, wg_79 S, wp_79 S, wg_80 S, wp_80 S, wa_56 S, ws_56 S]
    · rw [if_neg cx, if_neg cx]
      exact ⟨F3, _, rfl, R3.w56 q (meanS D m)⟩
  · rw [if_neg cv, if_neg cv]
    exact ⟨F3, C2, rfl, R3⟩
end CC
