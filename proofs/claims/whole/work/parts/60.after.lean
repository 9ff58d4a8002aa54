/-! after -/
/-- the first greatest of those from 0 up to j -/
def gst (f : Int → Int) : Nat → Int
  | 0 => 0
  | j + 1 => if f (gst f j) < f ((j : Int) + 1) then (j : Int) + 1 else gst f j
def gstI (f : Int → Int) (k : Int) : Int := gst f k.toNat
theorem gstI_0 (f : Int → Int) : gstI f 0 = 0 := rfl
theorem gstI_s (f : Int → Int) {k : Int} (h : 1 ≤ k) : gstI f k = if f (gstI f (k - 1)) < f k then k else gstI f (k - 1) := by
  unfold gstI
  rw [show k.toNat = (k - 1).toNat + 1 by omega, gst, show (((k - 1).toNat : Nat) : Int) + 1 = k by omega]
theorem gst_rng (f : Int → Int) : ∀ j : Nat, 0 ≤ gst f j ∧ gst f j ≤ j := by
  intro j
  induction j with
  | zero => exact ⟨Int.le_refl 0, Int.le_refl 0⟩
  | succ j ih =>
    rw [gst]
    split <;> omega
theorem gstI_rng (f : Int → Int) {k : Int} (h : 0 ≤ k) : 0 ≤ gstI f k ∧ gstI f k ≤ k := by
  have := gst_rng f k.toNat
  unfold gstI
  omega
/-- of n; -1 if all are 0 -/
def fgS (f : Int → Int) (n : Int) : Int := if n = 0 then -1 else if f (gstI f (n - 1)) = 0 then -1 else gstI f (n - 1)
theorem fgS_ext {f : Int → Int} {n N : Int} (n0 : 0 ≤ n) (h0 : ∀ i, 0 ≤ i → i < N → 0 ≤ f i) : ∀ (j : Nat), n + j ≤ N → (∀ i, n ≤ i → i < n + j → f i = 0) → fgS f (n + j) = fgS f n := by
  intro j
  induction j with
  | zero => intro _ _; rw [show n + ((0 : Nat) : Int) = n by omega]
  | succ j ih =>
    intro hN hz
    rw [← ih (by omega) (fun i i0 i1 => hz i i0 (by omega))]
    have z := hz (n + j) (by omega) (by omega)
    have m0 : 0 ≤ n + (j : Int) := by omega
    have m1 : n + (j : Int) < N := by omega
    rw [show n + ((j + 1 : Nat) : Int) = n + j + 1 by omega]
    clear ih hz hN
    generalize n + (j : Int) = m at *
    unfold fgS
    rw [if_neg (show ¬ (m + 1 = 0) by omega), show m + 1 - 1 = m by omega]
    by_cases c : m = 0
    · subst c
      rw [gstI_0, z, if_pos rfl, if_pos rfl]
    · have br := gstI_rng f (k := m - 1) (by omega)
      have := h0 _ br.1 (by omega)
      have hb : gstI f m = gstI f (m - 1) := by rw [gstI_s f (show 1 ≤ m by omega), if_neg (by omega)]
      rw [if_neg c, hb]
/-- the least wet of n, of several the first -/
def dryS (f : Int → Int) (n : Int) : Int := if n = 0 then -1 else gstI (fun r => -(f r)) (n - 1)
def aftS (D : Int → Int) (X : Nat → Int → Int) (w : Int) : Int := if w = 0 then X 0 70 else if w = 1 then fgS (X 5) (D 2) else if w = 2 then fgS (X 6) (D 1) else dryS (X 1) (D 0)
section C6
variable {h : zHeap} {F0 F : Nat → Nat → Int} {C0 C X : Nat → Int → Int} {a : Nat} {D : Int → Int} {B : Int}
theorem c_firstG {b n : Nat} (hr : rwS h b 0 n) (hb : b < zK0) (hn : n ≤ 8) (n1 : 0 < n) {f : Int → Int} (hf : ∀ i : Int, 0 ≤ i → i < (n : Int) → C b i = f i) (h0 : ∀ i : Int, 0 ≤ i → i < (n : Int) → 0 ≤ f i ∧ f i ≤ 1000) : zc 31 [zR (some b)] (zw h F C) = some (zI (i32 (fgS f n)), zw h F C) := by
  have ga := fun {i : Int} => @zw_aI h F C b n hr hb (by omega) i
  have gn := zw_aN (F := F) (C := C) hr hb
  have st : ∀ k : Int, 0 ≤ k → k < n → ∀ best most : Int, (if k = 0 then best = -1 ∧ most = 0 else most = f (gstI f (k - 1)) ∧ best = if f (gstI f (k - 1)) = 0 then -1 else gstI f (k - 1)) → ∃ best' most', zr 31 6 [yR (some b), yI (i32 best), yI (i32 most), yI (i32 k)] [] (zw h F C) = zr 31 6 [yR (some b), yI (i32 (best')), yI (i32 (most')), yI (i32 (k + 1))] [] (zw h F C) ∧ (most' = f (gstI f k) ∧ best' = if f (gstI f k) = 0 then -1 else gstI f k) := by
    intro k k0 k1 best most I
    have g := hf k k0 k1
    have z := h0 k k0 k1
    rw [e_Course_firstGreatest_6]
    by_cases c : k = 0
    · subst c
      rw [if_pos rfl] at I
      obtain ⟨rfl, rfl⟩ := I
      rw [gstI_0]
      by_cases c2 : f 0 ≤ 0
      · refine ⟨-1, 0, ?_, by omega, by rw [if_pos (by omega)]⟩
        simp (disch := omega) only [if_true, if_false, not_true_eq_false, not_false_eq_true, zoI_s, zoR_s, zoH_s, zoL_s, zbI_s, zbV_s, zbR_s, zbL_s, zif_dec, i32_0, ne_eq, i32_lt, i32_le, i32_eq, i32_add, i32_mul, i32_sub, i32_neg, zrz_0, zrz_1, zif_t, zif_f, zsF_s, zsF_k, zsF_a, zsC_s, zsC_a, zsC_i, zsW_s, zsW_a, Int.add_zero, Int.zero_add, true_and, false_and, and_false, Bool.false_eq_true, decide_true, decide_false, Bool.true_and, Bool.false_and, Bool.true_or, Bool.false_or, sub1, and_true, if_pos, if_neg, gn, ga, g]
      · refine ⟨0, f 0, ?_, rfl, by rw [if_neg (by omega)]⟩
        simp (disch := omega) only [if_true, if_false, not_true_eq_false, not_false_eq_true, zoI_s, zoR_s, zoH_s, zoL_s, zbI_s, zbV_s, zbR_s, zbL_s, zif_dec, i32_0, ne_eq, i32_lt, i32_le, i32_eq, i32_add, i32_mul, i32_sub, i32_neg, zrz_0, zrz_1, zif_t, zif_f, zsF_s, zsF_k, zsF_a, zsC_s, zsC_a, zsC_i, zsW_s, zsW_a, Int.add_zero, Int.zero_add, true_and, false_and, and_false, Bool.false_eq_true, decide_true, decide_false, Bool.true_and, Bool.false_and, Bool.true_or, Bool.false_or, sub1, and_true, if_pos, if_neg, gn, ga, g]
    · rw [if_neg c] at I
      have br := gstI_rng f (k := k - 1) (by omega)
      have zb := h0 _ br.1 (by omega)
      rw [gstI_s f (show 1 ≤ k by omega)]
      by_cases c2 : f k ≤ f (gstI f (k - 1))
      · rw [if_neg (by omega)]
        refine ⟨best, most, ?_, I.1, I.2⟩
        rw [I.1]
        simp (disch := omega) only [if_true, if_false, not_true_eq_false, not_false_eq_true, zoI_s, zoR_s, zoH_s, zoL_s, zbI_s, zbV_s, zbR_s, zbL_s, zif_dec, i32_0, ne_eq, i32_lt, i32_le, i32_eq, i32_add, i32_mul, i32_sub, i32_neg, zrz_0, zrz_1, zif_t, zif_f, zsF_s, zsF_k, zsF_a, zsC_s, zsC_a, zsC_i, zsW_s, zsW_a, Int.add_zero, Int.zero_add, true_and, false_and, and_false, Bool.false_eq_true, decide_true, decide_false, Bool.true_and, Bool.false_and, Bool.true_or, Bool.false_or, sub1, and_true, if_pos, if_neg, gn, ga, g]
      · rw [if_pos (by omega)]
        refine ⟨k, f k, ?_, rfl, by rw [if_neg (by omega)]⟩
        rw [I.1]
        simp (disch := omega) only [if_true, if_false, not_true_eq_false, not_false_eq_true, zoI_s, zoR_s, zoH_s, zoL_s, zbI_s, zbV_s, zbR_s, zbL_s, zif_dec, i32_0, ne_eq, i32_lt, i32_le, i32_eq, i32_add, i32_mul, i32_sub, i32_neg, zrz_0, zrz_1, zif_t, zif_f, zsF_s, zsF_k, zsF_a, zsC_s, zsC_a, zsC_i, zsW_s, zsW_a, Int.add_zero, Int.zero_add, true_and, false_and, and_false, Bool.false_eq_true, decide_true, decide_false, Bool.true_and, Bool.false_and, Bool.true_or, Bool.false_or, sub1, and_true, if_pos, if_neg, gn, ga, g]
  obtain ⟨⟨best, most⟩, e, I⟩ := zinv (fun k (q : Int × Int) => zr 31 6 [yR (some b), yI (i32 (q.1)), yI (i32 (q.2)), yI (i32 k)] [] (zw h F C)) (fun k q => if k = 0 then q.1 = -1 ∧ q.2 = 0 else q.2 = f (gstI f (k - 1)) ∧ q.1 = if f (gstI f (k - 1)) = 0 then -1 else gstI f (k - 1)) 0 n (by omega) (fun k q k0 k1 I => by
    obtain ⟨b', m', e, I'⟩ := st k k0 k1 q.1 q.2 I
    refine ⟨(b', m'), e, ?_⟩
    rw [if_neg (by omega), show k + 1 - 1 = k by omega]
    exact I') (-1, 0) (by rw [if_pos rfl]; exact ⟨rfl, rfl⟩)
  dsimp only at e I
  rw [if_neg (by omega)] at I
  rw [e_Course_firstGreatest, e, e_Course_firstGreatest_6]
  simp (disch := omega) only [if_true, if_false, not_true_eq_false, not_false_eq_true, zoI_s, zoR_s, zoH_s, zoL_s, zbI_s, zbV_s, zbR_s, zbL_s, zif_dec, i32_0, ne_eq, i32_lt, i32_le, i32_eq, i32_add, i32_mul, i32_sub, i32_neg, zrz_0, zrz_1, zif_t, zif_f, zsF_s, zsF_k, zsF_a, zsC_s, zsC_a, zsC_i, zsW_s, zsW_a, Int.add_zero, Int.zero_add, true_and, false_and, and_false, Bool.false_eq_true, decide_true, decide_false, Bool.true_and, Bool.false_and, Bool.true_or, Bool.false_or, sub1, and_true, if_pos, if_neg, gn]
  unfold fgS
  rw [if_neg (by omega), I.2]
theorem c_driest (S : St h) (H : duS h a) (V : duV F0 C0 a D) (O : dOK D) (ha : a ≤ 28) (R : crC F0 C0 D F C X) (K : cOK D X B) : zc 32 [zR (some 50), zR (some a)] (zw h F C) = some (zI (i32 (dryS (X 1) (D 0))), zw h F C) := by
  have b0 := O.1
  have V1 := V.tq R.1 ha
  rw [e_Course_driest]
  obtain ⟨best, e, I⟩ := zinv (fun k (q : Int) => zr 32 4 [yR (some 50), yR (some a), yI (i32 q), yI (i32 k)] [] (zw h F C)) (fun k q => if k = 0 then q = -1 else q = gstI (fun r => -(X 1 r)) (k - 1)) 0 (D 0) b0.1 (fun k q k0 k1 I => by
    have g := (R.2.2.1 k k0 k1).1
    have z := (K.2.2.2.2.2.2.2.2.2.2.1 k k0 k1).1
    rw [e_Course_driest_4]
    by_cases c : k = 0
    · subst c
      rw [if_pos rfl] at I
      subst I
      refine ⟨0, ?_, by rw [if_neg (by omega)]; rfl⟩
      simp (disch := omega) only [if_true, if_false, not_true_eq_false, not_false_eq_true, zoI_s, zoR_s, zoH_s, zoL_s, zbI_s, zbV_s, zbR_s, zbL_s, zif_dec, i32_0, ne_eq, i32_lt, i32_le, i32_eq, i32_add, i32_mul, i32_sub, i32_neg, zrz_0, zrz_1, zif_t, zif_f, zsF_s, zsF_k, zsF_a, zsC_s, zsC_a, zsC_i, zsW_s, zsW_a, Int.add_zero, Int.zero_add, true_and, false_and, and_false, Bool.false_eq_true, decide_true, decide_false, Bool.true_and, Bool.false_and, Bool.true_or, Bool.false_or, sub1, and_true, if_pos, if_neg, dv H, dg_128 H, dp_128 H, dg_129 H, dp_129 H, dg_130 H, dp_130 H, dg_131 H, dp_131 H, dr_132 H, da_132 H, dr_133 H, da_133 H, dr_134 H, da_134 H, dr_135 H, da_135 H, dr_136 H, da_136 H, dr_137 H, da_137 H, V1.1.1]
    · rw [if_neg c] at I
      have br := gstI_rng (fun r => -(X 1 r)) (k := k - 1) (by omega)
      have ks := gstI_s (fun r => -(X 1 r)) (show 1 ≤ k by omega)
      have I2 : gstI (fun r => -(X 1 r)) (k - 1) = q := I.symm
      rw [I2] at ks br
      have g2 := (R.2.2.1 q br.1 (by omega)).1
      have z2 := (K.2.2.2.2.2.2.2.2.2.2.1 q br.1 (by omega)).1
      by_cases c2 : X 1 q ≤ X 1 k
      · refine ⟨q, ?_, by rw [if_neg (by omega), show k + 1 - 1 = k by omega, ks, if_neg (by omega)]⟩
        simp (disch := omega) only [if_true, if_false, not_true_eq_false, not_false_eq_true, zoI_s, zoR_s, zoH_s, zoL_s, zbI_s, zbV_s, zbR_s, zbL_s, zif_dec, i32_0, ne_eq, i32_lt, i32_le, i32_eq, i32_add, i32_mul, i32_sub, i32_neg, zrz_0, zrz_1, zif_t, zif_f, zsF_s, zsF_k, zsF_a, zsC_s, zsC_a, zsC_i, zsW_s, zsW_a, Int.add_zero, Int.zero_add, true_and, false_and, and_false, Bool.false_eq_true, decide_true, decide_false, Bool.true_and, Bool.false_and, Bool.true_or, Bool.false_or, sub1, and_true, if_pos, if_neg, dv H, dg_128 H, dp_128 H, dg_129 H, dp_129 H, dg_130 H, dp_130 H, dg_131 H, dp_131 H, dr_132 H, da_132 H, dr_133 H, da_133 H, dr_134 H, da_134 H, dr_135 H, da_135 H, dr_136 H, da_136 H, dr_137 H, da_137 H, V1.1.1, wv_50 S, wr_66 S, wr_67 S, wr_68 S, wr_69 S, wr_70 S, wr_71 S, wg_64 S, wp_64 S, wg_65 S, wp_65 S, wg_72 S, wp_72 S, wg_73 S, wp_73 S, wg_74 S, wp_74 S, wg_75 S, wp_75 S, wg_76 S, wp_76 S, wg_77 S, wp_77 S, wg_78 S, wp_78 S, wg_79 S, wp_79 S, wg_80 S, wp_80 S, wa_51 S, ws_51 S, g, g2]
      · refine ⟨k, ?_, by rw [if_neg (by omega), show k + 1 - 1 = k by omega, ks, if_pos (by omega)]⟩
        simp (disch := omega) only [if_true, if_false, not_true_eq_false, not_false_eq_true, zoI_s, zoR_s, zoH_s, zoL_s, zbI_s, zbV_s, zbR_s, zbL_s, zif_dec, i32_0, ne_eq, i32_lt, i32_le, i32_eq, i32_add, i32_mul, i32_sub, i32_neg, zrz_0, zrz_1, zif_t, zif_f, zsF_s, zsF_k, zsF_a, zsC_s, zsC_a, zsC_i, zsW_s, zsW_a, Int.add_zero, Int.zero_add, true_and, false_and, and_false, Bool.false_eq_true, decide_true, decide_false, Bool.true_and, Bool.false_and, Bool.true_or, Bool.false_or, sub1, and_true, if_pos, if_neg, dv H, dg_128 H, dp_128 H, dg_129 H, dp_129 H, dg_130 H, dp_130 H, dg_131 H, dp_131 H, dr_132 H, da_132 H, dr_133 H, da_133 H, dr_134 H, da_134 H, dr_135 H, da_135 H, dr_136 H, da_136 H, dr_137 H, da_137 H, V1.1.1, wv_50 S, wr_66 S, wr_67 S, wr_68 S, wr_69 S, wr_70 S, wr_71 S, wg_64 S, wp_64 S, wg_65 S, wp_65 S, wg_72 S, wp_72 S, wg_73 S, wp_73 S, wg_74 S, wp_74 S, wg_75 S, wp_75 S, wg_76 S, wp_76 S, wg_77 S, wp_77 S, wg_78 S, wp_78 S, wg_79 S, wp_79 S, wg_80 S, wp_80 S, wa_51 S, ws_51 S, g, g2]) (-1) (by rw [if_pos rfl])
  rw [e, e_Course_driest_4]
  simp (disch := omega) only [if_true, if_false, not_true_eq_false, not_false_eq_true, zoI_s, zoR_s, zoH_s, zoL_s, zbI_s, zbV_s, zbR_s, zbL_s, zif_dec, i32_0, ne_eq, i32_lt, i32_le, i32_eq, i32_add, i32_mul, i32_sub, i32_neg, zrz_0, zrz_1, zif_t, zif_f, zsF_s, zsF_k, zsF_a, zsC_s, zsC_a, zsC_i, zsW_s, zsW_a, Int.add_zero, Int.zero_add, true_and, false_and, and_false, Bool.false_eq_true, decide_true, decide_false, Bool.true_and, Bool.false_and, Bool.true_or, Bool.false_or, sub1, and_true, if_pos, if_neg, dv H, dg_128 H, dp_128 H, dg_129 H, dp_129 H, dg_130 H, dp_130 H, dg_131 H, dp_131 H, dr_132 H, da_132 H, dr_133 H, da_133 H, dr_134 H, da_134 H, dr_135 H, da_135 H, dr_136 H, da_136 H, dr_137 H, da_137 H, V1.1.1]
  unfold dryS
  by_cases c : D 0 = 0
  · rw [if_pos c] at I
    rw [if_pos c, I]
  · rw [if_neg c] at I
    rw [if_neg c, I]
end C6
theorem orI_ne {s r : Int} (h0 : 0 ≤ s) (r0 : 0 ≤ r) : orI s r ≠ 0 := by
  unfold orI
  have p : (0 : Int) < 2 ^ r.toNat := Int.pow_pos (by omega)
  split
  · rename_i c
    intro z
    rw [z, bitI_0] at c
    omega
  · omega
/-- who lied first, and whether any is cracked -/
def liaP (X : Nat → Int → Int) : Prop := (X 0 70 = -1 ∧ X 0 1 = 0) ∨ (X 0 70 ≠ -1 ∧ X 0 1 ≠ 0)
theorem doX_lia {D Y : Int → Int} {X : Nat → Int → Int} {B k : Int} (O : dOK D) (K : cOK D X B) (L : liaP X) (hd : doP D Y X k) : liaP (doX D Y X k) ∧ doX D Y X k 0 70 = if X 0 70 = -1 ∧ doX D Y X k 0 1 ≠ 0 then X 0 71 else X 0 70 := by
  have same : ∀ X' : Nat → Int → Int, X' 0 70 = X 0 70 → X' 0 1 = X 0 1 → liaP X' ∧ X' 0 70 = if X 0 70 = -1 ∧ X' 0 1 ≠ 0 then X 0 71 else X 0 70 := by
    intro X' h1 h2
    unfold liaP at *
    rw [h1, h2]
    refine ⟨L, ?_⟩
    rw [if_neg (by omega)]
  have k9 := K.2.2.2.2.2.2.2.2.2.1
  have k1 := K.2.1
  unfold doX
  split
  · rename_i c
    have g := hd.1 c
    generalize Y (2 + 6 * k) = r at *
    generalize Y (3 + 6 * k) = p at *
    generalize Y (4 + 6 * k) = q at *
    have h2 : ∀ m, ask2 X r p q m 0 70 = X 0 70 ∧ ask2 X r p q m 0 1 = X 0 1 ∧ ask2 X r p q m 0 71 = X 0 71 := by
      intro m
      unfold ask2
      split
      · exact ⟨rfl, rfl, rfl⟩
      · split
        · exact ⟨rfl, rfl, rfl⟩
        · exact ⟨rfl, rfl, rfl⟩
    unfold askX ask3
    obtain ⟨a1, a2, a3⟩ := h2 (blwN D X r p q)
    split
    · split
      · have on := orI_ne (s := X 0 1) (r := r) k1.1 g.1.1.1
        have z1 : (zsC (crkX (ask2 X r p q (blwN D X r p q)) r) 4 q (meanS D (blwN D X r p q))) 0 1 = orI (X 0 1) r := by
          show orI (ask2 X r p q (blwN D X r p q) 0 1) r = _
          rw [a2]
        have z2 : (zsC (crkX (ask2 X r p q (blwN D X r p q)) r) 4 q (meanS D (blwN D X r p q))) 0 70 = if X 0 1 = 0 then X 0 71 else X 0 70 := by
          show crkX (ask2 X r p q (blwN D X r p q)) r 0 70 = _
          unfold crkX
          rw [a2]
          split
          · show ask2 X r p q (blwN D X r p q) 0 71 = _
            rw [a3]
          · show ask2 X r p q (blwN D X r p q) 0 70 = _
            rw [a1]
        unfold liaP at *
        rw [z1, z2]
        rcases L with ⟨l1, l2⟩ | ⟨l1, l2⟩
        · rw [if_pos l2, if_pos ⟨l1, on⟩]
          exact ⟨Or.inr ⟨by omega, on⟩, rfl⟩
        · rw [if_neg l2, if_neg (fun z => l1 z.1)]
          exact ⟨Or.inr ⟨l1, on⟩, rfl⟩
      · exact same _ a1 a2
    · exact same _ a1 a2
  · split
    · refine same _ ?_ ?_
      · unfold dueX
        split
        · rfl
        · split <;> rfl
      · unfold dueX
        split
        · rfl
        · split <;> rfl
    · split
      · exact same _ rfl rfl
      · split
        · exact same _ rfl rfl
        · split
          · exact same _ rfl rfl
          · exact same _ rfl rfl
theorem askX_5 (D : Int → Int) (X : Nat → Int → Int) (r p q j : Int) : askX D X r p q 5 j = (if j = q then X 5 q + 1 else X 5 j) ∧ askX D X r p q 6 j = (if j = p then X 6 p + 1 else X 6 j) := by
  have h1 : ∀ m, ask1 X r p q m 5 j = (if j = q then X 5 q + 1 else X 5 j) ∧ ask1 X r p q m 6 j = (if j = p then X 6 p + 1 else X 6 j) := by
    intro m
    refine ⟨?_, ?_⟩
    · show (if (5 : Nat) = 5 ∧ j = q then X 5 q + 1 else X 5 j) = _
      simp only [true_and]
    · show (if (6 : Nat) = 6 ∧ j = p then X 6 p + 1 else X 6 j) = _
      simp only [true_and]
  have h2 : ∀ m, ask2 X r p q m 5 j = (if j = q then X 5 q + 1 else X 5 j) ∧ ask2 X r p q m 6 j = (if j = p then X 6 p + 1 else X 6 j) := by
    intro m
    unfold ask2
    split
    · exact h1 m
    · split
      · exact h1 m
      · exact h1 m
  unfold askX ask3
  split
  · split
    · show crkX (ask2 X r p q (blwN D X r p q)) r 5 j = _ ∧ crkX (ask2 X r p q (blwN D X r p q)) r 6 j = _
      unfold crkX
      split
      · exact h2 _
      · exact h2 _
    · exact h2 _
  · exact h2 _
theorem dueX_5 (D : Int → Int) (X : Nat → Int → Int) {a b p s q : Int} (j : Int) (hps : p ≠ s) : dueX D X a b p s q 5 j = (if j = q then X 5 q + 1 else X 5 j) ∧ dueX D X a b p s q 6 j = (if j = s then X 6 s + 1 else if j = p then X 6 p + 1 else X 6 j) := by
  have h1 : due1 X a b p s q 5 j = (if j = q then X 5 q + 1 else X 5 j) ∧ due1 X a b p s q 6 j = (if j = s then X 6 s + 1 else if j = p then X 6 p + 1 else X 6 j) := by
    refine ⟨?_, ?_⟩
    · show (if (5 : Nat) = 5 ∧ j = q then X 5 q + 1 else X 5 j) = _
      simp only [true_and]
    · show (if (6 : Nat) = 6 ∧ j = s then (if (6 : Nat) = 6 ∧ s = p then X 6 p + 1 else X 6 s) + 1 else if (6 : Nat) = 6 ∧ j = p then X 6 p + 1 else X 6 j) = _
      simp only [true_and]
      rw [if_neg (show ¬ (s = p) from fun z => hps z.symm)]
  unfold dueX
  split
  · exact h1
  · split
    · exact h1
    · exact h1
theorem d10 : decide (i32 1 = 0) = false := by decide
theorem d1ne : decide (i32 1 ≠ 0) = true := by decide
theorem d11 : decide (i32 1 ≠ i32 1) = false := by decide
section M6
variable {h : zHeap} {F : Nat → Nat → Int} {C X : Nat → Int → Int} {D Y : Int → Int} {B : Int}
theorem m_mostOf {b m : Nat} (hr : rwS h b 0 m) (hb : b < zK0) (hm : m ≤ 8) {n : Int} (n0 : 0 ≤ n) (n1 : n ≤ m) {f : Int → Int} (hf : ∀ i, 0 ≤ i → i < n → C b i = f i) (h0 : ∀ i, 0 ≤ i → i < n → 0 ≤ f i ∧ f i ≤ 1000) : zc 300 [zR (some b), zI (i32 n)] (zw h F C) = some (zI (i32 (fgS f n)), zw h F C) := by
  have ga := fun {i : Int} => @zw_aI h F C b m hr hb (by omega) i
  rw [e_Model_mostOf]
  unfold fgS
  by_cases c : n = 0
  · subst c
    rw [e_Model_mostOf_4]
    simp (disch := omega) only [if_true, if_false, not_true_eq_false, not_false_eq_true, zoI_s, zoR_s, zoH_s, zoL_s, zbI_s, zbV_s, zbR_s, zbL_s, zif_dec, i32_0, ne_eq, i32_lt, i32_le, i32_eq, i32_add, i32_mul, i32_sub, i32_neg, zrz_0, zrz_1, zif_t, zif_f, zsF_s, zsF_k, zsF_a, zsC_s, zsC_a, zsC_i, zsW_s, zsW_a, Int.add_zero, Int.zero_add, true_and, false_and, and_false, Bool.false_eq_true, decide_true, decide_false, Bool.true_and, Bool.false_and, Bool.true_or, Bool.false_or, sub1, and_true, if_pos, if_neg]
  · obtain ⟨best, e, I⟩ := zinv (fun k (q : Int) => zr 300 4 [yR (some b), yI (i32 n), yI (i32 q), yI (i32 k)] [] (zw h F C)) (fun k q => q = gstI f (k - 1)) 1 n (by omega) (fun k q k0 k1 I => by
      have br := gstI_rng f (k := k - 1) (by omega)
      have g := hf k (by omega) k1
      have z := h0 k (by omega) k1
      rw [show k + 1 - 1 = k by omega, gstI_s f k0]
      generalize gstI f (k - 1) = mm at *
      subst I
      have g2 := hf q br.1 (by omega)
      have z2 := h0 q br.1 (by omega)
      rw [e_Model_mostOf_4]
      by_cases c2 : f k ≤ f q
      · refine ⟨q, ?_, by rw [if_neg (by omega)]⟩
        simp (disch := omega) only [if_true, if_false, not_true_eq_false, not_false_eq_true, zoI_s, zoR_s, zoH_s, zoL_s, zbI_s, zbV_s, zbR_s, zbL_s, zif_dec, i32_0, ne_eq, i32_lt, i32_le, i32_eq, i32_add, i32_mul, i32_sub, i32_neg, zrz_0, zrz_1, zif_t, zif_f, zsF_s, zsF_k, zsF_a, zsC_s, zsC_a, zsC_i, zsW_s, zsW_a, Int.add_zero, Int.zero_add, true_and, false_and, and_false, Bool.false_eq_true, decide_true, decide_false, Bool.true_and, Bool.false_and, Bool.true_or, Bool.false_or, sub1, and_true, if_pos, if_neg, ga, g, g2]
      · refine ⟨k, ?_, by rw [if_pos (by omega)]⟩
        simp (disch := omega) only [if_true, if_false, not_true_eq_false, not_false_eq_true, zoI_s, zoR_s, zoH_s, zoL_s, zbI_s, zbV_s, zbR_s, zbL_s, zif_dec, i32_0, ne_eq, i32_lt, i32_le, i32_eq, i32_add, i32_mul, i32_sub, i32_neg, zrz_0, zrz_1, zif_t, zif_f, zsF_s, zsF_k, zsF_a, zsC_s, zsC_a, zsC_i, zsW_s, zsW_a, Int.add_zero, Int.zero_add, true_and, false_and, and_false, Bool.false_eq_true, decide_true, decide_false, Bool.true_and, Bool.false_and, Bool.true_or, Bool.false_or, sub1, and_true, if_pos, if_neg, ga, g, g2]) 0 rfl
    have br := gstI_rng f (k := n - 1) (by omega)
    rw [e, e_Model_mostOf_4, I]
    have g2 := hf _ br.1 (by omega)
    have z2 := h0 _ br.1 (by omega)
    by_cases c2 : f (gstI f (n - 1)) = 0
    · simp (disch := omega) only [if_true, if_false, not_true_eq_false, not_false_eq_true, zoI_s, zoR_s, zoH_s, zoL_s, zbI_s, zbV_s, zbR_s, zbL_s, zif_dec, i32_0, ne_eq, i32_lt, i32_le, i32_eq, i32_add, i32_mul, i32_sub, i32_neg, zrz_0, zrz_1, zif_t, zif_f, zsF_s, zsF_k, zsF_a, zsC_s, zsC_a, zsC_i, zsW_s, zsW_a, Int.add_zero, Int.zero_add, true_and, false_and, and_false, Bool.false_eq_true, decide_true, decide_false, Bool.true_and, Bool.false_and, Bool.true_or, Bool.false_or, sub1, and_true, if_pos, if_neg, ga, g2, c2]
    · simp (disch := omega) only [if_true, if_false, not_true_eq_false, not_false_eq_true, zoI_s, zoR_s, zoH_s, zoL_s, zbI_s, zbV_s, zbR_s, zbL_s, zif_dec, i32_0, ne_eq, i32_lt, i32_le, i32_eq, i32_add, i32_mul, i32_sub, i32_neg, zrz_0, zrz_1, zif_t, zif_f, zsF_s, zsF_k, zsF_a, zsC_s, zsC_a, zsC_i, zsW_s, zsW_a, Int.add_zero, Int.zero_add, true_and, false_and, and_false, Bool.false_eq_true, decide_true, decide_false, Bool.true_and, Bool.false_and, Bool.true_or, Bool.false_or, sub1, and_true, if_pos, if_neg, ga, g2]
theorem mrC.ofR (R : mrR D F C X) : mrC F C D F C X := ⟨⟨tq.rfl, fun _ _ => rfl, rfl, rfl⟩, R⟩
theorem m_afterL (S : St h) (O : dOK D) (Oy : yOK Y) {d y w : Int} : ∀ (j : Nat) (X : Nat → Int → Int) (F : Nat → Nat → Int) (C : Nat → Int → Int) (w6 : Option zVal), moV F C D → moY F C Y → mrR D F C X → cOK D X (X 0 71) → X 0 82 = 1 → liaP X → (∀ q, 0 ≤ q → q < 8 → C 86 q = X 5 q) → (∀ p, 0 ≤ p → p < 4 → C 87 p = X 6 p) → Y 0 ≤ X 0 71 + j → X 0 71 ≤ Y 0 → ∃ F' C', zr 301 38 [yR (some 72), yI (i32 d), yI (i32 y), yI (i32 w), yI (i32 (X 0 70)), yI (i32 (X 0 71)), w6] [] (zw h F C) = zr 301 154 [yR (some 72), yI (i32 d), yI (i32 y), yI (i32 w), yI (i32 (runX D Y (Y 0) j X 0 70)), yI (i32 (if D 0 = 0 then -1 else 0)), yI (i32 1)] [] (zw h F' C') ∧ tq F C F' C' ∧ moV F' C' D ∧ mrR D F' C' (runX D Y (Y 0) j X) ∧ cOK D (runX D Y (Y 0) j X) (runX D Y (Y 0) j X 0 71) ∧ (∀ q, 0 ≤ q → q < 8 → C' 86 q = runX D Y (Y 0) j X 5 q) ∧ (∀ p, 0 ≤ p → p < 4 → C' 87 p = runX D Y (Y 0) j X 6 p) := by
  have b := Oy.1
  have b0 := O.1
  have b1 := O.2.1
  have b2 := O.2.2.1
  have stop : ∀ (X : Nat → Int → Int) (F : Nat → Nat → Int) (C : Nat → Int → Int) (w6 : Option zVal), moV F C D → moY F C Y → mrR D F C X → cOK D X (X 0 71) → X 0 71 < 2147483648 → (Y 0 ≤ X 0 71 ∨ (X 0 71 < Y 0 ∧ ¬ doP D Y X (X 0 71))) → zr 301 38 [yR (some 72), yI (i32 d), yI (i32 y), yI (i32 w), yI (i32 (X 0 70)), yI (i32 (X 0 71)), w6] [] (zw h F C) = zr 301 154 [yR (some 72), yI (i32 d), yI (i32 y), yI (i32 w), yI (i32 (X 0 70)), yI (i32 (if D 0 = 0 then -1 else 0)), yI (i32 1)] [] (zw h F C) := by
    intro X F C w6 M N R K hx71 c
    have k9 := K.2.2.2.2.2.2.2.2.2.1
    have nn := N.1
    have mm : F 779 72 = D 0 := M.2.1.1
    have g : C 73 (F 792 72) = Y 0 := N.at (by omega) (by omega) (by omega)
    have a0 : zaI (zw h F C) (some 73) (i32 (F 792 72)) 0 = some (i32 (Y 0)) := by rw [wa_73 S (by omega) (by omega), g]
    rw [e_Model_after_38]
    by_cases c1 : Y 0 ≤ X 0 71
    · have dY : decide (i32 (Y 0) ≤ i32 (X 0 71)) = true := dT (by rw [i32_le (by omega) (by omega) (by omega) hx71]; exact c1)
      by_cases cd : D 0 = 0
      · rw [if_pos cd]
        simp only [zoI_s, zoR_s, zoH_s, zoL_s, zbI_s, zbV_s, zbR_s, zbL_s, zif_t, zif_f, zrz_0, zrz_1, wr_768 S, wg_792 S, a0, dY, wg_779 S, mm, cd, d0ne]
      · have dD : decide (i32 (D 0) ≠ 0) = true := dT (by rw [i32_0, ne_eq, i32_eq (by omega) (by omega) (by omega) (by omega)]; exact cd)
        rw [if_neg cd]
        simp only [zoI_s, zoR_s, zoH_s, zoL_s, zbI_s, zbV_s, zbR_s, zbL_s, zif_t, zif_f, zrz_0, zrz_1, wr_768 S, wg_792 S, a0, dY, wg_779 S, mm, dD]
    · have dY : decide (i32 (Y 0) ≤ i32 (X 0 71)) = false := dF (by rw [i32_le (by omega) (by omega) (by omega) (by omega)]; exact c1)
      have e := m_doesTold0 S M O N Oy (mrC.ofR R) K k9.1 (by omega) ((c.resolve_left c1).2)
      by_cases cd : D 0 = 0
      · rw [if_pos cd]
        simp only [zoI_s, zoR_s, zoH_s, zoL_s, zbI_s, zbV_s, zbR_s, zbL_s, zif_t, zif_f, zrz_0, zrz_1, wr_768 S, wg_792 S, a0, dY, wv_72 S, e, d0eq, wg_779 S, mm, cd, d0ne]
      · have dD : decide (i32 (D 0) ≠ 0) = true := dT (by rw [i32_0, ne_eq, i32_eq (by omega) (by omega) (by omega) (by omega)]; exact cd)
        rw [if_neg cd]
        simp only [zoI_s, zoR_s, zoH_s, zoL_s, zbI_s, zbV_s, zbR_s, zbL_s, zif_t, zif_f, zrz_0, zrz_1, wr_768 S, wg_792 S, a0, dY, wv_72 S, e, d0eq, wg_779 S, mm, dD]
  intro j
  induction j with
  | zero =>
    intro X F C w6 M N R K hf L r5 r6 hj hk
    exact ⟨F, C, stop X F C w6 M N R K (by omega) (Or.inl (by omega)), tq.rfl, M, R, K, r5, r6⟩
  | succ j ih =>
    intro X F C w6 M N R K hf L r5 r6 hj hk
    have k9 := K.2.2.2.2.2.2.2.2.2.1
    by_cases c2 : Y 0 ≤ X 0 71
    · rw [runX_f (fun z => by omega)]
      exact ⟨F, C, stop X F C w6 M N R K (by omega) (Or.inl c2), tq.rfl, M, R, K, r5, r6⟩
    · by_cases c3 : doP D Y X (X 0 71)
      · rw [runX_t ⟨by omega, by omega, c3⟩]
        obtain ⟨F1, C1, e1, R1⟩ := m_doesTold S M O N Oy (mrC.ofR R) K k9.1 (by omega) (by omega) c3
        have lx := doX_lia O K L c3
        have K1 := K.doK O Oy k9.1 (by omega) c3
        have yr := Oy.2 (X 0 71) k9.1 (by omega)
        have M1 := R1.mo M
        have N1 := R1.my N
        have nn := N.1
        have nn1 := N1.1
        have e82 := doX_82 D Y X (X 0 71)
        have fin : ∀ (C2 : Nat → Int → Int) (w7 : Option zVal), tq F C F1 C2 → C2 82 = C1 82 → C2 83 = C1 83 → C2 84 = C1 84 → C2 85 = C1 85 → (∀ q, 0 ≤ q → q < 8 → C2 86 q = doX D Y X (X 0 71) 5 q) → (∀ p, 0 ≤ p → p < 4 → C2 87 p = doX D Y X (X 0 71) 6 p) → ∃ F' C', zr 301 38 [yR (some 72), yI (i32 d), yI (i32 y), yI (i32 w), yI (i32 (doX D Y X (X 0 71) 0 70)), yI (i32 (X 0 71 + 1)), w7] [] (zw h F1 C2) = zr 301 154 [yR (some 72), yI (i32 d), yI (i32 y), yI (i32 w), yI (i32 (runX D Y (Y 0) j (zsC (doX D Y X (X 0 71)) 0 71 (X 0 71 + 1)) 0 70)), yI (i32 (if D 0 = 0 then -1 else 0)), yI (i32 1)] [] (zw h F' C') ∧ tq F C F' C' ∧ moV F' C' D ∧ mrR D F' C' (runX D Y (Y 0) j (zsC (doX D Y X (X 0 71)) 0 71 (X 0 71 + 1))) ∧ cOK D (runX D Y (Y 0) j (zsC (doX D Y X (X 0 71)) 0 71 (X 0 71 + 1))) (runX D Y (Y 0) j (zsC (doX D Y X (X 0 71)) 0 71 (X 0 71 + 1)) 0 71) ∧ (∀ q, 0 ≤ q → q < 8 → C' 86 q = runX D Y (Y 0) j (zsC (doX D Y X (X 0 71)) 0 71 (X 0 71 + 1)) 5 q) ∧ (∀ p, 0 ≤ p → p < 4 → C' 87 p = runX D Y (Y 0) j (zsC (doX D Y X (X 0 71)) 0 71 (X 0 71 + 1)) 6 p) := by
          intro C2 w7 t2 h82 h83 h84 h85 h86 h87
          have c73 : C2 73 = C1 73 := (t2.row (by omega)).trans (R1.1.1.row (by omega)).symm
          have R2 : mrR D F1 C2 (zsC (doX D Y X (X 0 71)) 0 71 (X 0 71 + 1)) := by
            obtain ⟨_, ⟨i0, i1, i2, i3, i4, i5, i6, i7, i8, i9⟩, q1, q2, q3⟩ := R1
            refine ⟨⟨i0, i1, i2, i3, i4, i5, i6, i7, fun z => ?_, i9⟩, ?_, ?_, ?_⟩
            · exact absurd (show doX D Y X (X 0 71) 0 82 = 0 from z) (by omega)
            · rw [h82, h83]; exact q1
            · rw [h84]; exact q2
            · rw [h85]; exact q3
          have M2 : moV F1 C2 D := M1.cg c73 rfl rfl rfl rfl
          have N2 : moY F1 C2 Y := by unfold moY; rw [c73]; exact N1
          obtain ⟨F', C', e, t', M', R', K', r5', r6'⟩ := ih (zsC (doX D Y X (X 0 71)) 0 71 (X 0 71 + 1)) F1 C2 w7 M2 N2 R2 (K1.i71 (by omega)) (show doX D Y X (X 0 71) 0 82 = 1 by omega) lx.1 h86 h87 (show Y 0 ≤ X 0 71 + 1 + (j : Int) by omega) (show X 0 71 + 1 ≤ Y 0 by omega)
          exact ⟨F', C', e, t2.trans t', M', R', K', r5', r6'⟩
        have i1 : F1 794 72 = doX D Y X (X 0 71) 0 1 := R1.2.1.2.1
        have kx1 := K1.2.1
        have L135 : ∀ (C2 : Nat → Int → Int) (i : Int), zr 301 135 [yR (some 72), yI (i32 d), yI (i32 y), yI (i32 w), yI (i32 (X 0 70)), yI (i32 (X 0 71)), yI (i32 i)] [] (zw h F1 C2) = zr 301 38 [yR (some 72), yI (i32 d), yI (i32 y), yI (i32 w), yI (i32 (doX D Y X (X 0 71) 0 70)), yI (i32 (X 0 71 + 1)), yI (i32 i)] [] (zw h F1 C2) := by
          intro C2 i
          have k8 := K.2.2.2.2.2.2.2.2.1
          rw [e_Model_after_135, lx.2]
          by_cases l1 : X 0 70 = -1
          · by_cases l2 : doX D Y X (X 0 71) 0 1 = 0
            · simp (disch := omega) only [if_true, if_false, not_true_eq_false, not_false_eq_true, zoI_s, zoR_s, zoH_s, zoL_s, zbI_s, zbV_s, zbR_s, zbL_s, zif_dec, i32_0, ne_eq, i32_lt, i32_le, i32_eq, i32_add, i32_mul, i32_sub, i32_neg, zrz_0, zrz_1, zif_t, zif_f, zsF_s, zsF_k, zsF_a, zsC_s, zsC_a, zsC_i, zsW_s, zsW_a, Int.add_zero, Int.zero_add, true_and, false_and, and_false, Bool.false_eq_true, decide_true, decide_false, Bool.true_and, Bool.false_and, Bool.true_or, Bool.false_or, sub1, and_true, if_pos, if_neg, wv_72 S, wr_768 S, wr_769 S, wr_777 S, wr_785 S, wr_786 S, wr_787 S, wr_789 S, wr_790 S, wr_791 S, wr_802 S, wr_803 S, wr_804 S, wr_805 S, wr_806 S, wr_807 S, wr_809 S, wg_770 S, wp_770 S, wg_771 S, wp_771 S, wg_772 S, wp_772 S, wg_773 S, wp_773 S, wg_774 S, wp_774 S, wg_775 S, wp_775 S, wg_776 S, wp_776 S, wg_778 S, wp_778 S, wg_779 S, wp_779 S, wg_780 S, wp_780 S, wg_781 S, wp_781 S, wg_782 S, wp_782 S, wg_783 S, wp_783 S, wg_784 S, wp_784 S, wg_788 S, wp_788 S, wg_792 S, wp_792 S, wg_793 S, wp_793 S, wg_794 S, wp_794 S, wg_795 S, wp_795 S, wg_796 S, wp_796 S, wg_797 S, wp_797 S, wg_798 S, wp_798 S, wg_799 S, wp_799 S, wg_800 S, wp_800 S, wg_801 S, wp_801 S, wg_808 S, wp_808 S, wg_810 S, wp_810 S, i1]
            · simp (disch := omega) only [if_true, if_false, not_true_eq_false, not_false_eq_true, zoI_s, zoR_s, zoH_s, zoL_s, zbI_s, zbV_s, zbR_s, zbL_s, zif_dec, i32_0, ne_eq, i32_lt, i32_le, i32_eq, i32_add, i32_mul, i32_sub, i32_neg, zrz_0, zrz_1, zif_t, zif_f, zsF_s, zsF_k, zsF_a, zsC_s, zsC_a, zsC_i, zsW_s, zsW_a, Int.add_zero, Int.zero_add, true_and, false_and, and_false, Bool.false_eq_true, decide_true, decide_false, Bool.true_and, Bool.false_and, Bool.true_or, Bool.false_or, sub1, and_true, if_pos, if_neg, wv_72 S, wr_768 S, wr_769 S, wr_777 S, wr_785 S, wr_786 S, wr_787 S, wr_789 S, wr_790 S, wr_791 S, wr_802 S, wr_803 S, wr_804 S, wr_805 S, wr_806 S, wr_807 S, wr_809 S, wg_770 S, wp_770 S, wg_771 S, wp_771 S, wg_772 S, wp_772 S, wg_773 S, wp_773 S, wg_774 S, wp_774 S, wg_775 S, wp_775 S, wg_776 S, wp_776 S, wg_778 S, wp_778 S, wg_779 S, wp_779 S, wg_780 S, wp_780 S, wg_781 S, wp_781 S, wg_782 S, wp_782 S, wg_783 S, wp_783 S, wg_784 S, wp_784 S, wg_788 S, wp_788 S, wg_792 S, wp_792 S, wg_793 S, wp_793 S, wg_794 S, wp_794 S, wg_795 S, wp_795 S, wg_796 S, wp_796 S, wg_797 S, wp_797 S, wg_798 S, wp_798 S, wg_799 S, wp_799 S, wg_800 S, wp_800 S, wg_801 S, wp_801 S, wg_808 S, wp_808 S, wg_810 S, wp_810 S, i1]
          · simp (disch := omega) only [if_true, if_false, not_true_eq_false, not_false_eq_true, zoI_s, zoR_s, zoH_s, zoL_s, zbI_s, zbV_s, zbR_s, zbL_s, zif_dec, i32_0, ne_eq, i32_lt, i32_le, i32_eq, i32_add, i32_mul, i32_sub, i32_neg, zrz_0, zrz_1, zif_t, zif_f, zsF_s, zsF_k, zsF_a, zsC_s, zsC_a, zsC_i, zsW_s, zsW_a, Int.add_zero, Int.zero_add, true_and, false_and, and_false, Bool.false_eq_true, decide_true, decide_false, Bool.true_and, Bool.false_and, Bool.true_or, Bool.false_or, sub1, and_true, if_pos, if_neg, wv_72 S, wr_768 S, wr_769 S, wr_777 S, wr_785 S, wr_786 S, wr_787 S, wr_789 S, wr_790 S, wr_791 S, wr_802 S, wr_803 S, wr_804 S, wr_805 S, wr_806 S, wr_807 S, wr_809 S, wg_770 S, wp_770 S, wg_771 S, wp_771 S, wg_772 S, wp_772 S, wg_773 S, wp_773 S, wg_774 S, wp_774 S, wg_775 S, wp_775 S, wg_776 S, wp_776 S, wg_778 S, wp_778 S, wg_779 S, wp_779 S, wg_780 S, wp_780 S, wg_781 S, wp_781 S, wg_782 S, wp_782 S, wg_783 S, wp_783 S, wg_784 S, wp_784 S, wg_788 S, wp_788 S, wg_792 S, wp_792 S, wg_793 S, wp_793 S, wg_794 S, wp_794 S, wg_795 S, wp_795 S, wg_796 S, wp_796 S, wg_797 S, wp_797 S, wg_798 S, wp_798 S, wg_799 S, wp_799 S, wg_800 S, wp_800 S, wg_801 S, wp_801 S, wg_808 S, wp_808 S, wg_810 S, wp_810 S, i1]
        have g : C 73 (F 792 72) = Y 0 := N.at (by omega) (by omega) (by omega)
        have g0 : C1 73 (F1 792 72 + 1 + 6 * X 0 71) = Y (1 + 6 * X 0 71) := N1.at (by omega) (by omega) (by omega)
        have g2 : C1 73 (F1 792 72 + 1 + 6 * X 0 71 + 2) = Y (3 + 6 * X 0 71) := N1.at (by omega) (by omega) (by omega)
        have g3 : C1 73 (F1 792 72 + 1 + 6 * X 0 71 + 3) = Y (4 + 6 * X 0 71) := N1.at (by omega) (by omega) (by omega)
        have g4 : C1 73 (F1 792 72 + 1 + 6 * X 0 71 + 4) = Y (5 + 6 * X 0 71) := N1.at (by omega) (by omega) (by omega)
        have g5 : C1 73 (F1 792 72 + 1 + 6 * X 0 71 + 5) = Y (6 + 6 * X 0 71) := N1.at (by omega) (by omega) (by omega)
        have r5' : ∀ q, 0 ≤ q → q < 8 → C1 86 q = X 5 q := fun q q0 q1 => by rw [R1.1.2.2.1]; exact r5 q q0 q1
        have r6' : ∀ p, 0 ≤ p → p < 4 → C1 87 p = X 6 p := fun q q0 q1 => by rw [R1.1.2.2.2]; exact r6 q q0 q1
        have dY : decide (i32 (Y 0) ≤ i32 (X 0 71)) = false := dF (by rw [i32_le (by omega) (by omega) (by omega) (by omega)]; exact c2)
        rw [e_Model_after_38]
        by_cases t0 : Y (1 + 6 * X 0 71) = 0
        · have gg := c3.1 t0
          obtain ⟨s1, s2, s3⟩ := gg
          have p0 := s2.1
          have ea : doX D Y X (X 0 71) = askX D X (Y (2 + 6 * X 0 71)) (Y (3 + 6 * X 0 71)) (Y (4 + 6 * X 0 71)) := if_pos t0
          have x5 := r5' (Y (4 + 6 * X 0 71)) s3.1 (by omega)
          have x6 := r6' (Y (3 + 6 * X 0 71)) p0.1 (by omega)
          simp (disch := omega) only [zoI_s, zoR_s, zoH_s, zoL_s, zbI_s, zbV_s, zbR_s, zbL_s, zif_t, zif_f, zrz_0, zrz_1, i32_add, i32_mul, i32_sub, i32_neg, zsF_s, zsF_k, zsF_a, zsC_s, zsC_a, zsC_i, zsW_s, zsW_a, Int.add_zero, Int.zero_add, wr_768 S, wg_792 S, wv_72 S, wa_73 S, g, dY, e1, d10, g0, t0, d0ne, wr_806 S, wr_807 S, wa_86 S, ws_86 S, wa_87 S, ws_87 S, x5, x6, g2, g3, L135]
          refine fin _ _ ((R1.1.1.sC (by omega) (by omega)).sC (by omega) (by omega)) rfl rfl rfl rfl (fun q q0 q1 => ?_) (fun p p0 p1 => ?_)
          · rw [ea, (askX_5 _ _ _ _ _ _).1]
            by_cases z : q = Y (4 + 6 * X 0 71)
            · rw [if_pos z, z]
              simp (disch := omega) only [if_true, if_false, not_true_eq_false, not_false_eq_true, zoI_s, zoR_s, zoH_s, zoL_s, zbI_s, zbV_s, zbR_s, zbL_s, zif_dec, i32_0, ne_eq, i32_lt, i32_le, i32_eq, i32_add, i32_mul, i32_sub, i32_neg, zrz_0, zrz_1, zif_t, zif_f, zsF_s, zsF_k, zsF_a, zsC_s, zsC_a, zsC_i, zsW_s, zsW_a, Int.add_zero, Int.zero_add, true_and, false_and, and_false, Bool.false_eq_true, decide_true, decide_false, Bool.true_and, Bool.false_and, Bool.true_or, Bool.false_or, sub1, and_true, if_pos, if_neg]
            · rw [if_neg z]
              simp (disch := omega) only [if_true, if_false, not_true_eq_false, not_false_eq_true, zoI_s, zoR_s, zoH_s, zoL_s, zbI_s, zbV_s, zbR_s, zbL_s, zif_dec, i32_0, ne_eq, i32_lt, i32_le, i32_eq, i32_add, i32_mul, i32_sub, i32_neg, zrz_0, zrz_1, zif_t, zif_f, zsF_s, zsF_k, zsF_a, zsC_s, zsC_a, zsC_i, zsW_s, zsW_a, Int.add_zero, Int.zero_add, true_and, false_and, and_false, Bool.false_eq_true, decide_true, decide_false, Bool.true_and, Bool.false_and, Bool.true_or, Bool.false_or, sub1, and_true, if_pos, if_neg]
              exact r5' q q0 q1
          · rw [ea, (askX_5 _ _ _ _ _ _).2]
            by_cases z : p = Y (3 + 6 * X 0 71)
            · rw [if_pos z, z]
              simp (disch := omega) only [if_true, if_false, not_true_eq_false, not_false_eq_true, zoI_s, zoR_s, zoH_s, zoL_s, zbI_s, zbV_s, zbR_s, zbL_s, zif_dec, i32_0, ne_eq, i32_lt, i32_le, i32_eq, i32_add, i32_mul, i32_sub, i32_neg, zrz_0, zrz_1, zif_t, zif_f, zsF_s, zsF_k, zsF_a, zsC_s, zsC_a, zsC_i, zsW_s, zsW_a, Int.add_zero, Int.zero_add, true_and, false_and, and_false, Bool.false_eq_true, decide_true, decide_false, Bool.true_and, Bool.false_and, Bool.true_or, Bool.false_or, sub1, and_true, if_pos, if_neg]
            · rw [if_neg z]
              simp (disch := omega) only [if_true, if_false, not_true_eq_false, not_false_eq_true, zoI_s, zoR_s, zoH_s, zoL_s, zbI_s, zbV_s, zbR_s, zbL_s, zif_dec, i32_0, ne_eq, i32_lt, i32_le, i32_eq, i32_add, i32_mul, i32_sub, i32_neg, zrz_0, zrz_1, zif_t, zif_f, zsF_s, zsF_k, zsF_a, zsC_s, zsC_a, zsC_i, zsW_s, zsW_a, Int.add_zero, Int.zero_add, true_and, false_and, and_false, Bool.false_eq_true, decide_true, decide_false, Bool.true_and, Bool.false_and, Bool.true_or, Bool.false_or, sub1, and_true, if_pos, if_neg]
              exact r6' p p0 p1
        · by_cases t1 : Y (1 + 6 * X 0 71) = 1
          · have gg := c3.2.1 t1
            obtain ⟨s1, s2, s3, s4, s5⟩ := gg
            have p0 := s3.1
            have p2 := s4.1
            have nps := (yr.2.2.2.2.2.2.2 t1).2
            have ea : doX D Y X (X 0 71) = dueX D X (Y (2 + 6 * X 0 71)) (Y (3 + 6 * X 0 71)) (Y (4 + 6 * X 0 71)) (Y (5 + 6 * X 0 71)) (Y (6 + 6 * X 0 71)) := by unfold doX; rw [if_neg t0, if_pos t1]
            have x5 := r5' (Y (6 + 6 * X 0 71)) s5.1 (by omega)
            have x6 := r6' (Y (4 + 6 * X 0 71)) p0.1 (by omega)
            have x7 := r6' (Y (5 + 6 * X 0 71)) p2.1 (by omega)
            simp (disch := omega) only [zoI_s, zoR_s, zoH_s, zoL_s, zbI_s, zbV_s, zbR_s, zbL_s, zif_t, zif_f, zrz_0, zrz_1, i32_add, i32_mul, i32_sub, i32_neg, zsF_s, zsF_k, zsF_a, zsC_s, zsC_a, zsC_i, zsW_s, zsW_a, Int.add_zero, Int.zero_add, wr_768 S, wg_792 S, wv_72 S, wa_73 S, g, dY, e1, d10, g0, t1, d1ne, d11, wr_806 S, wr_807 S, wa_86 S, ws_86 S, wa_87 S, ws_87 S, x5, x6, x7, g3, g4, g5, L135]
            refine fin _ _ (((R1.1.1.sC (by omega) (by omega)).sC (by omega) (by omega)).sC (by omega) (by omega)) rfl rfl rfl rfl (fun q q0 q1 => ?_) (fun p p0 p1 => ?_)
            · rw [ea, (dueX_5 _ _ _ nps).1]
              by_cases z : q = Y (6 + 6 * X 0 71)
              · rw [if_pos z, z]
                simp (disch := omega) only [if_true, if_false, not_true_eq_false, not_false_eq_true, zoI_s, zoR_s, zoH_s, zoL_s, zbI_s, zbV_s, zbR_s, zbL_s, zif_dec, i32_0, ne_eq, i32_lt, i32_le, i32_eq, i32_add, i32_mul, i32_sub, i32_neg, zrz_0, zrz_1, zif_t, zif_f, zsF_s, zsF_k, zsF_a, zsC_s, zsC_a, zsC_i, zsW_s, zsW_a, Int.add_zero, Int.zero_add, true_and, false_and, and_false, Bool.false_eq_true, decide_true, decide_false, Bool.true_and, Bool.false_and, Bool.true_or, Bool.false_or, sub1, and_true, if_pos, if_neg]
              · rw [if_neg z]
                simp (disch := omega) only [if_true, if_false, not_true_eq_false, not_false_eq_true, zoI_s, zoR_s, zoH_s, zoL_s, zbI_s, zbV_s, zbR_s, zbL_s, zif_dec, i32_0, ne_eq, i32_lt, i32_le, i32_eq, i32_add, i32_mul, i32_sub, i32_neg, zrz_0, zrz_1, zif_t, zif_f, zsF_s, zsF_k, zsF_a, zsC_s, zsC_a, zsC_i, zsW_s, zsW_a, Int.add_zero, Int.zero_add, true_and, false_and, and_false, Bool.false_eq_true, decide_true, decide_false, Bool.true_and, Bool.false_and, Bool.true_or, Bool.false_or, sub1, and_true, if_pos, if_neg]
                exact r5' q q0 q1
            · rw [ea, (dueX_5 _ _ _ nps).2]
              by_cases z : p = Y (5 + 6 * X 0 71)
              · rw [if_pos z, z]
                simp (disch := omega) only [if_true, if_false, not_true_eq_false, not_false_eq_true, zoI_s, zoR_s, zoH_s, zoL_s, zbI_s, zbV_s, zbR_s, zbL_s, zif_dec, i32_0, ne_eq, i32_lt, i32_le, i32_eq, i32_add, i32_mul, i32_sub, i32_neg, zrz_0, zrz_1, zif_t, zif_f, zsF_s, zsF_k, zsF_a, zsC_s, zsC_a, zsC_i, zsW_s, zsW_a, Int.add_zero, Int.zero_add, true_and, false_and, and_false, Bool.false_eq_true, decide_true, decide_false, Bool.true_and, Bool.false_and, Bool.true_or, Bool.false_or, sub1, and_true, if_pos, if_neg]
              · rw [if_neg z]
                by_cases z2 : p = Y (4 + 6 * X 0 71)
                · rw [if_pos z2, z2]
                  simp (disch := omega) only [if_true, if_false, not_true_eq_false, not_false_eq_true, zoI_s, zoR_s, zoH_s, zoL_s, zbI_s, zbV_s, zbR_s, zbL_s, zif_dec, i32_0, ne_eq, i32_lt, i32_le, i32_eq, i32_add, i32_mul, i32_sub, i32_neg, zrz_0, zrz_1, zif_t, zif_f, zsF_s, zsF_k, zsF_a, zsC_s, zsC_a, zsC_i, zsW_s, zsW_a, Int.add_zero, Int.zero_add, true_and, false_and, and_false, Bool.false_eq_true, decide_true, decide_false, Bool.true_and, Bool.false_and, Bool.true_or, Bool.false_or, sub1, and_true, if_pos, if_neg]
                · rw [if_neg z2]
                  simp (disch := omega) only [if_true, if_false, not_true_eq_false, not_false_eq_true, zoI_s, zoR_s, zoH_s, zoL_s, zbI_s, zbV_s, zbR_s, zbL_s, zif_dec, i32_0, ne_eq, i32_lt, i32_le, i32_eq, i32_add, i32_mul, i32_sub, i32_neg, zrz_0, zrz_1, zif_t, zif_f, zsF_s, zsF_k, zsF_a, zsC_s, zsC_a, zsC_i, zsW_s, zsW_a, Int.add_zero, Int.zero_add, true_and, false_and, and_false, Bool.false_eq_true, decide_true, decide_false, Bool.true_and, Bool.false_and, Bool.true_or, Bool.false_or, sub1, and_true, if_pos, if_neg]
                  exact r6' p p0 p1
          · have e5 : doX D Y X (X 0 71) 5 = X 5 ∧ doX D Y X (X 0 71) 6 = X 6 := by
              unfold doX
              rw [if_neg t0, if_neg t1]
              split
              · exact ⟨zsC_a (by omega), zsC_a (by omega)⟩
              · split
                · exact ⟨zsC_a (by omega), zsC_a (by omega)⟩
                · split
                  · exact ⟨zsC_a (by omega), zsC_a (by omega)⟩
                  · exact ⟨rfl, rfl⟩
            have dt0 : decide (i32 (Y (1 + 6 * X 0 71)) ≠ 0) = true := dT (by rw [i32_0, ne_eq, i32_eq (by omega) (by omega) (by omega) (by omega)]; exact t0)
            have dt1 : decide (i32 (Y (1 + 6 * X 0 71)) ≠ i32 1) = true := dT (by rw [ne_eq, i32_eq (by omega) (by omega) (by omega) (by omega)]; exact t1)
            simp (disch := omega) only [zoI_s, zoR_s, zoH_s, zoL_s, zbI_s, zbV_s, zbR_s, zbL_s, zif_t, zif_f, zrz_0, zrz_1, i32_add, i32_mul, i32_sub, i32_neg, zsF_s, zsF_k, zsF_a, zsC_s, zsC_a, zsC_i, zsW_s, zsW_a, Int.add_zero, Int.zero_add, wr_768 S, wg_792 S, wv_72 S, wa_73 S, g, dY, e1, d10, g0, dt0, dt1, L135]
            refine fin _ _ R1.1.1 rfl rfl rfl rfl (fun q q0 q1 => ?_) (fun p p0 p1 => ?_)
            · rw [e5.1]; exact r5' q q0 q1
            · rw [e5.2]; exact r6' p p0 p1
      · rw [runX_f (fun z => c3 z.2.2)]
        exact ⟨F, C, stop X F C w6 M N R K (by omega) (Or.inr ⟨by omega, c3⟩), tq.rfl, M, R, K, r5, r6⟩
theorem m_after154 (S : St h) (O : dOK D) (M : moV F C D) (R : mrR D F C X) (K : cOK D X B) (hB : B ≤ 1000) (r5 : ∀ q, 0 ≤ q → q < 8 → C 86 q = X 5 q) (r6 : ∀ p, 0 ≤ p → p < 4 → C 87 p = X 6 p) {d y w : Int} (w0 : 0 ≤ w) (w1 : w ≤ 3) : zr 301 154 [yR (some 72), yI (i32 d), yI (i32 y), yI (i32 w), yI (i32 (X 0 70)), yI (i32 (if D 0 = 0 then -1 else 0)), yI (i32 1)] [] (zw h F C) = some (zI (i32 (aftS D X w)), zw h F C) := by
  have b0 := O.1
  have b1 := O.2.1
  have b2 := O.2.2.1
  have k8 := K.2.2.2.2.2.2.2.2.1
  have m0 : F 779 72 = D 0 := M.2.1.1
  have m1 : F 780 72 = D 1 := M.2.1.2.1
  have m2 : F 781 72 = D 2 := M.2.1.2.2
  have e5 := m_mostOf (h := h) (F := F) (C := C) (b := 86) (m := 8) (S.2.2.2.1 (86, 8) (List.mem_of_getElem? (l := wRW) (i := 30) rfl)) (by unfold zK0; omega) (by omega) (n := D 2) b2.1 (by omega) (f := X 5) (fun i i0 i1 => r5 i i0 (by omega)) (fun i i0 i1 => by have := (K.2.2.2.2.2.2.2.2.2.2.2.2 i i0 (by omega)).2.1; omega)
  have e6 := m_mostOf (h := h) (F := F) (C := C) (b := 87) (m := 8) (S.2.2.2.1 (87, 8) (List.mem_of_getElem? (l := wRW) (i := 31) rfl)) (by unfold zK0; omega) (by omega) (n := D 1) b1.1 (by omega) (f := X 6) (fun i i0 i1 => r6 i i0 (by omega)) (fun i i0 i1 => by have := (K.2.2.2.2.2.2.2.2.2.2.2.1 i i0 (by omega)).2.1; omega)
  have fin : ∀ dr k : Int, D 0 ≤ k → k ≤ 10 → dr = dryS (X 1) (D 0) → -1 ≤ dr → dr ≤ 10 → zr 301 154 [yR (some 72), yI (i32 d), yI (i32 y), yI (i32 w), yI (i32 (X 0 70)), yI (i32 dr), yI (i32 k)] [] (zw h F C) = some (zI (i32 (aftS D X w)), zw h F C) := by
    intro dr k hk hk2 hdr d0 d1
    rw [e_Model_after_154]
    unfold aftS
    rcases (show w = 0 ∨ w = 1 ∨ w = 2 ∨ w = 3 by omega) with rfl | rfl | rfl | rfl
    · simp (disch := omega) only [if_true, if_false, not_true_eq_false, not_false_eq_true, zoI_s, zoR_s, zoH_s, zoL_s, zbI_s, zbV_s, zbR_s, zbL_s, zif_dec, i32_0, ne_eq, i32_lt, i32_le, i32_eq, i32_add, i32_mul, i32_sub, i32_neg, zrz_0, zrz_1, zif_t, zif_f, zsF_s, zsF_k, zsF_a, zsC_s, zsC_a, zsC_i, zsW_s, zsW_a, Int.add_zero, Int.zero_add, true_and, false_and, and_false, Bool.false_eq_true, decide_true, decide_false, Bool.true_and, Bool.false_and, Bool.true_or, Bool.false_or, sub1, and_true, if_pos, if_neg, wv_72 S, wr_768 S, wr_769 S, wr_777 S, wr_785 S, wr_786 S, wr_787 S, wr_789 S, wr_790 S, wr_791 S, wr_802 S, wr_803 S, wr_804 S, wr_805 S, wr_806 S, wr_807 S, wr_809 S, wg_770 S, wp_770 S, wg_771 S, wp_771 S, wg_772 S, wp_772 S, wg_773 S, wp_773 S, wg_774 S, wp_774 S, wg_775 S, wp_775 S, wg_776 S, wp_776 S, wg_778 S, wp_778 S, wg_779 S, wp_779 S, wg_780 S, wp_780 S, wg_781 S, wp_781 S, wg_782 S, wp_782 S, wg_783 S, wp_783 S, wg_784 S, wp_784 S, wg_788 S, wp_788 S, wg_792 S, wp_792 S, wg_793 S, wp_793 S, wg_794 S, wp_794 S, wg_795 S, wp_795 S, wg_796 S, wp_796 S, wg_797 S, wp_797 S, wg_798 S, wp_798 S, wg_799 S, wp_799 S, wg_800 S, wp_800 S, wg_801 S, wp_801 S, wg_808 S, wp_808 S, wg_810 S, wp_810 S, m0]
    · simp (disch := omega) only [if_true, if_false, not_true_eq_false, not_false_eq_true, zoI_s, zoR_s, zoH_s, zoL_s, zbI_s, zbV_s, zbR_s, zbL_s, zif_dec, i32_0, ne_eq, i32_lt, i32_le, i32_eq, i32_add, i32_mul, i32_sub, i32_neg, zrz_0, zrz_1, zif_t, zif_f, zsF_s, zsF_k, zsF_a, zsC_s, zsC_a, zsC_i, zsW_s, zsW_a, Int.add_zero, Int.zero_add, true_and, false_and, and_false, Bool.false_eq_true, decide_true, decide_false, Bool.true_and, Bool.false_and, Bool.true_or, Bool.false_or, sub1, and_true, if_pos, if_neg, wv_72 S, wr_768 S, wr_769 S, wr_777 S, wr_785 S, wr_786 S, wr_787 S, wr_789 S, wr_790 S, wr_791 S, wr_802 S, wr_803 S, wr_804 S, wr_805 S, wr_806 S, wr_807 S, wr_809 S, wg_770 S, wp_770 S, wg_771 S, wp_771 S, wg_772 S, wp_772 S, wg_773 S, wp_773 S, wg_774 S, wp_774 S, wg_775 S, wp_775 S, wg_776 S, wp_776 S, wg_778 S, wp_778 S, wg_779 S, wp_779 S, wg_780 S, wp_780 S, wg_781 S, wp_781 S, wg_782 S, wp_782 S, wg_783 S, wp_783 S, wg_784 S, wp_784 S, wg_788 S, wp_788 S, wg_792 S, wp_792 S, wg_793 S, wp_793 S, wg_794 S, wp_794 S, wg_795 S, wp_795 S, wg_796 S, wp_796 S, wg_797 S, wp_797 S, wg_798 S, wp_798 S, wg_799 S, wp_799 S, wg_800 S, wp_800 S, wg_801 S, wp_801 S, wg_808 S, wp_808 S, wg_810 S, wp_810 S, m0, m2, e5]
    · simp (disch := omega) only [if_true, if_false, not_true_eq_false, not_false_eq_true, zoI_s, zoR_s, zoH_s, zoL_s, zbI_s, zbV_s, zbR_s, zbL_s, zif_dec, i32_0, ne_eq, i32_lt, i32_le, i32_eq, i32_add, i32_mul, i32_sub, i32_neg, zrz_0, zrz_1, zif_t, zif_f, zsF_s, zsF_k, zsF_a, zsC_s, zsC_a, zsC_i, zsW_s, zsW_a, Int.add_zero, Int.zero_add, true_and, false_and, and_false, Bool.false_eq_true, decide_true, decide_false, Bool.true_and, Bool.false_and, Bool.true_or, Bool.false_or, sub1, and_true, if_pos, if_neg, wv_72 S, wr_768 S, wr_769 S, wr_777 S, wr_785 S, wr_786 S, wr_787 S, wr_789 S, wr_790 S, wr_791 S, wr_802 S, wr_803 S, wr_804 S, wr_805 S, wr_806 S, wr_807 S, wr_809 S, wg_770 S, wp_770 S, wg_771 S, wp_771 S, wg_772 S, wp_772 S, wg_773 S, wp_773 S, wg_774 S, wp_774 S, wg_775 S, wp_775 S, wg_776 S, wp_776 S, wg_778 S, wp_778 S, wg_779 S, wp_779 S, wg_780 S, wp_780 S, wg_781 S, wp_781 S, wg_782 S, wp_782 S, wg_783 S, wp_783 S, wg_784 S, wp_784 S, wg_788 S, wp_788 S, wg_792 S, wp_792 S, wg_793 S, wp_793 S, wg_794 S, wp_794 S, wg_795 S, wp_795 S, wg_796 S, wp_796 S, wg_797 S, wp_797 S, wg_798 S, wp_798 S, wg_799 S, wp_799 S, wg_800 S, wp_800 S, wg_801 S, wp_801 S, wg_808 S, wp_808 S, wg_810 S, wp_810 S, m0, m1, e6]
    · simp (disch := omega) only [if_true, if_false, not_true_eq_false, not_false_eq_true, zoI_s, zoR_s, zoH_s, zoL_s, zbI_s, zbV_s, zbR_s, zbL_s, zif_dec, i32_0, ne_eq, i32_lt, i32_le, i32_eq, i32_add, i32_mul, i32_sub, i32_neg, zrz_0, zrz_1, zif_t, zif_f, zsF_s, zsF_k, zsF_a, zsC_s, zsC_a, zsC_i, zsW_s, zsW_a, Int.add_zero, Int.zero_add, true_and, false_and, and_false, Bool.false_eq_true, decide_true, decide_false, Bool.true_and, Bool.false_and, Bool.true_or, Bool.false_or, sub1, and_true, if_pos, if_neg, wv_72 S, wr_768 S, wr_769 S, wr_777 S, wr_785 S, wr_786 S, wr_787 S, wr_789 S, wr_790 S, wr_791 S, wr_802 S, wr_803 S, wr_804 S, wr_805 S, wr_806 S, wr_807 S, wr_809 S, wg_770 S, wp_770 S, wg_771 S, wp_771 S, wg_772 S, wp_772 S, wg_773 S, wp_773 S, wg_774 S, wp_774 S, wg_775 S, wp_775 S, wg_776 S, wp_776 S, wg_778 S, wp_778 S, wg_779 S, wp_779 S, wg_780 S, wp_780 S, wg_781 S, wp_781 S, wg_782 S, wp_782 S, wg_783 S, wp_783 S, wg_784 S, wp_784 S, wg_788 S, wp_788 S, wg_792 S, wp_792 S, wg_793 S, wp_793 S, wg_794 S, wp_794 S, wg_795 S, wp_795 S, wg_796 S, wp_796 S, wg_797 S, wp_797 S, wg_798 S, wp_798 S, wg_799 S, wp_799 S, wg_800 S, wp_800 S, wg_801 S, wp_801 S, wg_808 S, wp_808 S, wg_810 S, wp_810 S, m0]
      rw [hdr]
  by_cases c : D 0 = 0
  · rw [if_pos c]
    exact fin (-1) 1 (by omega) (by omega) (by unfold dryS; rw [if_pos c]) (by omega) (by omega)
  · rw [if_neg c]
    obtain ⟨best, e, I⟩ := zinv (fun k (q : Int) => zr 301 154 [yR (some 72), yI (i32 d), yI (i32 y), yI (i32 w), yI (i32 (X 0 70)), yI (i32 q), yI (i32 k)] [] (zw h F C)) (fun k q => q = gstI (fun r => -(X 1 r)) (k - 1)) 1 (D 0) (by omega) (fun k q k0 k1 I => by
      have br := gstI_rng (fun r => -(X 1 r)) (k := k - 1) (by omega)
      have g := (R.2.1 k (by omega) k1).1
      have z := (K.2.2.2.2.2.2.2.2.2.2.1 k (by omega) k1).1
      rw [show k + 1 - 1 = k by omega, gstI_s _ k0]
      generalize gstI (fun r => -(X 1 r)) (k - 1) = mm at *
      subst I
      have g2 := (R.2.1 q br.1 (by omega)).1
      have z2 := (K.2.2.2.2.2.2.2.2.2.2.1 q br.1 (by omega)).1
      rw [e_Model_after_154]
      by_cases c2 : X 1 q ≤ X 1 k
      · refine ⟨q, ?_, by rw [if_neg (by omega)]⟩
        simp (disch := omega) only [if_true, if_false, not_true_eq_false, not_false_eq_true, zoI_s, zoR_s, zoH_s, zoL_s, zbI_s, zbV_s, zbR_s, zbL_s, zif_dec, i32_0, ne_eq, i32_lt, i32_le, i32_eq, i32_add, i32_mul, i32_sub, i32_neg, zrz_0, zrz_1, zif_t, zif_f, zsF_s, zsF_k, zsF_a, zsC_s, zsC_a, zsC_i, zsW_s, zsW_a, Int.add_zero, Int.zero_add, true_and, false_and, and_false, Bool.false_eq_true, decide_true, decide_false, Bool.true_and, Bool.false_and, Bool.true_or, Bool.false_or, sub1, and_true, if_pos, if_neg, wv_72 S, wr_768 S, wr_769 S, wr_777 S, wr_785 S, wr_786 S, wr_787 S, wr_789 S, wr_790 S, wr_791 S, wr_802 S, wr_803 S, wr_804 S, wr_805 S, wr_806 S, wr_807 S, wr_809 S, wg_770 S, wp_770 S, wg_771 S, wp_771 S, wg_772 S, wp_772 S, wg_773 S, wp_773 S, wg_774 S, wp_774 S, wg_775 S, wp_775 S, wg_776 S, wp_776 S, wg_778 S, wp_778 S, wg_779 S, wp_779 S, wg_780 S, wp_780 S, wg_781 S, wp_781 S, wg_782 S, wp_782 S, wg_783 S, wp_783 S, wg_784 S, wp_784 S, wg_788 S, wp_788 S, wg_792 S, wp_792 S, wg_793 S, wp_793 S, wg_794 S, wp_794 S, wg_795 S, wp_795 S, wg_796 S, wp_796 S, wg_797 S, wp_797 S, wg_798 S, wp_798 S, wg_799 S, wp_799 S, wg_800 S, wp_800 S, wg_801 S, wp_801 S, wg_808 S, wp_808 S, wg_810 S, wp_810 S, wa_82 S, ws_82 S, m0, g, g2]
      · refine ⟨k, ?_, by rw [if_pos (by omega)]⟩
        simp (disch := omega) only [if_true, if_false, not_true_eq_false, not_false_eq_true, zoI_s, zoR_s, zoH_s, zoL_s, zbI_s, zbV_s, zbR_s, zbL_s, zif_dec, i32_0, ne_eq, i32_lt, i32_le, i32_eq, i32_add, i32_mul, i32_sub, i32_neg, zrz_0, zrz_1, zif_t, zif_f, zsF_s, zsF_k, zsF_a, zsC_s, zsC_a, zsC_i, zsW_s, zsW_a, Int.add_zero, Int.zero_add, true_and, false_and, and_false, Bool.false_eq_true, decide_true, decide_false, Bool.true_and, Bool.false_and, Bool.true_or, Bool.false_or, sub1, and_true, if_pos, if_neg, wv_72 S, wr_768 S, wr_769 S, wr_777 S, wr_785 S, wr_786 S, wr_787 S, wr_789 S, wr_790 S, wr_791 S, wr_802 S, wr_803 S, wr_804 S, wr_805 S, wr_806 S, wr_807 S, wr_809 S, wg_770 S, wp_770 S, wg_771 S, wp_771 S, wg_772 S, wp_772 S, wg_773 S, wp_773 S, wg_774 S, wp_774 S, wg_775 S, wp_775 S, wg_776 S, wp_776 S, wg_778 S, wp_778 S, wg_779 S, wp_779 S, wg_780 S, wp_780 S, wg_781 S, wp_781 S, wg_782 S, wp_782 S, wg_783 S, wp_783 S, wg_784 S, wp_784 S, wg_788 S, wp_788 S, wg_792 S, wp_792 S, wg_793 S, wp_793 S, wg_794 S, wp_794 S, wg_795 S, wp_795 S, wg_796 S, wp_796 S, wg_797 S, wp_797 S, wg_798 S, wp_798 S, wg_799 S, wp_799 S, wg_800 S, wp_800 S, wg_801 S, wp_801 S, wg_808 S, wp_808 S, wg_810 S, wp_810 S, wa_82 S, ws_82 S, m0, g, g2]) 0 rfl
    have br := gstI_rng (fun r => -(X 1 r)) (k := D 0 - 1) (by omega)
    rw [e]
    exact fin best (D 0) (by omega) (by omega) (by unfold dryS; rw [if_neg c]; exact I) (by omega) (by omega)
end M6
noncomputable def afterQ (A : Int → Int) (d y w : Int) : Int := if (0 ≤ d ∧ d < A 0) ∧ (0 ≤ y ∧ y < A 1) ∧ (0 ≤ w ∧ w ≤ 3) then aftS (dOf A d) (runX (dOf A d) (yOf A y) (yOf A y 0) 40 (zsC (begX (dOf A d)) 0 82 1)) w else -2
theorem c_after {d y w : Int} (hd : inI d) (hy : inI y) (hw : inI w) : ans1 181 0 [zI (i32 d), zI (i32 y), zI (i32 w)] (fun A => zI (i32 (afterQ A d y w))) := by
  intro h F C Q
  have S := Q.1
  unfold inI at hd hy hw
  unfold afterQ
  by_cases c1 : 0 ≤ d ∧ d < C 73 0
  · by_cases c2 : 0 ≤ y ∧ y < C 73 1
    · have H := Q.dS c1.1 c1.2
      have V := Q.dV c1.1 c1.2
      have O := Q.dO c1.1 c1.2
      have Hy := Q.yS c2.1 c2.2
      have Vy := Q.yV c2.1 c2.2
      have Oy := Q.yO c2.1 c2.2
      have o := Q.2.2.1
      have b := Oy.1
      have b1 := O.2.1
      have b2 := O.2.2.1
      have ha : 8 + 13 * d.toNat ≤ 28 := by omega
      obtain ⟨F1, C1, e1, R1⟩ := c_begin S H V O ha
      have K1 : cOK (dOf (C 73) d) (zsC (begX (dOf (C 73) d)) 0 82 1) 0 := cOK.beg O
      obtain ⟨F2, C2, e2, R2, K2, h2⟩ := c_runL S H V O ha Hy Vy Oy (by omega) (n := yOf (C 73) y 0) (by omega) (by omega) 40 (zsC (begX (dOf (C 73) d)) 0 82 1) F1 C1 R1 K1 (show yOf (C 73) y 0 ≤ 0 + ((40 : Nat) : Int) by omega) (show 0 ≤ yOf (C 73) y 0 by omega)
      have er : zc 13 [zR (some 50), zR (some ((8 + 13 * d.toNat))), zR (some ((15 + 13 * y.toNat))), zI (i32 (yOf (C 73) y 0))] (zw h F C) = some (zI 0, zw h F2 C2) := by
        rw [← e2, e_Course_run]
        simp (disch := omega) only [if_true, if_false, not_true_eq_false, not_false_eq_true, zoI_s, zoR_s, zoH_s, zoL_s, zbI_s, zbV_s, zbR_s, zbL_s, zif_dec, i32_0, ne_eq, i32_lt, i32_le, i32_eq, i32_add, i32_mul, i32_sub, i32_neg, zrz_0, zrz_1, zif_t, zif_f, zsF_s, zsF_k, zsF_a, zsC_s, zsC_a, zsC_i, zsW_s, zsW_a, Int.add_zero, Int.zero_add, true_and, false_and, and_false, Bool.false_eq_true, decide_true, decide_false, Bool.true_and, Bool.false_and, Bool.true_or, Bool.false_or, sub1, and_true, if_pos, if_neg, wv_50 S, wr_66 S, wr_67 S, wr_68 S, wr_69 S, wr_70 S, wr_71 S, wg_64 S, wp_64 S, wg_65 S, wp_65 S, wg_72 S, wp_72 S, wg_73 S, wp_73 S, wg_74 S, wp_74 S, wg_75 S, wp_75 S, wg_76 S, wp_76 S, wg_77 S, wp_77 S, wg_78 S, wp_78 S, wg_79 S, wp_79 S, wg_80 S, wp_80 S, e1]
        rfl
      refine ⟨F2, C2, ?_, R2.1⟩
      dsimp only
      generalize runX (dOf (C 73) d) (yOf (C 73) y) (yOf (C 73) y 0) 40 (zsC (begX (dOf (C 73) d)) 0 82 1) = T at *
      have q70 : F2 65 50 = T 0 70 := R2.2.1.2.2.2.2.2.2.2.2.1
      have k5 := K2.2.2.2.2.2.2.2.2.2.2.2.2
      have k6 := K2.2.2.2.2.2.2.2.2.2.2.2.1
      have f5 := c_firstG (h := h) (F := F2) (C := C2) (b := 55) (n := 8) (S.2.2.2.1 (55, 8) (List.mem_of_getElem? (l := wRW) (i := 5) rfl)) (by unfold zK0; omega) (by omega) (by omega) (f := T 5) (fun i i0 i1 => (R2.2.2.2.2 i i0 (by omega)).2) (fun i i0 i1 => by have := (k5 i i0 (by omega)).2.1; omega)
      have f6 := c_firstG (h := h) (F := F2) (C := C2) (b := 54) (n := 4) (S.2.2.2.1 (54, 4) (List.mem_of_getElem? (l := wRW) (i := 4) rfl)) (by unfold zK0; omega) (by omega) (by omega) (f := T 6) (fun i i0 i1 => (R2.2.2.2.1 i i0 (by omega)).2) (fun i i0 i1 => by have := (k6 i i0 (by omega)).2.1; omega)
      have x5 : fgS (T 5) ((8 : Nat) : Int) = fgS (T 5) (dOf (C 73) d 2) := by
        have := fgS_ext (f := T 5) (n := dOf (C 73) d 2) (N := 8) b2.1 (fun i i0 i1 => (k5 i i0 i1).2.1.1) (8 - dOf (C 73) d 2).toNat (by omega) (fun i i0 i1 => (k5 i (by omega) (by omega)).2.2 i0)
        rwa [show dOf (C 73) d 2 + ((8 - dOf (C 73) d 2).toNat : Int) = ((8 : Nat) : Int) by omega] at this
      have x6 : fgS (T 6) ((4 : Nat) : Int) = fgS (T 6) (dOf (C 73) d 1) := by
        have := fgS_ext (f := T 6) (n := dOf (C 73) d 1) (N := 4) b1.1 (fun i i0 i1 => (k6 i i0 i1).2.1.1) (4 - dOf (C 73) d 1).toNat (by omega) (fun i i0 i1 => (k6 i (by omega) (by omega)).2.2 i0)
        rwa [show dOf (C 73) d 1 + ((4 - dOf (C 73) d 1).toNat : Int) = ((4 : Nat) : Int) by omega] at this
      have f7 := c_driest S H V O ha R2 K2
      rw [x5] at f5
      rw [x6] at f6
      unfold aftS
      by_cases w0 : w = 0
      · simp (disch := omega) only [if_true, if_false, not_true_eq_false, not_false_eq_true, zoI_s, zoR_s, zoH_s, zoL_s, zbI_s, zbV_s, zbR_s, zbL_s, zif_dec, i32_0, ne_eq, i32_lt, i32_le, i32_eq, i32_add, i32_mul, i32_sub, i32_neg, zrz_0, zrz_1, zif_t, zif_f, zsF_s, zsF_k, zsF_a, zsC_s, zsC_a, zsC_i, zsW_s, zsW_a, Int.add_zero, Int.zero_add, true_and, false_and, and_false, Bool.false_eq_true, decide_true, decide_false, Bool.true_and, Bool.false_and, Bool.true_or, Bool.false_or, sub1, and_true, if_pos, if_neg, wv_0 S, wr_704 S, wr_705 S, wr_706 S, wr_707 S, wr_708 S, wr_709 S, wr_710 S, wr_711 S, tv_1 S, c_dAt Q, c_yAt Q, Option.isNone_some, Option.isSome_some, e_Main_after, wv_50 S, wr_66 S, wr_67 S, wr_68 S, wr_69 S, wr_70 S, wr_71 S, wg_64 S, wp_64 S, wg_65 S, wp_65 S, wg_72 S, wp_72 S, wg_73 S, wp_73 S, wg_74 S, wp_74 S, wg_75 S, wp_75 S, wg_76 S, wp_76 S, wg_77 S, wp_77 S, wg_78 S, wp_78 S, wg_79 S, wp_79 S, wg_80 S, wp_80 S, yg_640 Hy, Vy.1, er, q70, w0]
      · by_cases w1 : w = 1
        · simp (disch := omega) only [if_true, if_false, not_true_eq_false, not_false_eq_true, zoI_s, zoR_s, zoH_s, zoL_s, zbI_s, zbV_s, zbR_s, zbL_s, zif_dec, i32_0, ne_eq, i32_lt, i32_le, i32_eq, i32_add, i32_mul, i32_sub, i32_neg, zrz_0, zrz_1, zif_t, zif_f, zsF_s, zsF_k, zsF_a, zsC_s, zsC_a, zsC_i, zsW_s, zsW_a, Int.add_zero, Int.zero_add, true_and, false_and, and_false, Bool.false_eq_true, decide_true, decide_false, Bool.true_and, Bool.false_and, Bool.true_or, Bool.false_or, sub1, and_true, if_pos, if_neg, wv_0 S, wr_704 S, wr_705 S, wr_706 S, wr_707 S, wr_708 S, wr_709 S, wr_710 S, wr_711 S, tv_1 S, c_dAt Q, c_yAt Q, Option.isNone_some, Option.isSome_some, e_Main_after, e_Course_famous, wv_50 S, wr_66 S, wr_67 S, wr_68 S, wr_69 S, wr_70 S, wr_71 S, wg_64 S, wp_64 S, wg_65 S, wp_65 S, wg_72 S, wp_72 S, wg_73 S, wp_73 S, wg_74 S, wp_74 S, wg_75 S, wp_75 S, wg_76 S, wp_76 S, wg_77 S, wp_77 S, wg_78 S, wp_78 S, wg_79 S, wp_79 S, wg_80 S, wp_80 S, yg_640 Hy, Vy.1, er, f5, w1]
        · by_cases w2 : w = 2
          · simp (disch := omega) only [if_true, if_false, not_true_eq_false, not_false_eq_true, zoI_s, zoR_s, zoH_s, zoL_s, zbI_s, zbV_s, zbR_s, zbL_s, zif_dec, i32_0, ne_eq, i32_lt, i32_le, i32_eq, i32_add, i32_mul, i32_sub, i32_neg, zrz_0, zrz_1, zif_t, zif_f, zsF_s, zsF_k, zsF_a, zsC_s, zsC_a, zsC_i, zsW_s, zsW_a, Int.add_zero, Int.zero_add, true_and, false_and, and_false, Bool.false_eq_true, decide_true, decide_false, Bool.true_and, Bool.false_and, Bool.true_or, Bool.false_or, sub1, and_true, if_pos, if_neg, wv_0 S, wr_704 S, wr_705 S, wr_706 S, wr_707 S, wr_708 S, wr_709 S, wr_710 S, wr_711 S, tv_1 S, c_dAt Q, c_yAt Q, Option.isNone_some, Option.isSome_some, e_Main_after, e_Course_hoarse, wv_50 S, wr_66 S, wr_67 S, wr_68 S, wr_69 S, wr_70 S, wr_71 S, wg_64 S, wp_64 S, wg_65 S, wp_65 S, wg_72 S, wp_72 S, wg_73 S, wp_73 S, wg_74 S, wp_74 S, wg_75 S, wp_75 S, wg_76 S, wp_76 S, wg_77 S, wp_77 S, wg_78 S, wp_78 S, wg_79 S, wp_79 S, wg_80 S, wp_80 S, yg_640 Hy, Vy.1, er, f6, w2]
          · by_cases w3 : w = 3
            · simp (disch := omega) only [if_true, if_false, not_true_eq_false, not_false_eq_true, zoI_s, zoR_s, zoH_s, zoL_s, zbI_s, zbV_s, zbR_s, zbL_s, zif_dec, i32_0, ne_eq, i32_lt, i32_le, i32_eq, i32_add, i32_mul, i32_sub, i32_neg, zrz_0, zrz_1, zif_t, zif_f, zsF_s, zsF_k, zsF_a, zsC_s, zsC_a, zsC_i, zsW_s, zsW_a, Int.add_zero, Int.zero_add, true_and, false_and, and_false, Bool.false_eq_true, decide_true, decide_false, Bool.true_and, Bool.false_and, Bool.true_or, Bool.false_or, sub1, and_true, if_pos, if_neg, wv_0 S, wr_704 S, wr_705 S, wr_706 S, wr_707 S, wr_708 S, wr_709 S, wr_710 S, wr_711 S, tv_1 S, c_dAt Q, c_yAt Q, Option.isNone_some, Option.isSome_some, e_Main_after, wv_50 S, wr_66 S, wr_67 S, wr_68 S, wr_69 S, wr_70 S, wr_71 S, wg_64 S, wp_64 S, wg_65 S, wp_65 S, wg_72 S, wp_72 S, wg_73 S, wp_73 S, wg_74 S, wp_74 S, wg_75 S, wp_75 S, wg_76 S, wp_76 S, wg_77 S, wp_77 S, wg_78 S, wp_78 S, wg_79 S, wp_79 S, wg_80 S, wp_80 S, yg_640 Hy, Vy.1, er, f7, w3]
            · simp (disch := omega) only [if_true, if_false, not_true_eq_false, not_false_eq_true, zoI_s, zoR_s, zoH_s, zoL_s, zbI_s, zbV_s, zbR_s, zbL_s, zif_dec, i32_0, ne_eq, i32_lt, i32_le, i32_eq, i32_add, i32_mul, i32_sub, i32_neg, zrz_0, zrz_1, zif_t, zif_f, zsF_s, zsF_k, zsF_a, zsC_s, zsC_a, zsC_i, zsW_s, zsW_a, Int.add_zero, Int.zero_add, true_and, false_and, and_false, Bool.false_eq_true, decide_true, decide_false, Bool.true_and, Bool.false_and, Bool.true_or, Bool.false_or, sub1, and_true, if_pos, if_neg, wv_0 S, wr_704 S, wr_705 S, wr_706 S, wr_707 S, wr_708 S, wr_709 S, wr_710 S, wr_711 S, tv_1 S, c_dAt Q, c_yAt Q, Option.isNone_some, Option.isSome_some, e_Main_after, wv_50 S, wr_66 S, wr_67 S, wr_68 S, wr_69 S, wr_70 S, wr_71 S, wg_64 S, wp_64 S, wg_65 S, wp_65 S, wg_72 S, wp_72 S, wg_73 S, wp_73 S, wg_74 S, wp_74 S, wg_75 S, wp_75 S, wg_76 S, wp_76 S, wg_77 S, wp_77 S, wg_78 S, wp_78 S, wg_79 S, wp_79 S, wg_80 S, wp_80 S, yg_640 Hy, Vy.1, er]
    · refine ⟨F, C, ?_, tq.rfl⟩
      simp (disch := omega) only [if_true, if_false, not_true_eq_false, not_false_eq_true, zoI_s, zoR_s, zoH_s, zoL_s, zbI_s, zbV_s, zbR_s, zbL_s, zif_dec, i32_0, ne_eq, i32_lt, i32_le, i32_eq, i32_add, i32_mul, i32_sub, i32_neg, zrz_0, zrz_1, zif_t, zif_f, zsF_s, zsF_k, zsF_a, zsC_s, zsC_a, zsC_i, zsW_s, zsW_a, Int.add_zero, Int.zero_add, true_and, false_and, and_false, Bool.false_eq_true, decide_true, decide_false, Bool.true_and, Bool.false_and, Bool.true_or, Bool.false_or, sub1, and_true, if_pos, if_neg, wv_0 S, wr_704 S, wr_705 S, wr_706 S, wr_707 S, wr_708 S, wr_709 S, wr_710 S, wr_711 S, tv_1 S, c_dAt Q, c_yAt0 Q, Option.isNone_some, Option.isSome_some, Option.isNone_none, Option.isSome_none, e_Main_after]
  · refine ⟨F, C, ?_, tq.rfl⟩
    by_cases c2 : 0 ≤ y ∧ y < C 73 1
    · simp (disch := omega) only [if_true, if_false, not_true_eq_false, not_false_eq_true, zoI_s, zoR_s, zoH_s, zoL_s, zbI_s, zbV_s, zbR_s, zbL_s, zif_dec, i32_0, ne_eq, i32_lt, i32_le, i32_eq, i32_add, i32_mul, i32_sub, i32_neg, zrz_0, zrz_1, zif_t, zif_f, zsF_s, zsF_k, zsF_a, zsC_s, zsC_a, zsC_i, zsW_s, zsW_a, Int.add_zero, Int.zero_add, true_and, false_and, and_false, Bool.false_eq_true, decide_true, decide_false, Bool.true_and, Bool.false_and, Bool.true_or, Bool.false_or, sub1, and_true, if_pos, if_neg, wv_0 S, wr_704 S, wr_705 S, wr_706 S, wr_707 S, wr_708 S, wr_709 S, wr_710 S, wr_711 S, tv_1 S, c_dAt0 Q, c_yAt Q, Option.isNone_some, Option.isSome_some, Option.isNone_none, Option.isSome_none, e_Main_after]
    · simp (disch := omega) only [if_true, if_false, not_true_eq_false, not_false_eq_true, zoI_s, zoR_s, zoH_s, zoL_s, zbI_s, zbV_s, zbR_s, zbL_s, zif_dec, i32_0, ne_eq, i32_lt, i32_le, i32_eq, i32_add, i32_mul, i32_sub, i32_neg, zrz_0, zrz_1, zif_t, zif_f, zsF_s, zsF_k, zsF_a, zsC_s, zsC_a, zsC_i, zsW_s, zsW_a, Int.add_zero, Int.zero_add, true_and, false_and, and_false, Bool.false_eq_true, decide_true, decide_false, Bool.true_and, Bool.false_and, Bool.true_or, Bool.false_or, sub1, and_true, if_pos, if_neg, wv_0 S, wr_704 S, wr_705 S, wr_706 S, wr_707 S, wr_708 S, wr_709 S, wr_710 S, wr_711 S, tv_1 S, c_dAt0 Q, c_yAt0 Q, Option.isNone_some, Option.isSome_some, Option.isNone_none, Option.isSome_none, e_Main_after]
theorem m_after {d y w : Int} (hd : inI d) (hy : inI y) (hw : inI w) : ans1 301 72 [zI (i32 d), zI (i32 y), zI (i32 w)] (fun A => zI (i32 (afterQ A d y w))) := by
  intro h F C Q
  have S := Q.1
  unfold inI at hd hy hw
  unfold afterQ
  have Q1 := Q.tq (miF_tq d)
  by_cases c1 : 0 ≤ d ∧ d < C 73 0
  · by_cases c2 : 0 ≤ y ∧ y < C 73 1
    · by_cases c3 : 0 ≤ w ∧ w ≤ 3
      · have O := Q.dO c1.1 c1.2
        have Oy := Q.yO c2.1 c2.2
        have o := Q.2.2.1
        have b := Oy.1
        have M := myF_M Q (x := 698 + 241 * y) c1.1 c1.2
        have N := myF_Y Q1 c2.1 c2.2
        obtain ⟨F1, C1, e1, R1, _⟩ := m_begins S M O
        have M1 := R1.mo M
        have N1 := R1.my N
        obtain ⟨C2, e2, t2, z2, z3⟩ := zinv (fun k C' => zr 301 19 [yR (some 72), yI (i32 d), yI (i32 y), yI (i32 w), yI (i32 k), none, none] [] (zw h F1 C')) (fun k C' => tq F1 C1 F1 C' ∧ (∀ c, c ≠ 86 → c ≠ 87 → C' c = C1 c) ∧ (∀ q, 0 ≤ q → q < k → C' 86 q = 0 ∧ C' 87 q = 0)) 0 8 (by omega) (fun k C' k0 k1 I => by
          obtain ⟨t, i1, i2⟩ := I
          refine ⟨zsC (zsC C' 86 k 0) 87 k 0, ?_, (t.sC (by omega) (by omega)).sC (by omega) (by omega), fun c h1 h2 => ?_, fun q q0 q1 => ?_⟩
          · rw [e_Model_after_19]
            simp (disch := omega) only [if_true, if_false, not_true_eq_false, not_false_eq_true, zoI_s, zoR_s, zoH_s, zoL_s, zbI_s, zbV_s, zbR_s, zbL_s, zif_dec, i32_0, ne_eq, i32_lt, i32_le, i32_eq, i32_add, i32_mul, i32_sub, i32_neg, zrz_0, zrz_1, zif_t, zif_f, zsF_s, zsF_k, zsF_a, zsC_s, zsC_a, zsC_i, zsW_s, zsW_a, Int.add_zero, Int.zero_add, true_and, false_and, and_false, Bool.false_eq_true, decide_true, decide_false, Bool.true_and, Bool.false_and, Bool.true_or, Bool.false_or, sub1, and_true, if_pos, if_neg, wv_72 S, wr_768 S, wr_769 S, wr_777 S, wr_785 S, wr_786 S, wr_787 S, wr_789 S, wr_790 S, wr_791 S, wr_802 S, wr_803 S, wr_804 S, wr_805 S, wr_806 S, wr_807 S, wr_809 S, wg_770 S, wp_770 S, wg_771 S, wp_771 S, wg_772 S, wp_772 S, wg_773 S, wp_773 S, wg_774 S, wp_774 S, wg_775 S, wp_775 S, wg_776 S, wp_776 S, wg_778 S, wp_778 S, wg_779 S, wp_779 S, wg_780 S, wp_780 S, wg_781 S, wp_781 S, wg_782 S, wp_782 S, wg_783 S, wp_783 S, wg_784 S, wp_784 S, wg_788 S, wp_788 S, wg_792 S, wp_792 S, wg_793 S, wp_793 S, wg_794 S, wp_794 S, wg_795 S, wp_795 S, wg_796 S, wp_796 S, wg_797 S, wp_797 S, wg_798 S, wp_798 S, wg_799 S, wp_799 S, wg_800 S, wp_800 S, wg_801 S, wp_801 S, wg_808 S, wp_808 S, wg_810 S, wp_810 S, wa_86 S, ws_86 S, wa_87 S, ws_87 S]
          · rw [zsC_a h2, zsC_a h1]
            exact i1 c h1 h2
          · by_cases z : q = k
            · rw [z]
              exact ⟨by simp (disch := omega) only [if_true, if_false, not_true_eq_false, not_false_eq_true, zoI_s, zoR_s, zoH_s, zoL_s, zbI_s, zbV_s, zbR_s, zbL_s, zif_dec, i32_0, ne_eq, i32_lt, i32_le, i32_eq, i32_add, i32_mul, i32_sub, i32_neg, zrz_0, zrz_1, zif_t, zif_f, zsF_s, zsF_k, zsF_a, zsC_s, zsC_a, zsC_i, zsW_s, zsW_a, Int.add_zero, Int.zero_add, true_and, false_and, and_false, Bool.false_eq_true, decide_true, decide_false, Bool.true_and, Bool.false_and, Bool.true_or, Bool.false_or, sub1, and_true, if_pos, if_neg], by simp (disch := omega) only [if_true, if_false, not_true_eq_false, not_false_eq_true, zoI_s, zoR_s, zoH_s, zoL_s, zbI_s, zbV_s, zbR_s, zbL_s, zif_dec, i32_0, ne_eq, i32_lt, i32_le, i32_eq, i32_add, i32_mul, i32_sub, i32_neg, zrz_0, zrz_1, zif_t, zif_f, zsF_s, zsF_k, zsF_a, zsC_s, zsC_a, zsC_i, zsW_s, zsW_a, Int.add_zero, Int.zero_add, true_and, false_and, and_false, Bool.false_eq_true, decide_true, decide_false, Bool.true_and, Bool.false_and, Bool.true_or, Bool.false_or, sub1, and_true, if_pos, if_neg]⟩
            · have := i2 q q0 (by omega)
              exact ⟨by simp (disch := omega) only [if_true, if_false, not_true_eq_false, not_false_eq_true, zoI_s, zoR_s, zoH_s, zoL_s, zbI_s, zbV_s, zbR_s, zbL_s, zif_dec, i32_0, ne_eq, i32_lt, i32_le, i32_eq, i32_add, i32_mul, i32_sub, i32_neg, zrz_0, zrz_1, zif_t, zif_f, zsF_s, zsF_k, zsF_a, zsC_s, zsC_a, zsC_i, zsW_s, zsW_a, Int.add_zero, Int.zero_add, true_and, false_and, and_false, Bool.false_eq_true, decide_true, decide_false, Bool.true_and, Bool.false_and, Bool.true_or, Bool.false_or, sub1, and_true, if_pos, if_neg]; exact this.1, by simp (disch := omega) only [if_true, if_false, not_true_eq_false, not_false_eq_true, zoI_s, zoR_s, zoH_s, zoL_s, zbI_s, zbV_s, zbR_s, zbL_s, zif_dec, i32_0, ne_eq, i32_lt, i32_le, i32_eq, i32_add, i32_mul, i32_sub, i32_neg, zrz_0, zrz_1, zif_t, zif_f, zsF_s, zsF_k, zsF_a, zsC_s, zsC_a, zsC_i, zsW_s, zsW_a, Int.add_zero, Int.zero_add, true_and, false_and, and_false, Bool.false_eq_true, decide_true, decide_false, Bool.true_and, Bool.false_and, Bool.true_or, Bool.false_or, sub1, and_true, if_pos, if_neg]; exact this.2⟩) C1 ⟨tq.rfl, fun c _ _ => rfl, fun q q0 q1 => by omega⟩
        have R2 : mrR (dOf (C 73) d) F1 C2 (zsC (begX (dOf (C 73) d)) 0 82 1) := by
          obtain ⟨_, ⟨i0, i1, i2, i3, i4, i5, i6, i7, i8, i9⟩, q1, q2, q3⟩ := R1
          refine ⟨⟨i0, i1, i2, i3, i4, i5, i6, i7, fun z => absurd z (show (1 : Int) ≠ 0 by decide), i9⟩, ?_, ?_, ?_⟩
          · rw [z2 82 (by omega) (by omega), z2 83 (by omega) (by omega)]; exact q1
          · rw [z2 84 (by omega) (by omega)]; exact q2
          · rw [z2 85 (by omega) (by omega)]; exact q3
        have M2 : moV F1 C2 (dOf (C 73) d) := M1.cg (z2 73 (by omega) (by omega)) rfl rfl rfl rfl
        have N2 : moY F1 C2 (yOf (C 73) y) := by unfold moY; rw [z2 73 (by omega) (by omega)]; exact N1
        obtain ⟨F3, C3, e3, t3, M3, R3, K3, r5, r6⟩ := m_afterL S O Oy (d := d) (y := y) (w := w) 40 (zsC (begX (dOf (C 73) d)) 0 82 1) F1 C2 none M2 N2 R2 (cOK.beg O) rfl (Or.inl ⟨rfl, rfl⟩) (fun q q0 q1 => (z3 q q0 q1).1) (fun q q0 q1 => (z3 q q0 (by omega)).2) (show yOf (C 73) y 0 ≤ 0 + ((40 : Nat) : Int) by omega) (show 0 ≤ yOf (C 73) y 0 by omega)
        have K4 : cOK (dOf (C 73) d) (runX (dOf (C 73) d) (yOf (C 73) y) (yOf (C 73) y 0) 40 (zsC (begX (dOf (C 73) d)) 0 82 1)) 40 := K3.mono (by have := runX_le (D := dOf (C 73) d) (Y := yOf (C 73) y) (n := yOf (C 73) y 0) 40 (zsC (begX (dOf (C 73) d)) 0 82 1) (show (0 : Int) ≤ yOf (C 73) y 0 by omega); omega)
        have e4 := m_after154 S O M3 R3 K4 (by omega) r5 r6 (d := d) (y := y) (w := w) c3.1 c3.2
        refine ⟨F3, C3, ?_, (((miF_tq d).sF (by omega) (by omega)).trans (R1.1.1.trans t2)).trans t3⟩
        simp (disch := omega) only [if_true, if_false, not_true_eq_false, not_false_eq_true, zoI_s, zoR_s, zoH_s, zoL_s, zbI_s, zbV_s, zbR_s, zbL_s, zif_dec, i32_0, ne_eq, i32_lt, i32_le, i32_eq, i32_add, i32_mul, i32_sub, i32_neg, zrz_0, zrz_1, zif_t, zif_f, zsF_s, zsF_k, zsF_a, zsC_s, zsC_a, zsC_i, zsW_s, zsW_a, Int.add_zero, Int.zero_add, true_and, false_and, and_false, Bool.false_eq_true, decide_true, decide_false, Bool.true_and, Bool.false_and, Bool.true_or, Bool.false_or, sub1, and_true, if_pos, if_neg, wv_72 S, wr_768 S, wr_769 S, wr_777 S, wr_785 S, wr_786 S, wr_787 S, wr_789 S, wr_790 S, wr_791 S, wr_802 S, wr_803 S, wr_804 S, wr_805 S, wr_806 S, wr_807 S, wr_809 S, wg_770 S, wp_770 S, wg_771 S, wp_771 S, wg_772 S, wp_772 S, wg_773 S, wp_773 S, wg_774 S, wp_774 S, wg_775 S, wp_775 S, wg_776 S, wp_776 S, wg_778 S, wp_778 S, wg_779 S, wp_779 S, wg_780 S, wp_780 S, wg_781 S, wp_781 S, wg_782 S, wp_782 S, wg_783 S, wp_783 S, wg_784 S, wp_784 S, wg_788 S, wp_788 S, wg_792 S, wp_792 S, wg_793 S, wp_793 S, wg_794 S, wp_794 S, wg_795 S, wp_795 S, wg_796 S, wp_796 S, wg_797 S, wp_797 S, wg_798 S, wp_798 S, wg_799 S, wp_799 S, wg_800 S, wp_800 S, wg_801 S, wp_801 S, wg_808 S, wp_808 S, wg_810 S, wp_810 S, m_isD Q, m_isY Q1, m_isIn, ib_0, e_Model_after, e1]
        rw [e2, e_Model_after_19]
        simp (disch := omega) only [if_true, if_false, not_true_eq_false, not_false_eq_true, zoI_s, zoR_s, zoH_s, zoL_s, zbI_s, zbV_s, zbR_s, zbL_s, zif_dec, i32_0, ne_eq, i32_lt, i32_le, i32_eq, i32_add, i32_mul, i32_sub, i32_neg, zrz_0, zrz_1, zif_t, zif_f, zsF_s, zsF_k, zsF_a, zsC_s, zsC_a, zsC_i, zsW_s, zsW_a, Int.add_zero, Int.zero_add, true_and, false_and, and_false, Bool.false_eq_true, decide_true, decide_false, Bool.true_and, Bool.false_and, Bool.true_or, Bool.false_or, sub1, and_true, if_pos, if_neg]
        exact e3.trans e4
      · refine ⟨_, C, ?_, (miF_tq d).sF (k := 792) (a := 72) (x := 698 + 241 * y) (by omega) (by omega)⟩
        simp (disch := omega) only [if_true, if_false, not_true_eq_false, not_false_eq_true, zoI_s, zoR_s, zoH_s, zoL_s, zbI_s, zbV_s, zbR_s, zbL_s, zif_dec, i32_0, ne_eq, i32_lt, i32_le, i32_eq, i32_add, i32_mul, i32_sub, i32_neg, zrz_0, zrz_1, zif_t, zif_f, zsF_s, zsF_k, zsF_a, zsC_s, zsC_a, zsC_i, zsW_s, zsW_a, Int.add_zero, Int.zero_add, true_and, false_and, and_false, Bool.false_eq_true, decide_true, decide_false, Bool.true_and, Bool.false_and, Bool.true_or, Bool.false_or, sub1, and_true, if_pos, if_neg, wv_72 S, wr_768 S, wr_769 S, wr_777 S, wr_785 S, wr_786 S, wr_787 S, wr_789 S, wr_790 S, wr_791 S, wr_802 S, wr_803 S, wr_804 S, wr_805 S, wr_806 S, wr_807 S, wr_809 S, wg_770 S, wp_770 S, wg_771 S, wp_771 S, wg_772 S, wp_772 S, wg_773 S, wp_773 S, wg_774 S, wp_774 S, wg_775 S, wp_775 S, wg_776 S, wp_776 S, wg_778 S, wp_778 S, wg_779 S, wp_779 S, wg_780 S, wp_780 S, wg_781 S, wp_781 S, wg_782 S, wp_782 S, wg_783 S, wp_783 S, wg_784 S, wp_784 S, wg_788 S, wp_788 S, wg_792 S, wp_792 S, wg_793 S, wp_793 S, wg_794 S, wp_794 S, wg_795 S, wp_795 S, wg_796 S, wp_796 S, wg_797 S, wp_797 S, wg_798 S, wp_798 S, wg_799 S, wp_799 S, wg_800 S, wp_800 S, wg_801 S, wp_801 S, wg_808 S, wp_808 S, wg_810 S, wp_810 S, m_isD Q, m_isY Q1, m_isIn, ib_0, e_Model_after]
    · refine ⟨_, C, ?_, miF_tq d⟩
      simp (disch := omega) only [if_true, if_false, not_true_eq_false, not_false_eq_true, zoI_s, zoR_s, zoH_s, zoL_s, zbI_s, zbV_s, zbR_s, zbL_s, zif_dec, i32_0, ne_eq, i32_lt, i32_le, i32_eq, i32_add, i32_mul, i32_sub, i32_neg, zrz_0, zrz_1, zif_t, zif_f, zsF_s, zsF_k, zsF_a, zsC_s, zsC_a, zsC_i, zsW_s, zsW_a, Int.add_zero, Int.zero_add, true_and, false_and, and_false, Bool.false_eq_true, decide_true, decide_false, Bool.true_and, Bool.false_and, Bool.true_or, Bool.false_or, sub1, and_true, if_pos, if_neg, wv_72 S, wr_768 S, wr_769 S, wr_777 S, wr_785 S, wr_786 S, wr_787 S, wr_789 S, wr_790 S, wr_791 S, wr_802 S, wr_803 S, wr_804 S, wr_805 S, wr_806 S, wr_807 S, wr_809 S, wg_770 S, wp_770 S, wg_771 S, wp_771 S, wg_772 S, wp_772 S, wg_773 S, wp_773 S, wg_774 S, wp_774 S, wg_775 S, wp_775 S, wg_776 S, wp_776 S, wg_778 S, wp_778 S, wg_779 S, wp_779 S, wg_780 S, wp_780 S, wg_781 S, wp_781 S, wg_782 S, wp_782 S, wg_783 S, wp_783 S, wg_784 S, wp_784 S, wg_788 S, wp_788 S, wg_792 S, wp_792 S, wg_793 S, wp_793 S, wg_794 S, wp_794 S, wg_795 S, wp_795 S, wg_796 S, wp_796 S, wg_797 S, wp_797 S, wg_798 S, wp_798 S, wg_799 S, wp_799 S, wg_800 S, wp_800 S, wg_801 S, wp_801 S, wg_808 S, wp_808 S, wg_810 S, wp_810 S, m_isD Q, m_isY0 Q1, e_Model_after]
  · refine ⟨F, C, ?_, tq.rfl⟩
    simp (disch := omega) only [if_true, if_false, not_true_eq_false, not_false_eq_true, zoI_s, zoR_s, zoH_s, zoL_s, zbI_s, zbV_s, zbR_s, zbL_s, zif_dec, i32_0, ne_eq, i32_lt, i32_le, i32_eq, i32_add, i32_mul, i32_sub, i32_neg, zrz_0, zrz_1, zif_t, zif_f, zsF_s, zsF_k, zsF_a, zsC_s, zsC_a, zsC_i, zsW_s, zsW_a, Int.add_zero, Int.zero_add, true_and, false_and, and_false, Bool.false_eq_true, decide_true, decide_false, Bool.true_and, Bool.false_and, Bool.true_or, Bool.false_or, sub1, and_true, if_pos, if_neg, wv_72 S, wr_768 S, wr_769 S, wr_777 S, wr_785 S, wr_786 S, wr_787 S, wr_789 S, wr_790 S, wr_791 S, wr_802 S, wr_803 S, wr_804 S, wr_805 S, wr_806 S, wr_807 S, wr_809 S, wg_770 S, wp_770 S, wg_771 S, wp_771 S, wg_772 S, wp_772 S, wg_773 S, wp_773 S, wg_774 S, wp_774 S, wg_775 S, wp_775 S, wg_776 S, wp_776 S, wg_778 S, wp_778 S, wg_779 S, wp_779 S, wg_780 S, wp_780 S, wg_781 S, wp_781 S, wg_782 S, wp_782 S, wg_783 S, wp_783 S, wg_784 S, wp_784 S, wg_788 S, wp_788 S, wg_792 S, wp_792 S, wg_793 S, wp_793 S, wg_794 S, wp_794 S, wg_795 S, wp_795 S, wg_796 S, wp_796 S, wg_797 S, wp_797 S, wg_798 S, wp_798 S, wg_799 S, wp_799 S, wg_800 S, wp_800 S, wg_801 S, wp_801 S, wg_808 S, wp_808 S, wg_810 S, wp_810 S, m_isD0 Q, e_Model_after]
