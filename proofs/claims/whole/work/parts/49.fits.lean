/-! fits: the reeds that a log may tell of -/
def soW (D L : Int → Int) (w k : Int) : Bool := alB (fun i => decide (noteS D (driS w i) k (D 3) (L (1 + 3 * i)) (L (2 + 3 * i)) = L (3 + 3 * i))) (L 0)
def soB (D L : Int → Int) (c : Int) : Bool := soW D L (c / 8) (c % 8)
def thB (D L : Int → Int) : Bool := alB (fun i => decide (L (1 + 3 * i) < D 1) && decide (L (2 + 3 * i) < D 2)) (L 0)
def cnS (T : Int → Bool) (k : Int) : Int := sm (fun c => if T c = true then 1 else 0) k
def nthS (T : Int → Bool) (i : Int) : Int := fstF (fun c => T c && decide (cnS T c = i)) 0 80
def surV (T : Int → Bool) (g : Int → Int) (k : Int) : Int := if cnS T k = 0 then -1 else if alB (fun c => !T c || decide (g c = g (nthS T 0))) k = true then g (nthS T 0) else -2
def surS (T : Int → Bool) (g : Int → Int) : Int := if surV T g 80 < 0 then -1 else surV T g 80
def whoF (D L : Int → Int) (r s : Int) : Int := if soW D L (D (4 + 2 * r)) (D (5 + 2 * r)) = true then orI s r else s
def whoS (D L : Int → Int) : Int := foldF (whoF D L) 0 (D 0).toNat 0
def grB (T : Int → Bool) (n : Int → Int) (c : Int) (t : (Int → Int) × Int) : (Int → Int) × Int := if T c = true then (up1 t.1 (n c) (t.1 (n c) + 1), if t.2 < t.1 (n c) + 1 then t.1 (n c) + 1 else t.2) else t
def grtS (T : Int → Bool) (n : Int → Int) : Int := (foldF (grB T n) 0 80 (fun _ => 0, 0)).2
def nuS (D L : Int → Int) (p q c : Int) : Int := noteS D (driS (c / 8) (L 0)) (c % 8) (D 3) p q
def nxqF (D L : Int → Int) (p q : Int) (t : Int × Int) : Int × Int := if grtS (soB D L) (nuS D L p q) < t.2 then (10 * p + q, grtS (soB D L) (nuS D L p q)) else t
def nxpF (D L : Int → Int) (p : Int) (t : Int × Int) : Int × Int := foldF (nxqF D L p) 0 (D 2).toNat t
def nxtS (D L : Int → Int) : Int := (foldF (nxpF D L) 0 (D 1).toNat (-1, 99)).1
def fitS (D L : Int → Int) (w : Int) : Int := if w = 0 then cnS (soB D L) 80 else if w = 1 then surS (soB D L) (fun c => c / 8) else if w = 2 then surS (soB D L) (fun c => c % 8) else if w = 3 then whoS D L else if w = 4 then (if cnS (soB D L) 80 = 0 then -1 else nxtS D L) else if 10 ≤ w ∧ nthS (soB D L) (w - 10) ≠ -1 then nthS (soB D L) (w - 10) else -2
theorem cnS_0 (T : Int → Bool) : cnS T 0 = 0 := sm_0 _
theorem cnS_succ (T : Int → Bool) {k : Int} (h : 0 ≤ k) : cnS T (k + 1) = cnS T k + if T k = true then 1 else 0 := sm_succ _ h
theorem cnS_rng (T : Int → Bool) {k : Int} (h : 0 ≤ k) : 0 ≤ cnS T k ∧ cnS T k ≤ k := by
  have := sm_rng (f := fun c => if T c = true then (1 : Int) else 0) (n := k) (lo := 0) (hi := 1) h (fun c _ _ => by split <;> omega)
  unfold cnS
  omega
theorem cnS_mono (T : Int → Bool) {i : Int} (i0 : 0 ≤ i) : ∀ j : Nat, cnS T i ≤ cnS T (i + j) := by
  intro j
  induction j with
  | zero => rw [show i + ((0 : Nat) : Int) = i by omega]; omega
  | succ j ih =>
    rw [show i + ((j + 1 : Nat) : Int) = i + j + 1 by omega, cnS_succ T (by omega)]
    split <;> omega
theorem cnS_lt {T : Int → Bool} {c k : Int} (c0 : 0 ≤ c) (h : c < k) (hc : T c = true) : cnS T c < cnS T k := by
  have := cnS_mono T (i := c + 1) (by omega) (k - (c + 1)).toNat
  rw [show c + 1 + (((k - (c + 1)).toNat : Nat) : Int) = k by omega, cnS_succ T c0, if_pos hc] at this
  omega
theorem cnS_inj {T : Int → Bool} {c e : Int} (c0 : 0 ≤ c) (e0 : 0 ≤ e) (hc : T c = true) (he : T e = true) (h : cnS T c = cnS T e) : c = e := by
  rcases (show c < e ∨ c = e ∨ e < c by omega) with z | z | z
  · have := cnS_lt c0 z hc; omega
  · exact z
  · have := cnS_lt e0 z he; omega
/-- f lists those below k -/
def lstP (T : Int → Bool) (k : Int) (f : Int → Int) : Prop := ∀ i, 0 ≤ i → i < cnS T k → 0 ≤ f i ∧ f i < k ∧ T (f i) = true ∧ cnS T (f i) = i
theorem lst_at {T : Int → Bool} {k : Int} {f : Int → Int} (h : lstP T k f) {c : Int} (c0 : 0 ≤ c) (c1 : c < k) (hc : T c = true) : f (cnS T c) = c := by
  have r := cnS_rng T c0
  have g := h (cnS T c) r.1 (cnS_lt c0 c1 hc)
  exact cnS_inj g.1 c0 g.2.2.1 hc g.2.2.2
theorem nth_eq {T : Int → Bool} {c i : Int} (c0 : 0 ≤ c) (c1 : c < 80) (hc : T c = true) (hi : cnS T c = i) : nthS T i = c := by
  rcases fstF_spec (fun c => T c && decide (cnS T c = i)) 80 0 (by omega) with ⟨_, k2⟩ | ⟨k1, k2, k3, _⟩
  · have := k2 c c0 (by omega)
    rw [hc, decide_eq_true hi] at this
    cases this
  · rw [Bool.and_eq_true] at k3
    exact cnS_inj k1 c0 k3.1 hc ((of_decide_eq_true k3.2).trans hi.symm)
theorem nth_none {T : Int → Bool} {i : Int} (h : cnS T 80 ≤ i) : nthS T i = -1 := by
  rcases fstF_spec (fun c => T c && decide (cnS T c = i)) 80 0 (by omega) with ⟨k1, _⟩ | ⟨k1, k2, k3, _⟩
  · exact k1
  · rw [Bool.and_eq_true] at k3
    have := cnS_lt (k := 80) k1 (by omega) k3.1
    have := of_decide_eq_true k3.2
    omega
theorem nth_lst {T : Int → Bool} {f : Int → Int} (h : lstP T 80 f) {i : Int} (i0 : 0 ≤ i) (i1 : i < cnS T 80) : nthS T i = f i := by
  have g := h i i0 i1
  exact nth_eq g.1 g.2.1 g.2.2.1 g.2.2.2
theorem fold_end {A : Type} (f : Int → A → A) : ∀ (j : Nat) (k : Int) (a : A), foldF f k (j + 1) a = f (k + j) (foldF f k j a) := by
  intro j
  induction j with
  | zero => intro k a; rw [foldF, foldF, foldF, show k + ((0 : Nat) : Int) = k by omega]
  | succ j ih =>
    intro k a
    rw [foldF, ih (k + 1) (f k a), foldF, show k + 1 + (j : Int) = k + ((j + 1 : Nat) : Int) by omega]
/-- what goes along the list goes along the codes -/
theorem lst_fold {A : Type} {T : Int → Bool} {f : Int → Int} (h : lstP T 80 f) (b : Int → A → A) (a : A) : foldF (fun i a => b (f i) a) 0 (cnS T 80).toNat a = foldF (fun c a => if T c = true then b c a else a) 0 80 a := by
  have key : ∀ j : Nat, j ≤ 80 → foldF (fun i a => b (f i) a) 0 (cnS T j).toNat a = foldF (fun c a => if T c = true then b c a else a) 0 j a := by
    intro j
    induction j with
    | zero => intro _; rw [show ((0 : Nat) : Int) = 0 from rfl, cnS_0]; rfl
    | succ j ih =>
      intro hj
      have r := cnS_rng T (k := j) (by omega)
      rw [fold_end, ← ih (by omega), show ((j + 1 : Nat) : Int) = (j : Int) + 1 from rfl, cnS_succ T (by omega), show (0 : Int) + (j : Int) = j by omega]
      by_cases c : T j = true
      · rw [if_pos c, if_pos c, show (cnS T j + 1).toNat = (cnS T j).toNat + 1 by omega, fold_end, show (0 : Int) + (((cnS T j).toNat : Nat) : Int) = cnS T j by omega, lst_at h (by omega) (by omega) c]
      · rw [if_neg c, if_neg c, Int.add_zero]
  exact key 80 (by omega)
theorem gr_rng (T : Int → Bool) (n : Int → Int) : ∀ k, 0 ≤ k → k ≤ 80 → (∀ v, 0 ≤ (foldF (grB T n) 0 k.toNat (fun _ => 0, 0)).1 v ∧ (foldF (grB T n) 0 k.toNat (fun _ => 0, 0)).1 v ≤ cnS T k) ∧ 0 ≤ (foldF (grB T n) 0 k.toNat (fun _ => 0, 0)).2 ∧ (foldF (grB T n) 0 k.toNat (fun _ => 0, 0)).2 ≤ cnS T k := by
  intro k k0 k1
  have := foldI (grB T n) (fun k t => (∀ v, 0 ≤ t.1 v ∧ t.1 v ≤ cnS T k) ∧ 0 ≤ t.2 ∧ t.2 ≤ cnS T k) 0 k k0 (fun c t c0 c1 hi => by
    unfold grB
    rw [cnS_succ T c0]
    by_cases ct : T c = true
    · rw [if_pos ct, if_pos ct]
      have hc := hi.1 (n c)
      refine ⟨fun v => ?_, ?_⟩
      · dsimp only
        by_cases cv : v = n c
        · rw [cv, up1_s]; omega
        · rw [up1_n cv]; have := hi.1 v; omega
      · dsimp only; split <;> omega
    · rw [if_neg ct, if_neg ct, Int.add_zero]; exact hi) (fun _ => 0, 0) ⟨fun v => by dsimp only; rw [cnS_0]; omega, by dsimp only; rw [cnS_0]; omega⟩
  rw [Int.sub_zero] at this
  exact this
theorem grt_rng (T : Int → Bool) (n : Int → Int) : 0 ≤ grtS T n ∧ grtS T n ≤ cnS T 80 := (gr_rng T n 80 (by omega) (by omega)).2
section FI
variable {h : zHeap} {F : Nat → Nat → Int} {C : Nat → Int → Int} {a b : Nat} {D L : Int → Int}
theorem c_knows (H : duS h a) (V : duV F C a D) (O : dOK D) (Hl : loS h b) (W : loV F C b L) (P : lOK L) : zc 43 [zR (some a), zR (some b)] (zw h F C) = some (zI (i32 (if thB D L = true then 1 else 0)), zw h F C) := by
  have p0 := P.1
  have L1 := zall_ (fun i => zr 43 2 [yR (some a), yR (some b), yI (i32 i)] [] (zw h F C)) (some (zI (i32 0), zw h F C)) (fun i => decide (L (1 + 3 * i) < D 1) && decide (L (2 + 3 * i) < D 2)) (L 0) (by omega) (fun i i0 i1 hp => by
    rw [Bool.and_eq_true] at hp
    have c1 := of_decide_eq_true hp.1
    have c2 := of_decide_eq_true hp.2
    have g := P.2 i i0 i1
    have w := W.2 i i0 i1
    rw [e_Duchy_knows_2]
    simp (disch := omega) only [if_true, if_false, not_true_eq_false, not_false_eq_true, zoI_s, zoR_s, zoH_s, zoL_s, zbI_s, zbV_s, zbR_s, zbL_s, zif_dec, i32_0, ne_eq, i32_lt, i32_le, i32_eq, i32_add, i32_mul, i32_sub, i32_neg, zrz_0, zrz_1, zif_t, zif_f, zsF_s, zsF_k, zsF_a, zsC_s, zsC_a, zsC_i, zsW_s, zsW_a, Int.add_zero, Int.zero_add, true_and, false_and, and_false, Bool.false_eq_true, decide_true, decide_false, Bool.true_and, Bool.false_and, Bool.true_or, Bool.false_or, sub1, if_pos, if_neg, dv H, dg_128 H, dp_128 H, dg_129 H, dp_129 H, dg_130 H, dp_130 H, dg_131 H, dp_131 H, dr_132 H, da_132 H, dr_133 H, da_133 H, dr_134 H, da_134 H, dr_135 H, da_135 H, dr_136 H, da_136 H, dr_137 H, da_137 H, lv Hl, lg_192 Hl, lr_193 Hl, la_193 Hl, lr_194 Hl, la_194 Hl, lr_195 Hl, la_195 Hl, W.1, w.1, w.2.1, c_hasPlayer H V O, c_hasQuestion H V O, ib_0]) (fun i i0 i1 hp => by
    have g := P.2 i i0 i1
    have w := W.2 i i0 i1
    rw [e_Duchy_knows_2]
    by_cases c1 : L (1 + 3 * i) < D 1
    · by_cases c2 : L (2 + 3 * i) < D 2
      · rw [decide_eq_true c1, decide_eq_true c2] at hp; cases hp
      · simp (disch := omega) only [if_true, if_false, not_true_eq_false, not_false_eq_true, zoI_s, zoR_s, zoH_s, zoL_s, zbI_s, zbV_s, zbR_s, zbL_s, zif_dec, i32_0, ne_eq, i32_lt, i32_le, i32_eq, i32_add, i32_mul, i32_sub, i32_neg, zrz_0, zrz_1, zif_t, zif_f, zsF_s, zsF_k, zsF_a, zsC_s, zsC_a, zsC_i, zsW_s, zsW_a, Int.add_zero, Int.zero_add, true_and, false_and, and_false, Bool.false_eq_true, decide_true, decide_false, Bool.true_and, Bool.false_and, Bool.true_or, Bool.false_or, sub1, if_pos, if_neg, dv H, dg_128 H, dp_128 H, dg_129 H, dp_129 H, dg_130 H, dp_130 H, dg_131 H, dp_131 H, dr_132 H, da_132 H, dr_133 H, da_133 H, dr_134 H, da_134 H, dr_135 H, da_135 H, dr_136 H, da_136 H, dr_137 H, da_137 H, lv Hl, lg_192 Hl, lr_193 Hl, la_193 Hl, lr_194 Hl, la_194 Hl, lr_195 Hl, la_195 Hl, W.1, w.1, w.2.1, c_hasPlayer H V O, c_hasQuestion H V O, ib_0]
    · simp (disch := omega) only [if_true, if_false, not_true_eq_false, not_false_eq_true, zoI_s, zoR_s, zoH_s, zoL_s, zbI_s, zbV_s, zbR_s, zbL_s, zif_dec, i32_0, ne_eq, i32_lt, i32_le, i32_eq, i32_add, i32_mul, i32_sub, i32_neg, zrz_0, zrz_1, zif_t, zif_f, zsF_s, zsF_k, zsF_a, zsC_s, zsC_a, zsC_i, zsW_s, zsW_a, Int.add_zero, Int.zero_add, true_and, false_and, and_false, Bool.false_eq_true, decide_true, decide_false, Bool.true_and, Bool.false_and, Bool.true_or, Bool.false_or, sub1, if_pos, if_neg, dv H, dg_128 H, dp_128 H, dg_129 H, dp_129 H, dg_130 H, dp_130 H, dg_131 H, dp_131 H, dr_132 H, da_132 H, dr_133 H, da_133 H, dr_134 H, da_134 H, dr_135 H, da_135 H, dr_136 H, da_136 H, dr_137 H, da_137 H, lv Hl, lg_192 Hl, lr_193 Hl, la_193 Hl, lr_194 Hl, la_194 Hl, lr_195 Hl, la_195 Hl, W.1, w.1, w.2.1, c_hasPlayer H V O, ib_0])
  rw [e_Duchy_knows, L1, show alB (fun i => decide (L (1 + 3 * i) < D 1) && decide (L (2 + 3 * i) < D 2)) (L 0) = thB D L from rfl, e_Duchy_knows_2]
  cases thB D L with
  | true => simp (disch := omega) only [if_true, if_false, not_true_eq_false, not_false_eq_true, zoI_s, zoR_s, zoH_s, zoL_s, zbI_s, zbV_s, zbR_s, zbL_s, zif_dec, i32_0, ne_eq, i32_lt, i32_le, i32_eq, i32_add, i32_mul, i32_sub, i32_neg, zrz_0, zrz_1, zif_t, zif_f, zsF_s, zsF_k, zsF_a, zsC_s, zsC_a, zsC_i, zsW_s, zsW_a, Int.add_zero, Int.zero_add, true_and, false_and, and_false, Bool.false_eq_true, decide_true, decide_false, Bool.true_and, Bool.false_and, Bool.true_or, Bool.false_or, sub1, if_pos, if_neg, lv Hl, lg_192 Hl, lr_193 Hl, la_193 Hl, lr_194 Hl, la_194 Hl, lr_195 Hl, la_195 Hl, W.1]
  | false => simp (disch := omega) only [if_true, if_false, not_true_eq_false, not_false_eq_true, zoI_s, zoR_s, zoH_s, zoL_s, zbI_s, zbV_s, zbR_s, zbL_s, zif_dec, i32_0, ne_eq, i32_lt, i32_le, i32_eq, i32_add, i32_mul, i32_sub, i32_neg, zrz_0, zrz_1, zif_t, zif_f, zsF_s, zsF_k, zsF_a, zsC_s, zsC_a, zsC_i, zsW_s, zsW_a, Int.add_zero, Int.zero_add, true_and, false_and, and_false, Bool.false_eq_true, decide_true, decide_false, Bool.true_and, Bool.false_and, Bool.true_or, Bool.false_or, sub1, if_pos, if_neg]
theorem th_at (h : thB D L = true) {i : Int} (i0 : 0 ≤ i) (i1 : i < L 0) : L (1 + 3 * i) < D 1 ∧ L (2 + 3 * i) < D 2 := by
  have := (alB_iff _ _).mp h i i0 i1
  rw [Bool.and_eq_true] at this
  exact ⟨of_decide_eq_true this.1, of_decide_eq_true this.2⟩
theorem c_agrees (H : duS h a) (V : duV F C a D) (O : dOK D) (Hl : loS h b) (W : loV F C b L) (P : lOK L) (T : thB D L = true) {w k : Int} (w0 : 0 ≤ w) (w1 : w ≤ 9) (k0 : 0 ≤ k) (k1 : k ≤ 7) : zc 125 [zR (some a), zR (some b), zI (i32 w), zI (i32 k)] (zw h F C) = some (zI (i32 (if soW D L w k = true then 1 else 0)), zw h F C) := by
  have p0 := P.1
  have b6 := O.2.2.2.1
  have L1 := zall_ (fun i => zr 125 2 [yR (some a), yR (some b), yI (i32 w), yI (i32 k), yI (i32 i), none] [] (zw h F C)) (some (zI (i32 0), zw h F C)) (fun i => decide (noteS D (driS w i) k (D 3) (L (1 + 3 * i)) (L (2 + 3 * i)) = L (3 + 3 * i))) (L 0) (by omega) (fun i i0 i1 hp => by
    have c := of_decide_eq_true hp
    have g := P.2 i i0 i1
    have t := th_at T i0 i1
    have v := W.2 i i0 i1
    have dr := driS_rng (n := i) w0 w1 i0
    rw [e_Suspects_agrees_2]
    simp (disch := omega) only [if_true, if_false, not_true_eq_false, not_false_eq_true, zoI_s, zoR_s, zoH_s, zoL_s, zbI_s, zbV_s, zbR_s, zbL_s, zif_dec, i32_0, ne_eq, i32_lt, i32_le, i32_eq, i32_add, i32_mul, i32_sub, i32_neg, zrz_0, zrz_1, zif_t, zif_f, zsF_s, zsF_k, zsF_a, zsC_s, zsC_a, zsC_i, zsW_s, zsW_a, Int.add_zero, Int.zero_add, true_and, false_and, and_false, Bool.false_eq_true, decide_true, decide_false, Bool.true_and, Bool.false_and, Bool.true_or, Bool.false_or, sub1, if_pos, if_neg, dv H, dg_128 H, dp_128 H, dg_129 H, dp_129 H, dg_130 H, dp_130 H, dg_131 H, dp_131 H, dr_132 H, da_132 H, dr_133 H, da_133 H, dr_134 H, da_134 H, dr_135 H, da_135 H, dr_136 H, da_136 H, dr_137 H, da_137 H, lv Hl, lg_192 Hl, lr_193 Hl, la_193 Hl, lr_194 Hl, la_194 Hl, lr_195 Hl, la_195 Hl, W.1, v.1, v.2.1, v.2.2, V.1.2.2.2, c_dried, c_noteAt H V O, c, d_Suspects_agrees_2_w5]) (fun i i0 i1 hp => by
    have c := of_decide_eq_false hp
    have g := P.2 i i0 i1
    have t := th_at T i0 i1
    have v := W.2 i i0 i1
    have dr := driS_rng (n := i) w0 w1 i0
    have nr := noteS_rng (D := D) (w := driS w i) (k := k) (c := D 3) (p := L (1 + 3 * i)) (q := L (2 + 3 * i))
    rw [e_Suspects_agrees_2]
    simp (disch := omega) only [if_true, if_false, not_true_eq_false, not_false_eq_true, zoI_s, zoR_s, zoH_s, zoL_s, zbI_s, zbV_s, zbR_s, zbL_s, zif_dec, i32_0, ne_eq, i32_lt, i32_le, i32_eq, i32_add, i32_mul, i32_sub, i32_neg, zrz_0, zrz_1, zif_t, zif_f, zsF_s, zsF_k, zsF_a, zsC_s, zsC_a, zsC_i, zsW_s, zsW_a, Int.add_zero, Int.zero_add, true_and, false_and, and_false, Bool.false_eq_true, decide_true, decide_false, Bool.true_and, Bool.false_and, Bool.true_or, Bool.false_or, sub1, if_pos, if_neg, dv H, dg_128 H, dp_128 H, dg_129 H, dp_129 H, dg_130 H, dp_130 H, dg_131 H, dp_131 H, dr_132 H, da_132 H, dr_133 H, da_133 H, dr_134 H, da_134 H, dr_135 H, da_135 H, dr_136 H, da_136 H, dr_137 H, da_137 H, lv Hl, lg_192 Hl, lr_193 Hl, la_193 Hl, lr_194 Hl, la_194 Hl, lr_195 Hl, la_195 Hl, W.1, v.1, v.2.1, v.2.2, V.1.2.2.2, c_dried, c_noteAt H V O])
  rw [e_Suspects_agrees, L1, show alB (fun i => decide (noteS D (driS w i) k (D 3) (L (1 + 3 * i)) (L (2 + 3 * i)) = L (3 + 3 * i))) (L 0) = soW D L w k from rfl, e_Suspects_agrees_2]
  cases soW D L w k with
  | true => simp (disch := omega) only [if_true, if_false, not_true_eq_false, not_false_eq_true, zoI_s, zoR_s, zoH_s, zoL_s, zbI_s, zbV_s, zbR_s, zbL_s, zif_dec, i32_0, ne_eq, i32_lt, i32_le, i32_eq, i32_add, i32_mul, i32_sub, i32_neg, zrz_0, zrz_1, zif_t, zif_f, zsF_s, zsF_k, zsF_a, zsC_s, zsC_a, zsC_i, zsW_s, zsW_a, Int.add_zero, Int.zero_add, true_and, false_and, and_false, Bool.false_eq_true, decide_true, decide_false, Bool.true_and, Bool.false_and, Bool.true_or, Bool.false_or, sub1, if_pos, if_neg, lv Hl, lg_192 Hl, lr_193 Hl, la_193 Hl, lr_194 Hl, la_194 Hl, lr_195 Hl, la_195 Hl, W.1]
  | false => simp (disch := omega) only [if_true, if_false, not_true_eq_false, not_false_eq_true, zoI_s, zoR_s, zoH_s, zoL_s, zbI_s, zbV_s, zbR_s, zbL_s, zif_dec, i32_0, ne_eq, i32_lt, i32_le, i32_eq, i32_add, i32_mul, i32_sub, i32_neg, zrz_0, zrz_1, zif_t, zif_f, zsF_s, zsF_k, zsF_a, zsC_s, zsC_a, zsC_i, zsW_s, zsW_a, Int.add_zero, Int.zero_add, true_and, false_and, and_false, Bool.false_eq_true, decide_true, decide_false, Bool.true_and, Bool.false_and, Bool.true_or, Bool.false_or, sub1, if_pos, if_neg]
theorem c_gather (S : St h) (H : duS h a) (V : duV F C a D) (O : dOK D) (ha : a ≤ 28) (Hl : loS h b) (W : loV F C b L) (hb : b ≤ 31) (P : lOK L) (T : thB D L = true) : ∃ f, zc 124 [zR (some 65), zR (some a), zR (some b)] (zw h F C) = some (zI 0, zw h (zsF F 448 65 (cnS (soB D L) 80)) (zsW C 66 f)) ∧ lstP (soB D L) 80 f := by
  obtain ⟨f, L1, i1⟩ := zinv (fun c f => zr 124 5 [yR (some 65), yR (some a), yR (some b), yI (i32 c)] [] (zw h (zsF F 448 65 (cnS (soB D L) c)) (zsW C 66 f))) (fun c f => lstP (soB D L) c f) 0 80 (by omega) (fun c f c0 c1 hi => by
    have cr := cnS_rng (soB D L) c0
    have T1 : tq F C (zsF F 448 65 (cnS (soB D L) c)) (zsW C 66 f) := (tq.rfl.sF (by omega) (by omega)).sW (by omega) (by omega)
    have e := c_agrees H (V.tq T1 ha) O Hl (W.tq T1 hb) P T (w := c / 8) (k := c % 8) (by omega) (by omega) (by omega) (by omega)
    rw [show soW D L (c / 8) (c % 8) = soB D L c from rfl] at e
    have cs := cnS_succ (soB D L) c0
    cases ct : soB D L c with
    | true =>
      rw [ct] at e
      rw [ct, if_pos rfl] at cs
      refine ⟨up1 f (cnS (soB D L) c) c, ?_, fun i j0 j1 => ?_⟩
      · rw [e_Suspects_gather_5, cs]
        simp (disch := omega) only [if_true, if_false, not_true_eq_false, not_false_eq_true, zoI_s, zoR_s, zoH_s, zoL_s, zbI_s, zbV_s, zbR_s, zbL_s, zif_dec, i32_0, ne_eq, i32_lt, i32_le, i32_eq, i32_add, i32_mul, i32_sub, i32_neg, zrz_0, zrz_1, zif_t, zif_f, zsF_s, zsF_k, zsF_a, zsC_s, zsC_a, zsC_i, zsW_s, zsW_a, Int.add_zero, Int.zero_add, true_and, false_and, and_false, Bool.false_eq_true, decide_true, decide_false, Bool.true_and, Bool.false_and, Bool.true_or, Bool.false_or, sub1, if_pos, if_neg, wv_65 S, wr_449 S, wr_450 S, wg_448 S, wp_448 S, wa_66 S, ws_66 S, i32_div, i32_rem, e, zsC_W, zsW_W, zsF_ss]
      · rw [cs] at j1
        by_cases ci : i = cnS (soB D L) c
        · rw [ci, up1_s]; exact ⟨c0, by omega, ct, rfl⟩
        · rw [up1_n ci]
          have := hi i j0 (by omega)
          exact ⟨this.1, by omega, this.2.2⟩
    | false =>
      rw [ct] at e
      rw [ct, if_neg (by simp), Int.add_zero] at cs
      refine ⟨f, ?_, fun i j0 j1 => ?_⟩
      · rw [e_Suspects_gather_5, cs]
        simp (disch := omega) only [if_true, if_false, not_true_eq_false, not_false_eq_true, zoI_s, zoR_s, zoH_s, zoL_s, zbI_s, zbV_s, zbR_s, zbL_s, zif_dec, i32_0, ne_eq, i32_lt, i32_le, i32_eq, i32_add, i32_mul, i32_sub, i32_neg, zrz_0, zrz_1, zif_t, zif_f, zsF_s, zsF_k, zsF_a, zsC_s, zsC_a, zsC_i, zsW_s, zsW_a, Int.add_zero, Int.zero_add, true_and, false_and, and_false, Bool.false_eq_true, decide_true, decide_false, Bool.true_and, Bool.false_and, Bool.true_or, Bool.false_or, sub1, if_pos, if_neg, wv_65 S, wr_449 S, wr_450 S, wg_448 S, wp_448 S, wa_66 S, ws_66 S, i32_div, i32_rem, e]
      · rw [cs] at j1
        have := hi i j0 j1
        exact ⟨this.1, by omega, this.2.2⟩) (C 66) (fun i j0 j1 => by rw [cnS_0] at j1; omega)
  rw [zsW_id, cnS_0] at L1
  refine ⟨f, ?_, i1⟩
  rw [e_Suspects_gather]
  simp (disch := omega) only [if_true, if_false, not_true_eq_false, not_false_eq_true, zoI_s, zoR_s, zoH_s, zoL_s, zbI_s, zbV_s, zbR_s, zbL_s, zif_dec, i32_0, ne_eq, i32_lt, i32_le, i32_eq, i32_add, i32_mul, i32_sub, i32_neg, zrz_0, zrz_1, zif_t, zif_f, zsF_s, zsF_k, zsF_a, zsC_s, zsC_a, zsC_i, zsW_s, zsW_a, Int.add_zero, Int.zero_add, true_and, false_and, and_false, Bool.false_eq_true, decide_true, decide_false, Bool.true_and, Bool.false_and, Bool.true_or, Bool.false_or, sub1, if_pos, if_neg, wv_65 S, wr_449 S, wr_450 S, wg_448 S, wp_448 S, L1]
  rw [e_Suspects_gather_5]
  simp (disch := omega) only [if_true, if_false, not_true_eq_false, not_false_eq_true, zoI_s, zoR_s, zoH_s, zoL_s, zbI_s, zbV_s, zbR_s, zbL_s, zif_dec, i32_0, ne_eq, i32_lt, i32_le, i32_eq, i32_add, i32_mul, i32_sub, i32_neg, zrz_0, zrz_1, zif_t, zif_f, zsF_s, zsF_k, zsF_a, zsC_s, zsC_a, zsC_i, zsW_s, zsW_a, Int.add_zero, Int.zero_add, true_and, false_and, and_false, Bool.false_eq_true, decide_true, decide_false, Bool.true_and, Bool.false_and, Bool.true_or, Bool.false_or, sub1, if_pos, if_neg]
/-- after gather -/
def susP (F : Nat → Nat → Int) (C : Nat → Int → Int) (D L : Int → Int) : Prop := F 448 65 = cnS (soB D L) 80 ∧ lstP (soB D L) 80 (C 66)
theorem c_sure (S : St h) (U : susP F C D L) : zc 127 [zR (some 65)] (zw h F C) = some (zI (i32 (surS (soB D L) (fun c => c / 8))), zw h F C) ∧ zc 128 [zR (some 65)] (zw h F C) = some (zI (i32 (surS (soB D L) (fun c => c % 8))), zw h F C) := by
  have cr := cnS_rng (soB D L) (k := 80) (by omega)
  have eqv : ∀ g : Int → Int, 0 < cnS (soB D L) 80 → (alB (fun i => decide (g (C 66 (i + 1)) = g (C 66 0))) (cnS (soB D L) 80 - 1) = alB (fun c => !soB D L c || decide (g c = g (nthS (soB D L) 0))) 80) := by
    intro g hc
    have e0 := nth_lst U.2 (i := 0) (by omega) hc
    rw [e0]
    apply Bool.eq_iff_iff.mpr
    rw [alB_iff, alB_iff]
    constructor
    · intro hh c c0 c1
      cases ct : soB D L c with
      | false => rfl
      | true =>
        have la := lst_at U.2 c0 c1 ct
        have r := cnS_rng (soB D L) c0
        have lt := cnS_lt c0 c1 ct
        rw [Bool.not_true, Bool.false_or]
        by_cases z : cnS (soB D L) c = 0
        · rw [z] at la
          rw [la]; exact decide_eq_true rfl
        · have := hh (cnS (soB D L) c - 1) (by omega) (by omega)
          rw [show cnS (soB D L) c - 1 + 1 = cnS (soB D L) c by omega, la] at this
          exact this
    · intro hh i i0 i1
      have g1 := U.2 (i + 1) (by omega) (by omega)
      have := hh _ g1.1 g1.2.1
      rw [g1.2.2.1, Bool.not_true, Bool.false_or] at this
      exact this
  have nn : 0 < cnS (soB D L) 80 → nthS (soB D L) 0 = C 66 0 ∧ 0 ≤ C 66 0 ∧ C 66 0 < 80 := fun hc => by
    have := U.2 0 (by omega) hc
    exact ⟨nth_lst U.2 (by omega) hc, this.1, this.2.1⟩
  constructor
  · rw [e_Suspects_sureWet]
    unfold surS surV
    by_cases c : cnS (soB D L) 80 = 0
    · rw [e_Suspects_sureWet_2, if_pos c]
      simp (disch := omega) only [if_true, if_false, not_true_eq_false, not_false_eq_true, zoI_s, zoR_s, zoH_s, zoL_s, zbI_s, zbV_s, zbR_s, zbL_s, zif_dec, i32_0, ne_eq, i32_lt, i32_le, i32_eq, i32_add, i32_mul, i32_sub, i32_neg, zrz_0, zrz_1, zif_t, zif_f, zsF_s, zsF_k, zsF_a, zsC_s, zsC_a, zsC_i, zsW_s, zsW_a, Int.add_zero, Int.zero_add, true_and, false_and, and_false, Bool.false_eq_true, decide_true, decide_false, Bool.true_and, Bool.false_and, Bool.true_or, Bool.false_or, sub1, if_pos, if_neg, wv_65 S, wr_449 S, wr_450 S, wg_448 S, wp_448 S, U.1]
    · have n0 := nn (by omega)
      have L1 := zall_ (fun i => zr 127 2 [yR (some 65), yI (i32 (i + 1))] [] (zw h F C)) (some (zI (i32 (-1)), zw h F C)) (fun i => decide (C 66 (i + 1) / 8 = C 66 0 / 8)) (cnS (soB D L) 80 - 1) (by omega) (fun i i0 i1 hp => by
        have cc := of_decide_eq_true hp
        have g1 := U.2 (i + 1) (by omega) (by omega)
        rw [e_Suspects_sureWet_2]
        simp (disch := omega) only [if_true, if_false, not_true_eq_false, not_false_eq_true, zoI_s, zoR_s, zoH_s, zoL_s, zbI_s, zbV_s, zbR_s, zbL_s, zif_dec, i32_0, ne_eq, i32_lt, i32_le, i32_eq, i32_add, i32_mul, i32_sub, i32_neg, zrz_0, zrz_1, zif_t, zif_f, zsF_s, zsF_k, zsF_a, zsC_s, zsC_a, zsC_i, zsW_s, zsW_a, Int.add_zero, Int.zero_add, true_and, false_and, and_false, Bool.false_eq_true, decide_true, decide_false, Bool.true_and, Bool.false_and, Bool.true_or, Bool.false_or, sub1, if_pos, if_neg, wv_65 S, wr_449 S, wr_450 S, wg_448 S, wp_448 S, U.1, wa_66 S, ws_66 S, i32_div, cc]) (fun i i0 i1 hp => by
        have cc := of_decide_eq_false hp
        have g1 := U.2 (i + 1) (by omega) (by omega)
        rw [e_Suspects_sureWet_2]
        simp (disch := omega) only [if_true, if_false, not_true_eq_false, not_false_eq_true, zoI_s, zoR_s, zoH_s, zoL_s, zbI_s, zbV_s, zbR_s, zbL_s, zif_dec, i32_0, ne_eq, i32_lt, i32_le, i32_eq, i32_add, i32_mul, i32_sub, i32_neg, zrz_0, zrz_1, zif_t, zif_f, zsF_s, zsF_k, zsF_a, zsC_s, zsC_a, zsC_i, zsW_s, zsW_a, Int.add_zero, Int.zero_add, true_and, false_and, and_false, Bool.false_eq_true, decide_true, decide_false, Bool.true_and, Bool.false_and, Bool.true_or, Bool.false_or, sub1, if_pos, if_neg, wv_65 S, wr_449 S, wr_450 S, wg_448 S, wp_448 S, U.1, wa_66 S, ws_66 S, i32_div])
      rw [eqv (fun c => c / 8) (by omega), show cnS (soB D L) 80 - 1 + 1 = cnS (soB D L) 80 by omega] at L1
      rw [if_neg c, show (1 : Int) = 0 + 1 from rfl, L1]
      cases alB (fun c => !soB D L c || decide (c / 8 = nthS (soB D L) 0 / 8)) 80 with
      | true =>
        rw [if_pos rfl, if_pos rfl, e_Suspects_sureWet_2, n0.1]
        simp (disch := omega) only [if_true, if_false, not_true_eq_false, not_false_eq_true, zoI_s, zoR_s, zoH_s, zoL_s, zbI_s, zbV_s, zbR_s, zbL_s, zif_dec, i32_0, ne_eq, i32_lt, i32_le, i32_eq, i32_add, i32_mul, i32_sub, i32_neg, zrz_0, zrz_1, zif_t, zif_f, zsF_s, zsF_k, zsF_a, zsC_s, zsC_a, zsC_i, zsW_s, zsW_a, Int.add_zero, Int.zero_add, true_and, false_and, and_false, Bool.false_eq_true, decide_true, decide_false, Bool.true_and, Bool.false_and, Bool.true_or, Bool.false_or, sub1, if_pos, if_neg, wv_65 S, wr_449 S, wr_450 S, wg_448 S, wp_448 S, U.1, wa_66 S, ws_66 S, i32_div]
      | false => rfl
  · rw [e_Suspects_sureKey]
    unfold surS surV
    by_cases c : cnS (soB D L) 80 = 0
    · rw [e_Suspects_sureKey_2, if_pos c]
      simp (disch := omega) only [if_true, if_false, not_true_eq_false, not_false_eq_true, zoI_s, zoR_s, zoH_s, zoL_s, zbI_s, zbV_s, zbR_s, zbL_s, zif_dec, i32_0, ne_eq, i32_lt, i32_le, i32_eq, i32_add, i32_mul, i32_sub, i32_neg, zrz_0, zrz_1, zif_t, zif_f, zsF_s, zsF_k, zsF_a, zsC_s, zsC_a, zsC_i, zsW_s, zsW_a, Int.add_zero, Int.zero_add, true_and, false_and, and_false, Bool.false_eq_true, decide_true, decide_false, Bool.true_and, Bool.false_and, Bool.true_or, Bool.false_or, sub1, if_pos, if_neg, wv_65 S, wr_449 S, wr_450 S, wg_448 S, wp_448 S, U.1]
    · have n0 := nn (by omega)
      have L1 := zall_ (fun i => zr 128 2 [yR (some 65), yI (i32 (i + 1))] [] (zw h F C)) (some (zI (i32 (-1)), zw h F C)) (fun i => decide (C 66 (i + 1) % 8 = C 66 0 % 8)) (cnS (soB D L) 80 - 1) (by omega) (fun i i0 i1 hp => by
        have cc := of_decide_eq_true hp
        have g1 := U.2 (i + 1) (by omega) (by omega)
        rw [e_Suspects_sureKey_2]
        simp (disch := omega) only [if_true, if_false, not_true_eq_false, not_false_eq_true, zoI_s, zoR_s, zoH_s, zoL_s, zbI_s, zbV_s, zbR_s, zbL_s, zif_dec, i32_0, ne_eq, i32_lt, i32_le, i32_eq, i32_add, i32_mul, i32_sub, i32_neg, zrz_0, zrz_1, zif_t, zif_f, zsF_s, zsF_k, zsF_a, zsC_s, zsC_a, zsC_i, zsW_s, zsW_a, Int.add_zero, Int.zero_add, true_and, false_and, and_false, Bool.false_eq_true, decide_true, decide_false, Bool.true_and, Bool.false_and, Bool.true_or, Bool.false_or, sub1, if_pos, if_neg, wv_65 S, wr_449 S, wr_450 S, wg_448 S, wp_448 S, U.1, wa_66 S, ws_66 S, i32_rem, cc]) (fun i i0 i1 hp => by
        have cc := of_decide_eq_false hp
        have g1 := U.2 (i + 1) (by omega) (by omega)
        rw [e_Suspects_sureKey_2]
        simp (disch := omega) only [if_true, if_false, not_true_eq_false, not_false_eq_true, zoI_s, zoR_s, zoH_s, zoL_s, zbI_s, zbV_s, zbR_s, zbL_s, zif_dec, i32_0, ne_eq, i32_lt, i32_le, i32_eq, i32_add, i32_mul, i32_sub, i32_neg, zrz_0, zrz_1, zif_t, zif_f, zsF_s, zsF_k, zsF_a, zsC_s, zsC_a, zsC_i, zsW_s, zsW_a, Int.add_zero, Int.zero_add, true_and, false_and, and_false, Bool.false_eq_true, decide_true, decide_false, Bool.true_and, Bool.false_and, Bool.true_or, Bool.false_or, sub1, if_pos, if_neg, wv_65 S, wr_449 S, wr_450 S, wg_448 S, wp_448 S, U.1, wa_66 S, ws_66 S, i32_rem])
      rw [eqv (fun c => c % 8) (by omega), show cnS (soB D L) 80 - 1 + 1 = cnS (soB D L) 80 by omega] at L1
      rw [if_neg c, show (1 : Int) = 0 + 1 from rfl, L1]
      cases alB (fun c => !soB D L c || decide (c % 8 = nthS (soB D L) 0 % 8)) 80 with
      | true =>
        rw [if_pos rfl, if_pos rfl, e_Suspects_sureKey_2, n0.1]
        simp (disch := omega) only [if_true, if_false, not_true_eq_false, not_false_eq_true, zoI_s, zoR_s, zoH_s, zoL_s, zbI_s, zbV_s, zbR_s, zbL_s, zif_dec, i32_0, ne_eq, i32_lt, i32_le, i32_eq, i32_add, i32_mul, i32_sub, i32_neg, zrz_0, zrz_1, zif_t, zif_f, zsF_s, zsF_k, zsF_a, zsC_s, zsC_a, zsC_i, zsW_s, zsW_a, Int.add_zero, Int.zero_add, true_and, false_and, and_false, Bool.false_eq_true, decide_true, decide_false, Bool.true_and, Bool.false_and, Bool.true_or, Bool.false_or, sub1, if_pos, if_neg, wv_65 S, wr_449 S, wr_450 S, wg_448 S, wp_448 S, U.1, wa_66 S, ws_66 S, i32_rem]
      | false => rfl
theorem whoF_I (O : dOK D) : ∀ k s, 0 ≤ k → k < D 0 → (0 ≤ s ∧ s < 64) → (0 ≤ whoF D L k s ∧ whoF D L k s < 64) := by
  intro k s k0 k1 hs
  have b0 := O.1
  have o := orI_lt (s := s) (r := k) (n := 6) hs.1 k0 (by omega) (by omega) hs.2
  have o2 : orI s k < 64 := o.2.2
  unfold whoF
  split
  · exact ⟨o.1, o2⟩
  · exact hs
theorem c_whose (S : St h) (H : duS h a) (V : duV F C a D) (O : dOK D) (Hl : loS h b) (W : loV F C b L) (P : lOK L) (T : thB D L = true) : zc 129 [zR (some 65), zR (some a), zR (some b)] (zw h F C) = some (zI (i32 (whoS D L)), zw h F C) := by
  have b0 := O.1
  have L1 := (zfoI (fun r s => zr 129 4 [yR (some 65), yR (some a), yR (some b), yI (i32 s), yI (i32 r)] [] (zw h F C)) (whoF D L) (fun _ s => 0 ≤ s ∧ s < 64) 0 (D 0) (by omega) (fun r s r0 r1 hi => by
    have b1 := O.2.2.2.2.1 r r0 r1
    have b5 := O.2.2.2.2.2.1 r r0 r1
    have e := c_agrees H V O Hl W P T b1.1 b1.2 b5.1 b5.2
    rw [e_Suspects_whose_4]
    unfold whoF
    cases ct : soW D L (D (4 + 2 * r)) (D (5 + 2 * r)) with
    | true =>
      rw [ct] at e
      simp (disch := omega) only [if_true, if_false, not_true_eq_false, not_false_eq_true, zoI_s, zoR_s, zoH_s, zoL_s, zbI_s, zbV_s, zbR_s, zbL_s, zif_dec, i32_0, ne_eq, i32_lt, i32_le, i32_eq, i32_add, i32_mul, i32_sub, i32_neg, zrz_0, zrz_1, zif_t, zif_f, zsF_s, zsF_k, zsF_a, zsC_s, zsC_a, zsC_i, zsW_s, zsW_a, Int.add_zero, Int.zero_add, true_and, false_and, and_false, Bool.false_eq_true, decide_true, decide_false, Bool.true_and, Bool.false_and, Bool.true_or, Bool.false_or, sub1, if_pos, if_neg, dv H, dg_128 H, dp_128 H, dg_129 H, dp_129 H, dg_130 H, dp_130 H, dg_131 H, dp_131 H, dr_132 H, da_132 H, dr_133 H, da_133 H, dr_134 H, da_134 H, dr_135 H, da_135 H, dr_136 H, da_136 H, dr_137 H, da_137 H, V.1.1, V.2.1, V.2.2.1, e, b_or]
    | false =>
      rw [ct] at e
      simp (disch := omega) only [if_true, if_false, not_true_eq_false, not_false_eq_true, zoI_s, zoR_s, zoH_s, zoL_s, zbI_s, zbV_s, zbR_s, zbL_s, zif_dec, i32_0, ne_eq, i32_lt, i32_le, i32_eq, i32_add, i32_mul, i32_sub, i32_neg, zrz_0, zrz_1, zif_t, zif_f, zsF_s, zsF_k, zsF_a, zsC_s, zsC_a, zsC_i, zsW_s, zsW_a, Int.add_zero, Int.zero_add, true_and, false_and, and_false, Bool.false_eq_true, decide_true, decide_false, Bool.true_and, Bool.false_and, Bool.true_or, Bool.false_or, sub1, if_pos, if_neg, dv H, dg_128 H, dp_128 H, dg_129 H, dp_129 H, dg_130 H, dp_130 H, dg_131 H, dp_131 H, dr_132 H, da_132 H, dr_133 H, da_133 H, dr_134 H, da_134 H, dr_135 H, da_135 H, dr_136 H, da_136 H, dr_137 H, da_137 H, V.1.1, V.2.1, V.2.2.1, e]) (whoF_I O) 0 (by omega)).1
  rw [Int.sub_zero] at L1
  rw [e_Suspects_whose, L1, e_Suspects_whose_4]
  simp (disch := omega) only [if_true, if_false, not_true_eq_false, not_false_eq_true, zoI_s, zoR_s, zoH_s, zoL_s, zbI_s, zbV_s, zbR_s, zbL_s, zif_dec, i32_0, ne_eq, i32_lt, i32_le, i32_eq, i32_add, i32_mul, i32_sub, i32_neg, zrz_0, zrz_1, zif_t, zif_f, zsF_s, zsF_k, zsF_a, zsC_s, zsC_a, zsC_i, zsW_s, zsW_a, Int.add_zero, Int.zero_add, true_and, false_and, and_false, Bool.false_eq_true, decide_true, decide_false, Bool.true_and, Bool.false_and, Bool.true_or, Bool.false_or, sub1, if_pos, if_neg, dv H, dg_128 H, dp_128 H, dg_129 H, dp_129 H, dg_130 H, dp_130 H, dg_131 H, dp_131 H, dr_132 H, da_132 H, dr_133 H, da_133 H, dr_134 H, da_134 H, dr_135 H, da_135 H, dr_136 H, da_136 H, dr_137 H, da_137 H, V.1.1]
  rfl
def cellS (v : Int) : Int := if v = -1 then 8 else v
theorem c_greatestHeap (S : St h) (H : duS h a) (V : duV F C a D) (O : dOK D) (ha : a ≤ 28) (U : susP F C D L) (P : lOK L) {p q : Int} (p0 : 0 ≤ p) (p1 : p < D 1) (q0 : 0 ≤ q) (q1 : q < D 2) : ∃ f, zc 132 [zR (some 65), zR (some a), zI (i32 ((L 0))), zI (i32 p), zI (i32 q)] (zw h F C) = some (zI (i32 (grtS (soB D L) (nuS D L p q))), zw h F (zsW C 67 f)) := by
  have l0 := P.1
  have b6 := O.2.2.2.1
  have cr := cnS_rng (soB D L) (k := 80) (by omega)
  have e0 := c_fill (F := F) (C := C) (n := 9) (x := 0) (S.2.2.2.1 (67, 9) (List.mem_of_getElem? (l := wRW) (i := 14) rfl)) (by unfold zK0; omega) (by omega)
  have nx : ∀ f c, 0 ≤ c → c < 80 → zc 131 [zR (some 65), zR (some a), zI (i32 c), zI (i32 ((L 0))), zI (i32 p), zI (i32 q)] (zw h F (zsW C 67 f)) = some (zI (i32 (nuS D L p q c)), zw h F (zsW C 67 f)) := by
    intro f c c0 c1
    have dr := driS_rng (w := c / 8) (n := L 0) (by omega) (by omega) l0.1
    rw [e_Suspects_nextNote]
    simp (disch := omega) only [if_true, if_false, not_true_eq_false, not_false_eq_true, zoI_s, zoR_s, zoH_s, zoL_s, zbI_s, zbV_s, zbR_s, zbL_s, zif_dec, i32_0, ne_eq, i32_lt, i32_le, i32_eq, i32_add, i32_mul, i32_sub, i32_neg, zrz_0, zrz_1, zif_t, zif_f, zsF_s, zsF_k, zsF_a, zsC_s, zsC_a, zsC_i, zsW_s, zsW_a, Int.add_zero, Int.zero_add, true_and, false_and, and_false, Bool.false_eq_true, decide_true, decide_false, Bool.true_and, Bool.false_and, Bool.true_or, Bool.false_or, sub1, if_pos, if_neg, i32_div, i32_rem, c_dried, dv H, dg_128 H, dp_128 H, dg_129 H, dp_129 H, dg_130 H, dp_130 H, dg_131 H, dp_131 H, dr_132 H, da_132 H, dr_133 H, da_133 H, dr_134 H, da_134 H, dr_135 H, da_135 H, dr_136 H, da_136 H, dr_137 H, da_137 H, V.1.2.2.2, c_noteAt H (V.sW (b := 67) f ha (by omega)) O]
    rfl
  obtain ⟨f, L1, J1⟩ := zfoJ (fun i (t : (Int → Int) × Int) (f : Int → Int) => zr 132 8 [yR (some 65), yR (some a), yI (i32 ((L 0))), yI (i32 p), yI (i32 q), yI (i32 (t.2)), yI (i32 i), none, none] [] (zw h F (zsW C 67 f))) (fun i t => (up1 t.1 (nuS D L p q (C 66 i)) (t.1 (nuS D L p q (C 66 i)) + 1), if t.2 < t.1 (nuS D L p q (C 66 i)) + 1 then t.1 (nuS D L p q (C 66 i)) + 1 else t.2)) (fun i t f => (∀ v, -1 ≤ v → v ≤ 7 → f (cellS v) = t.1 v ∧ 0 ≤ t.1 v ∧ t.1 v ≤ i) ∧ 0 ≤ t.2 ∧ t.2 ≤ i) 0 (cnS (soB D L) 80) (by omega) (fun i t f i0 i1 hi => by
    obtain ⟨Hh, g⟩ := t
    obtain ⟨h1, h2⟩ := hi
    dsimp only at h1 h2 ⊢
    have ci := U.2 i i0 i1
    have ne := nx f (C 66 i) ci.1 ci.2.1
    have vr : -1 ≤ nuS D L p q (C 66 i) ∧ nuS D L p q (C 66 i) ≤ 7 := noteS_rng
    generalize nuS D L p q (C 66 i) = v at ne vr
    have hv := h1 v vr.1 vr.2
    refine ⟨up1 f (cellS v) (Hh v + 1), ?_, fun y y0 y1 => ?_, ?_⟩
    · rw [e_Suspects_greatestHeap_8]
      unfold cellS at hv ⊢
      by_cases cv : v = -1
      · rw [if_pos cv] at hv ⊢
        by_cases cg : g < Hh v + 1
        · simp (disch := omega) only [if_true, if_false, not_true_eq_false, not_false_eq_true, zoI_s, zoR_s, zoH_s, zoL_s, zbI_s, zbV_s, zbR_s, zbL_s, zif_dec, i32_0, ne_eq, i32_lt, i32_le, i32_eq, i32_add, i32_mul, i32_sub, i32_neg, zrz_0, zrz_1, zif_t, zif_f, zsF_s, zsF_k, zsF_a, zsC_s, zsC_a, zsC_i, zsW_s, zsW_a, Int.add_zero, Int.zero_add, true_and, false_and, and_false, Bool.false_eq_true, decide_true, decide_false, Bool.true_and, Bool.false_and, Bool.true_or, Bool.false_or, sub1, if_pos, if_neg, wv_65 S, wr_449 S, wr_450 S, wg_448 S, wp_448 S, U.1, wa_66 S, ws_66 S, ne, wa_67 S, ws_67 S, hv.1, zsC_W, zsW_W, up1_s, i32_max, d_Suspects_greatestHeap_8_w7, d_Suspects_greatestHeap_8_w8]
        · simp (disch := omega) only [if_true, if_false, not_true_eq_false, not_false_eq_true, zoI_s, zoR_s, zoH_s, zoL_s, zbI_s, zbV_s, zbR_s, zbL_s, zif_dec, i32_0, ne_eq, i32_lt, i32_le, i32_eq, i32_add, i32_mul, i32_sub, i32_neg, zrz_0, zrz_1, zif_t, zif_f, zsF_s, zsF_k, zsF_a, zsC_s, zsC_a, zsC_i, zsW_s, zsW_a, Int.add_zero, Int.zero_add, true_and, false_and, and_false, Bool.false_eq_true, decide_true, decide_false, Bool.true_and, Bool.false_and, Bool.true_or, Bool.false_or, sub1, if_pos, if_neg, wv_65 S, wr_449 S, wr_450 S, wg_448 S, wp_448 S, U.1, wa_66 S, ws_66 S, ne, wa_67 S, ws_67 S, hv.1, zsC_W, zsW_W, up1_s, i32_max, d_Suspects_greatestHeap_8_w7, d_Suspects_greatestHeap_8_w8]
      · rw [if_neg cv] at hv ⊢
        by_cases cg : g < Hh v + 1
        · simp (disch := omega) only [if_true, if_false, not_true_eq_false, not_false_eq_true, zoI_s, zoR_s, zoH_s, zoL_s, zbI_s, zbV_s, zbR_s, zbL_s, zif_dec, i32_0, ne_eq, i32_lt, i32_le, i32_eq, i32_add, i32_mul, i32_sub, i32_neg, zrz_0, zrz_1, zif_t, zif_f, zsF_s, zsF_k, zsF_a, zsC_s, zsC_a, zsC_i, zsW_s, zsW_a, Int.add_zero, Int.zero_add, true_and, false_and, and_false, Bool.false_eq_true, decide_true, decide_false, Bool.true_and, Bool.false_and, Bool.true_or, Bool.false_or, sub1, if_pos, if_neg, wv_65 S, wr_449 S, wr_450 S, wg_448 S, wp_448 S, U.1, wa_66 S, ws_66 S, ne, wa_67 S, ws_67 S, hv.1, zsC_W, zsW_W, up1_s, i32_max, d_Suspects_greatestHeap_8_w7, d_Suspects_greatestHeap_8_w8]
        · simp (disch := omega) only [if_true, if_false, not_true_eq_false, not_false_eq_true, zoI_s, zoR_s, zoH_s, zoL_s, zbI_s, zbV_s, zbR_s, zbL_s, zif_dec, i32_0, ne_eq, i32_lt, i32_le, i32_eq, i32_add, i32_mul, i32_sub, i32_neg, zrz_0, zrz_1, zif_t, zif_f, zsF_s, zsF_k, zsF_a, zsC_s, zsC_a, zsC_i, zsW_s, zsW_a, Int.add_zero, Int.zero_add, true_and, false_and, and_false, Bool.false_eq_true, decide_true, decide_false, Bool.true_and, Bool.false_and, Bool.true_or, Bool.false_or, sub1, if_pos, if_neg, wv_65 S, wr_449 S, wr_450 S, wg_448 S, wp_448 S, U.1, wa_66 S, ws_66 S, ne, wa_67 S, ws_67 S, hv.1, zsC_W, zsW_W, up1_s, i32_max, d_Suspects_greatestHeap_8_w7, d_Suspects_greatestHeap_8_w8]
    · by_cases cy : y = v
      · rw [cy, up1_s, up1_s]; omega
      · have hy := h1 y y0 y1
        rw [up1_n cy, up1_n (by unfold cellS; split <;> split <;> omega)]; omega
    · split <;> omega) (fun _ => 0, 0) (fun j => if 0 ≤ j ∧ j < (9 : Nat) then 0 else C 67 j) ⟨fun v v0 v1 => by
      dsimp only
      rw [if_pos (by unfold cellS; split <;> omega)]
      omega, by dsimp only; omega⟩
  rw [Int.sub_zero, lst_fold U.2 (fun c t => (up1 t.1 (nuS D L p q c) (t.1 (nuS D L p q c) + 1), if t.2 < t.1 (nuS D L p q c) + 1 then t.1 (nuS D L p q c) + 1 else t.2))] at L1
  refine ⟨f, ?_⟩
  rw [e_Suspects_greatestHeap]
  simp (disch := omega) only [if_true, if_false, not_true_eq_false, not_false_eq_true, zoI_s, zoR_s, zoH_s, zoL_s, zbI_s, zbV_s, zbR_s, zbL_s, zif_dec, i32_0, ne_eq, i32_lt, i32_le, i32_eq, i32_add, i32_mul, i32_sub, i32_neg, zrz_0, zrz_1, zif_t, zif_f, zsF_s, zsF_k, zsF_a, zsC_s, zsC_a, zsC_i, zsW_s, zsW_a, Int.add_zero, Int.zero_add, true_and, false_and, and_false, Bool.false_eq_true, decide_true, decide_false, Bool.true_and, Bool.false_and, Bool.true_or, Bool.false_or, sub1, if_pos, if_neg, wv_65 S, wr_449 S, wr_450 S, wg_448 S, wp_448 S, e0, L1]
  rw [e_Suspects_greatestHeap_8]
  simp (disch := omega) only [if_true, if_false, not_true_eq_false, not_false_eq_true, zoI_s, zoR_s, zoH_s, zoL_s, zbI_s, zbV_s, zbR_s, zbL_s, zif_dec, i32_0, ne_eq, i32_lt, i32_le, i32_eq, i32_add, i32_mul, i32_sub, i32_neg, zrz_0, zrz_1, zif_t, zif_f, zsF_s, zsF_k, zsF_a, zsC_s, zsC_a, zsC_i, zsW_s, zsW_a, Int.add_zero, Int.zero_add, true_and, false_and, and_false, Bool.false_eq_true, decide_true, decide_false, Bool.true_and, Bool.false_and, Bool.true_or, Bool.false_or, sub1, if_pos, if_neg, wv_65 S, wr_449 S, wr_450 S, wg_448 S, wp_448 S, U.1]
  rfl
theorem susP.tq {F' : Nat → Nat → Int} {C' : Nat → Int → Int} (U : susP F C D L) (h1 : F' 448 65 = F 448 65) (h2 : C' 66 = C 66) : susP F' C' D L := by
  unfold susP
  rw [h1, h2]; exact U
theorem c_nextToAsk (S : St h) (H : duS h a) (V : duV F C a D) (O : dOK D) (ha : a ≤ 28) (U : susP F C D L) (P : lOK L) : ∃ f, zc 130 [zR (some 65), zR (some a), zI (i32 ((L 0)))] (zw h F C) = some (zI (i32 (if cnS (soB D L) 80 = 0 then -1 else nxtS D L)), zw h F (zsW C 67 f)) := by
  have b1 := O.2.1
  have b2 := O.2.2.1
  have l0 := P.1
  have cr := cnS_rng (soB D L) (k := 80) (by omega)
  by_cases c0 : cnS (soB D L) 80 = 0
  · refine ⟨C 67, ?_⟩
    rw [zsW_id, if_pos c0, e_Suspects_nextToAsk]
    simp (disch := omega) only [if_true, if_false, not_true_eq_false, not_false_eq_true, zoI_s, zoR_s, zoH_s, zoL_s, zbI_s, zbV_s, zbR_s, zbL_s, zif_dec, i32_0, ne_eq, i32_lt, i32_le, i32_eq, i32_add, i32_mul, i32_sub, i32_neg, zrz_0, zrz_1, zif_t, zif_f, zsF_s, zsF_k, zsF_a, zsC_s, zsC_a, zsC_i, zsW_s, zsW_a, Int.add_zero, Int.zero_add, true_and, false_and, and_false, Bool.false_eq_true, decide_true, decide_false, Bool.true_and, Bool.false_and, Bool.true_or, Bool.false_or, sub1, if_pos, if_neg, wv_65 S, wr_449 S, wr_450 S, wg_448 S, wp_448 S, U.1]
    rw [e_Suspects_nextToAsk_9]
    by_cases c1 : D 1 ≤ 0
    · simp (disch := omega) only [if_true, if_false, not_true_eq_false, not_false_eq_true, zoI_s, zoR_s, zoH_s, zoL_s, zbI_s, zbV_s, zbR_s, zbL_s, zif_dec, i32_0, ne_eq, i32_lt, i32_le, i32_eq, i32_add, i32_mul, i32_sub, i32_neg, zrz_0, zrz_1, zif_t, zif_f, zsF_s, zsF_k, zsF_a, zsC_s, zsC_a, zsC_i, zsW_s, zsW_a, Int.add_zero, Int.zero_add, true_and, false_and, and_false, Bool.false_eq_true, decide_true, decide_false, Bool.true_and, Bool.false_and, Bool.true_or, Bool.false_or, sub1, if_pos, if_neg, dv H, dg_128 H, dp_128 H, dg_129 H, dp_129 H, dg_130 H, dp_130 H, dg_131 H, dp_131 H, dr_132 H, da_132 H, dr_133 H, da_133 H, dr_134 H, da_134 H, dr_135 H, da_135 H, dr_136 H, da_136 H, dr_137 H, da_137 H, V.1.2.1]
    · simp (disch := omega) only [if_true, if_false, not_true_eq_false, not_false_eq_true, zoI_s, zoR_s, zoH_s, zoL_s, zbI_s, zbV_s, zbR_s, zbL_s, zif_dec, i32_0, ne_eq, i32_lt, i32_le, i32_eq, i32_add, i32_mul, i32_sub, i32_neg, zrz_0, zrz_1, zif_t, zif_f, zsF_s, zsF_k, zsF_a, zsC_s, zsC_a, zsC_i, zsW_s, zsW_a, Int.add_zero, Int.zero_add, true_and, false_and, and_false, Bool.false_eq_true, decide_true, decide_false, Bool.true_and, Bool.false_and, Bool.true_or, Bool.false_or, sub1, if_pos, if_neg, dv H, dg_128 H, dp_128 H, dg_129 H, dp_129 H, dg_130 H, dp_130 H, dg_131 H, dp_131 H, dr_132 H, da_132 H, dr_133 H, da_133 H, dr_134 H, da_134 H, dr_135 H, da_135 H, dr_136 H, da_136 H, dr_137 H, da_137 H, V.1.2.1, wv_65 S, wr_449 S, wr_450 S, wg_448 S, wp_448 S, U.1]
  · rw [if_neg c0]
    have L2 := fun p t0 f0 w7 (p0 : 0 ≤ p) (p1 : p < D 1) (ht : -1 ≤ t0.1 ∧ t0.1 ≤ 100 ∧ 0 ≤ t0.2 ∧ t0.2 ≤ 99) => zfoJ (fun q (t : Int × Int) (j : (Int → Int) × Option zVal) => zr 130 18 [yR (some 65), yR (some a), yI (i32 ((L 0))), yI (i32 (t.1)), yI (i32 ((if t.1 = -1 then cnS (soB D L) 80 + 1 else t.2))), yI (i32 p), yI (i32 q), j.2] [] (zw h F (zsW C 67 j.1))) (nxqF D L p) (fun q t _ => -1 ≤ t.1 ∧ t.1 ≤ 100 ∧ 0 ≤ t.2 ∧ t.2 ≤ 99 ∧ (t.1 = -1 → t.2 = 99)) 0 (D 2) (by omega) (fun q t j q0 q1 hi => by
      obtain ⟨b1, l1⟩ := t
      obtain ⟨f, w7⟩ := j
      dsimp only at hi ⊢
      obtain ⟨f', e⟩ := c_greatestHeap (F := F) (C := zsW C 67 f) S H (V.sW (b := 67) f ha (by omega)) O ha (U.tq rfl (zsW_a (by omega))) P p0 p1 q0 q1
      rw [zsW_W] at e
      have gr := grt_rng (soB D L) (nuS D L p q)
      rw [e_Suspects_nextToAsk_18]
      unfold nxqF
      dsimp only
      by_cases cb : b1 = -1
      · rw [if_pos (show grtS (soB D L) (nuS D L p q) < l1 by have := hi.2.2.2.2 cb; omega)]
        dsimp only
        refine ⟨(f', some (zI (i32 (grtS (soB D L) (nuS D L p q))))), ?_, by omega⟩
        simp (disch := omega) only [if_true, if_false, not_true_eq_false, not_false_eq_true, zoI_s, zoR_s, zoH_s, zoL_s, zbI_s, zbV_s, zbR_s, zbL_s, zif_dec, i32_0, ne_eq, i32_lt, i32_le, i32_eq, i32_add, i32_mul, i32_sub, i32_neg, zrz_0, zrz_1, zif_t, zif_f, zsF_s, zsF_k, zsF_a, zsC_s, zsC_a, zsC_i, zsW_s, zsW_a, Int.add_zero, Int.zero_add, true_and, false_and, and_false, Bool.false_eq_true, decide_true, decide_false, Bool.true_and, Bool.false_and, Bool.true_or, Bool.false_or, sub1, if_pos, if_neg, dv H, dg_128 H, dp_128 H, dg_129 H, dp_129 H, dg_130 H, dp_130 H, dg_131 H, dp_131 H, dr_132 H, da_132 H, dr_133 H, da_133 H, dr_134 H, da_134 H, dr_135 H, da_135 H, dr_136 H, da_136 H, dr_137 H, da_137 H, V.1.2.2.1, wv_65 S, wr_449 S, wr_450 S, wg_448 S, wp_448 S, e]
        all_goals rfl
      · by_cases cg : grtS (soB D L) (nuS D L p q) < l1
        · rw [if_pos cg]
          dsimp only
          refine ⟨(f', some (zI (i32 (grtS (soB D L) (nuS D L p q))))), ?_, by omega⟩
          simp (disch := omega) only [if_true, if_false, not_true_eq_false, not_false_eq_true, zoI_s, zoR_s, zoH_s, zoL_s, zbI_s, zbV_s, zbR_s, zbL_s, zif_dec, i32_0, ne_eq, i32_lt, i32_le, i32_eq, i32_add, i32_mul, i32_sub, i32_neg, zrz_0, zrz_1, zif_t, zif_f, zsF_s, zsF_k, zsF_a, zsC_s, zsC_a, zsC_i, zsW_s, zsW_a, Int.add_zero, Int.zero_add, true_and, false_and, and_false, Bool.false_eq_true, decide_true, decide_false, Bool.true_and, Bool.false_and, Bool.true_or, Bool.false_or, sub1, if_pos, if_neg, dv H, dg_128 H, dp_128 H, dg_129 H, dp_129 H, dg_130 H, dp_130 H, dg_131 H, dp_131 H, dr_132 H, da_132 H, dr_133 H, da_133 H, dr_134 H, da_134 H, dr_135 H, da_135 H, dr_136 H, da_136 H, dr_137 H, da_137 H, V.1.2.2.1, wv_65 S, wr_449 S, wr_450 S, wg_448 S, wp_448 S, e]
          all_goals rfl
        · rw [if_neg cg]
          dsimp only
          refine ⟨(f', some (zI (i32 (grtS (soB D L) (nuS D L p q))))), ?_, hi⟩
          simp (disch := omega) only [if_true, if_false, not_true_eq_false, not_false_eq_true, zoI_s, zoR_s, zoH_s, zoL_s, zbI_s, zbV_s, zbR_s, zbL_s, zif_dec, i32_0, ne_eq, i32_lt, i32_le, i32_eq, i32_add, i32_mul, i32_sub, i32_neg, zrz_0, zrz_1, zif_t, zif_f, zsF_s, zsF_k, zsF_a, zsC_s, zsC_a, zsC_i, zsW_s, zsW_a, Int.add_zero, Int.zero_add, true_and, false_and, and_false, Bool.false_eq_true, decide_true, decide_false, Bool.true_and, Bool.false_and, Bool.true_or, Bool.false_or, sub1, if_pos, if_neg, dv H, dg_128 H, dp_128 H, dg_129 H, dp_129 H, dg_130 H, dp_130 H, dg_131 H, dp_131 H, dr_132 H, da_132 H, dr_133 H, da_133 H, dr_134 H, da_134 H, dr_135 H, da_135 H, dr_136 H, da_136 H, dr_137 H, da_137 H, V.1.2.2.1, wv_65 S, wr_449 S, wr_450 S, wg_448 S, wp_448 S, e]
          all_goals rfl) t0 (f0, w7)
    obtain ⟨⟨f, w7⟩, L1, J1⟩ := zfoJ (fun p (t : Int × Int) (j : (Int → Int) × Option zVal) => zr 130 9 [yR (some 65), yR (some a), yI (i32 ((L 0))), yI (i32 (t.1)), yI (i32 ((if t.1 = -1 then cnS (soB D L) 80 + 1 else t.2))), yI (i32 p), none, j.2] [] (zw h F (zsW C 67 j.1))) (nxpF D L) (fun p t _ => -1 ≤ t.1 ∧ t.1 ≤ 100 ∧ 0 ≤ t.2 ∧ t.2 ≤ 99 ∧ (t.1 = -1 → t.2 = 99)) 0 (D 1) (by omega) (fun p t j p0 p1 hi => by
      obtain ⟨j', e, i'⟩ := L2 p t j.1 j.2 p0 p1 (by omega) hi
      rw [Int.sub_zero] at e i'
      refine ⟨j', ?_, i'⟩
      rw [e_Suspects_nextToAsk_9]
      simp (disch := omega) only [if_true, if_false, not_true_eq_false, not_false_eq_true, zoI_s, zoR_s, zoH_s, zoL_s, zbI_s, zbV_s, zbR_s, zbL_s, zif_dec, i32_0, ne_eq, i32_lt, i32_le, i32_eq, i32_add, i32_mul, i32_sub, i32_neg, zrz_0, zrz_1, zif_t, zif_f, zsF_s, zsF_k, zsF_a, zsC_s, zsC_a, zsC_i, zsW_s, zsW_a, Int.add_zero, Int.zero_add, true_and, false_and, and_false, Bool.false_eq_true, decide_true, decide_false, Bool.true_and, Bool.false_and, Bool.true_or, Bool.false_or, sub1, if_pos, if_neg, dv H, dg_128 H, dp_128 H, dg_129 H, dp_129 H, dg_130 H, dp_130 H, dg_131 H, dp_131 H, dr_132 H, da_132 H, dr_133 H, da_133 H, dr_134 H, da_134 H, dr_135 H, da_135 H, dr_136 H, da_136 H, dr_137 H, da_137 H, V.1.2.1, wv_65 S, wr_449 S, wr_450 S, wg_448 S, wp_448 S, U.1, e]
      rw [e_Suspects_nextToAsk_18]
      simp (disch := omega) only [if_true, if_false, not_true_eq_false, not_false_eq_true, zoI_s, zoR_s, zoH_s, zoL_s, zbI_s, zbV_s, zbR_s, zbL_s, zif_dec, i32_0, ne_eq, i32_lt, i32_le, i32_eq, i32_add, i32_mul, i32_sub, i32_neg, zrz_0, zrz_1, zif_t, zif_f, zsF_s, zsF_k, zsF_a, zsC_s, zsC_a, zsC_i, zsW_s, zsW_a, Int.add_zero, Int.zero_add, true_and, false_and, and_false, Bool.false_eq_true, decide_true, decide_false, Bool.true_and, Bool.false_and, Bool.true_or, Bool.false_or, sub1, if_pos, if_neg, dv H, dg_128 H, dp_128 H, dg_129 H, dp_129 H, dg_130 H, dp_130 H, dg_131 H, dp_131 H, dr_132 H, da_132 H, dr_133 H, da_133 H, dr_134 H, da_134 H, dr_135 H, da_135 H, dr_136 H, da_136 H, dr_137 H, da_137 H, V.1.2.2.1, d_Suspects_nextToAsk_9_w6]
      rfl) (-1, 99) (C 67, none) (by dsimp only; omega)
    rw [Int.sub_zero] at L1
    dsimp only at L1
    rw [zsW_id, if_pos rfl] at L1
    refine ⟨f, ?_⟩
    rw [e_Suspects_nextToAsk]
    simp (disch := omega) only [if_true, if_false, not_true_eq_false, not_false_eq_true, zoI_s, zoR_s, zoH_s, zoL_s, zbI_s, zbV_s, zbR_s, zbL_s, zif_dec, i32_0, ne_eq, i32_lt, i32_le, i32_eq, i32_add, i32_mul, i32_sub, i32_neg, zrz_0, zrz_1, zif_t, zif_f, zsF_s, zsF_k, zsF_a, zsC_s, zsC_a, zsC_i, zsW_s, zsW_a, Int.add_zero, Int.zero_add, true_and, false_and, and_false, Bool.false_eq_true, decide_true, decide_false, Bool.true_and, Bool.false_and, Bool.true_or, Bool.false_or, sub1, if_pos, if_neg, wv_65 S, wr_449 S, wr_450 S, wg_448 S, wp_448 S, U.1, L1]
    rw [e_Suspects_nextToAsk_9]
    simp (disch := omega) only [if_true, if_false, not_true_eq_false, not_false_eq_true, zoI_s, zoR_s, zoH_s, zoL_s, zbI_s, zbV_s, zbR_s, zbL_s, zif_dec, i32_0, ne_eq, i32_lt, i32_le, i32_eq, i32_add, i32_mul, i32_sub, i32_neg, zrz_0, zrz_1, zif_t, zif_f, zsF_s, zsF_k, zsF_a, zsC_s, zsC_a, zsC_i, zsW_s, zsW_a, Int.add_zero, Int.zero_add, true_and, false_and, and_false, Bool.false_eq_true, decide_true, decide_false, Bool.true_and, Bool.false_and, Bool.true_or, Bool.false_or, sub1, if_pos, if_neg, dv H, dg_128 H, dp_128 H, dg_129 H, dp_129 H, dg_130 H, dp_130 H, dg_131 H, dp_131 H, dr_132 H, da_132 H, dr_133 H, da_133 H, dr_134 H, da_134 H, dr_135 H, da_135 H, dr_136 H, da_136 H, dr_137 H, da_137 H, V.1.2.1]
    rfl
end FI
theorem c_fits {d l w : Int} (hd : inI d) (hl : inI l) (hw : inI w) : ans1 167 0 [zI (i32 d), zI (i32 l), zI (i32 w)] (fun A => zI (i32 (if (0 ≤ d ∧ d < A 0) ∧ (0 ≤ l ∧ l < A 2) ∧ thB (dOf A d) (lOf A l) = true then fitS (dOf A d) (lOf A l) w else -2))) := by
  intro h F C Q
  have S := Q.1
  unfold inI at hd hl hw
  by_cases c1 : 0 ≤ d ∧ d < C 73 0
  · have H := Q.dS c1.1 c1.2
    have V := Q.dV c1.1 c1.2
    have O := Q.dO c1.1 c1.2
    have ha : 8 + 13 * d.toNat ≤ 28 := by have := Q.2.2.1.1; omega
    by_cases c2 : 0 ≤ l ∧ l < C 73 2
    · have Hl := Q.lS c2.1 c2.2
      have W := Q.lV c2.1 c2.2
      have P := Q.lO c2.1 c2.2
      have hb : 17 + 13 * l.toNat ≤ 31 := by have := Q.2.2.1.2.2; omega
      have ek := c_knows H V O Hl W P
      cases ct : thB (dOf (C 73) d) (lOf (C 73) l) with
      | false =>
        rw [ct] at ek
        refine ⟨F, C, ?_, tq.rfl⟩
        show _ = some (zI (i32 (if _ then _ else _)), _)
        rw [if_neg (fun z => by rw [ct] at z; cases z.2.2)]
        simp (maxSteps := 2000000) (disch := omega) only [if_true, if_false, not_true_eq_false, not_false_eq_true, zoI_s, zoR_s, zoH_s, zoL_s, zbI_s, zbV_s, zbR_s, zbL_s, zif_dec, i32_0, ne_eq, i32_lt, i32_le, i32_eq, i32_add, i32_mul, i32_sub, i32_neg, zrz_0, zrz_1, zif_t, zif_f, zsF_s, zsF_k, zsF_a, zsC_s, zsC_a, zsC_i, zsW_s, zsW_a, Int.add_zero, Int.zero_add, true_and, false_and, and_false, Bool.false_eq_true, decide_true, decide_false, Bool.true_and, Bool.false_and, Bool.true_or, Bool.false_or, sub1, if_pos, if_neg, wv_0 S, wr_704 S, wr_705 S, wr_706 S, wr_707 S, wr_708 S, wr_709 S, wr_710 S, wr_711 S, tv_1 S, dv H, dg_128 H, dp_128 H, dg_129 H, dp_129 H, dg_130 H, dp_130 H, dg_131 H, dp_131 H, dr_132 H, da_132 H, dr_133 H, da_133 H, dr_134 H, da_134 H, dr_135 H, da_135 H, dr_136 H, da_136 H, dr_137 H, da_137 H, c_dAt Q, c_lAt Q, Option.isNone_some, e_Main_fits, ek]
      | true =>
        rw [ct] at ek
        obtain ⟨f, eg, lp⟩ := c_gather (F := F) (C := C) S H V O ha Hl W hb P ct
        have T1 : tq F C (zsF F 448 65 (cnS (soB (dOf (C 73) d) (lOf (C 73) l)) 80)) (zsW C 66 f) := (tq.rfl.sF (by omega) (by omega)).sW (by omega) (by omega)
        have U : susP (zsF F 448 65 (cnS (soB (dOf (C 73) d) (lOf (C 73) l)) 80)) (zsW C 66 f) (dOf (C 73) d) (lOf (C 73) l) := ⟨zsF_s .., by rw [zsW_s]; exact lp⟩
        have V2 := V.tq T1 ha
        have W2 := W.tq T1 hb
        have cr := cnS_rng (soB (dOf (C 73) d) (lOf (C 73) l)) (k := 80) (by omega)
        unfold fitS
        by_cases w0 : w = 0
        · refine ⟨_, _, ?_, T1⟩
          simp (disch := omega) only [if_true, if_false, not_true_eq_false, not_false_eq_true, zoI_s, zoR_s, zoH_s, zoL_s, zbI_s, zbV_s, zbR_s, zbL_s, zif_dec, i32_0, ne_eq, i32_lt, i32_le, i32_eq, i32_add, i32_mul, i32_sub, i32_neg, zrz_0, zrz_1, zif_t, zif_f, zsF_s, zsF_k, zsF_a, zsC_s, zsC_a, zsC_i, zsW_s, zsW_a, Int.add_zero, Int.zero_add, true_and, false_and, and_false, Bool.false_eq_true, decide_true, decide_false, Bool.true_and, Bool.false_and, Bool.true_or, Bool.false_or, sub1, if_pos, if_neg, wv_0 S, wr_704 S, wr_705 S, wr_706 S, wr_707 S, wr_708 S, wr_709 S, wr_710 S, wr_711 S, tv_1 S, dv H, dg_128 H, dp_128 H, dg_129 H, dp_129 H, dg_130 H, dp_130 H, dg_131 H, dp_131 H, dr_132 H, da_132 H, dr_133 H, da_133 H, dr_134 H, da_134 H, dr_135 H, da_135 H, dr_136 H, da_136 H, dr_137 H, da_137 H, c_dAt Q, c_lAt Q, Option.isNone_some, e_Main_fits, ek, eg, wv_65 S, wr_449 S, wr_450 S, wg_448 S, wp_448 S, ct, and_true]
        · by_cases w1 : w = 1
          · refine ⟨_, _, ?_, T1⟩
            simp (disch := omega) only [if_true, if_false, not_true_eq_false, not_false_eq_true, zoI_s, zoR_s, zoH_s, zoL_s, zbI_s, zbV_s, zbR_s, zbL_s, zif_dec, i32_0, ne_eq, i32_lt, i32_le, i32_eq, i32_add, i32_mul, i32_sub, i32_neg, zrz_0, zrz_1, zif_t, zif_f, zsF_s, zsF_k, zsF_a, zsC_s, zsC_a, zsC_i, zsW_s, zsW_a, Int.add_zero, Int.zero_add, true_and, false_and, and_false, Bool.false_eq_true, decide_true, decide_false, Bool.true_and, Bool.false_and, Bool.true_or, Bool.false_or, sub1, if_pos, if_neg, wv_0 S, wr_704 S, wr_705 S, wr_706 S, wr_707 S, wr_708 S, wr_709 S, wr_710 S, wr_711 S, tv_1 S, dv H, dg_128 H, dp_128 H, dg_129 H, dp_129 H, dg_130 H, dp_130 H, dg_131 H, dp_131 H, dr_132 H, da_132 H, dr_133 H, da_133 H, dr_134 H, da_134 H, dr_135 H, da_135 H, dr_136 H, da_136 H, dr_137 H, da_137 H, c_dAt Q, c_lAt Q, Option.isNone_some, e_Main_fits, ek, eg, wv_65 S, wr_449 S, wr_450 S, wg_448 S, wp_448 S, ct, and_true, (c_sure S U).1]
          · by_cases w2 : w = 2
            · refine ⟨_, _, ?_, T1⟩
              simp (disch := omega) only [if_true, if_false, not_true_eq_false, not_false_eq_true, zoI_s, zoR_s, zoH_s, zoL_s, zbI_s, zbV_s, zbR_s, zbL_s, zif_dec, i32_0, ne_eq, i32_lt, i32_le, i32_eq, i32_add, i32_mul, i32_sub, i32_neg, zrz_0, zrz_1, zif_t, zif_f, zsF_s, zsF_k, zsF_a, zsC_s, zsC_a, zsC_i, zsW_s, zsW_a, Int.add_zero, Int.zero_add, true_and, false_and, and_false, Bool.false_eq_true, decide_true, decide_false, Bool.true_and, Bool.false_and, Bool.true_or, Bool.false_or, sub1, if_pos, if_neg, wv_0 S, wr_704 S, wr_705 S, wr_706 S, wr_707 S, wr_708 S, wr_709 S, wr_710 S, wr_711 S, tv_1 S, dv H, dg_128 H, dp_128 H, dg_129 H, dp_129 H, dg_130 H, dp_130 H, dg_131 H, dp_131 H, dr_132 H, da_132 H, dr_133 H, da_133 H, dr_134 H, da_134 H, dr_135 H, da_135 H, dr_136 H, da_136 H, dr_137 H, da_137 H, c_dAt Q, c_lAt Q, Option.isNone_some, e_Main_fits, ek, eg, wv_65 S, wr_449 S, wr_450 S, wg_448 S, wp_448 S, ct, and_true, (c_sure S U).2]
            · by_cases w3 : w = 3
              · refine ⟨_, _, ?_, T1⟩
                simp (disch := omega) only [if_true, if_false, not_true_eq_false, not_false_eq_true, zoI_s, zoR_s, zoH_s, zoL_s, zbI_s, zbV_s, zbR_s, zbL_s, zif_dec, i32_0, ne_eq, i32_lt, i32_le, i32_eq, i32_add, i32_mul, i32_sub, i32_neg, zrz_0, zrz_1, zif_t, zif_f, zsF_s, zsF_k, zsF_a, zsC_s, zsC_a, zsC_i, zsW_s, zsW_a, Int.add_zero, Int.zero_add, true_and, false_and, and_false, Bool.false_eq_true, decide_true, decide_false, Bool.true_and, Bool.false_and, Bool.true_or, Bool.false_or, sub1, if_pos, if_neg, wv_0 S, wr_704 S, wr_705 S, wr_706 S, wr_707 S, wr_708 S, wr_709 S, wr_710 S, wr_711 S, tv_1 S, dv H, dg_128 H, dp_128 H, dg_129 H, dp_129 H, dg_130 H, dp_130 H, dg_131 H, dp_131 H, dr_132 H, da_132 H, dr_133 H, da_133 H, dr_134 H, da_134 H, dr_135 H, da_135 H, dr_136 H, da_136 H, dr_137 H, da_137 H, c_dAt Q, c_lAt Q, Option.isNone_some, e_Main_fits, ek, eg, wv_65 S, wr_449 S, wr_450 S, wg_448 S, wp_448 S, ct, and_true, c_whose S H V2 O Hl W2 P ct]
              · by_cases w4 : w = 4
                · obtain ⟨f2, en⟩ := c_nextToAsk S H V2 O ha U P
                  refine ⟨_, _, ?_, T1.sW (a := 67) (f := f2) (by omega) (by omega)⟩
                  simp (disch := omega) only [if_true, if_false, not_true_eq_false, not_false_eq_true, zoI_s, zoR_s, zoH_s, zoL_s, zbI_s, zbV_s, zbR_s, zbL_s, zif_dec, i32_0, ne_eq, i32_lt, i32_le, i32_eq, i32_add, i32_mul, i32_sub, i32_neg, zrz_0, zrz_1, zif_t, zif_f, zsF_s, zsF_k, zsF_a, zsC_s, zsC_a, zsC_i, zsW_s, zsW_a, Int.add_zero, Int.zero_add, true_and, false_and, and_false, Bool.false_eq_true, decide_true, decide_false, Bool.true_and, Bool.false_and, Bool.true_or, Bool.false_or, sub1, if_pos, if_neg, wv_0 S, wr_704 S, wr_705 S, wr_706 S, wr_707 S, wr_708 S, wr_709 S, wr_710 S, wr_711 S, tv_1 S, dv H, dg_128 H, dp_128 H, dg_129 H, dp_129 H, dg_130 H, dp_130 H, dg_131 H, dp_131 H, dr_132 H, da_132 H, dr_133 H, da_133 H, dr_134 H, da_134 H, dr_135 H, da_135 H, dr_136 H, da_136 H, dr_137 H, da_137 H, lv Hl, lg_192 Hl, lr_193 Hl, la_193 Hl, lr_194 Hl, la_194 Hl, lr_195 Hl, la_195 Hl, c_dAt Q, c_lAt Q, Option.isNone_some, e_Main_fits, ek, eg, wv_65 S, wr_449 S, wr_450 S, wg_448 S, wp_448 S, ct, and_true, W.1, en]
                · refine ⟨_, _, ?_, T1⟩
                  by_cases w10 : 10 ≤ w
                  · by_cases wn : w - 10 < cnS (soB (dOf (C 73) d) (lOf (C 73) l)) 80
                    · have g := lp (w - 10) (by omega) wn
                      have en := nth_lst lp (i := w - 10) (by omega) wn
                      simp (disch := omega) only [if_true, if_false, not_true_eq_false, not_false_eq_true, zoI_s, zoR_s, zoH_s, zoL_s, zbI_s, zbV_s, zbR_s, zbL_s, zif_dec, i32_0, ne_eq, i32_lt, i32_le, i32_eq, i32_add, i32_mul, i32_sub, i32_neg, zrz_0, zrz_1, zif_t, zif_f, zsF_s, zsF_k, zsF_a, zsC_s, zsC_a, zsC_i, zsW_s, zsW_a, Int.add_zero, Int.zero_add, true_and, false_and, and_false, Bool.false_eq_true, decide_true, decide_false, Bool.true_and, Bool.false_and, Bool.true_or, Bool.false_or, sub1, if_pos, if_neg, wv_0 S, wr_704 S, wr_705 S, wr_706 S, wr_707 S, wr_708 S, wr_709 S, wr_710 S, wr_711 S, tv_1 S, dv H, dg_128 H, dp_128 H, dg_129 H, dp_129 H, dg_130 H, dp_130 H, dg_131 H, dp_131 H, dr_132 H, da_132 H, dr_133 H, da_133 H, dr_134 H, da_134 H, dr_135 H, da_135 H, dr_136 H, da_136 H, dr_137 H, da_137 H, c_dAt Q, c_lAt Q, Option.isNone_some, e_Main_fits, ek, eg, wv_65 S, wr_449 S, wr_450 S, wg_448 S, wp_448 S, wa_66 S, ws_66 S, ct, and_true, e_Suspects_suspectAt, en]
                    · have en := nth_none (T := soB (dOf (C 73) d) (lOf (C 73) l)) (i := w - 10) (by omega)
                      simp (disch := omega) only [if_true, if_false, not_true_eq_false, not_false_eq_true, zoI_s, zoR_s, zoH_s, zoL_s, zbI_s, zbV_s, zbR_s, zbL_s, zif_dec, i32_0, ne_eq, i32_lt, i32_le, i32_eq, i32_add, i32_mul, i32_sub, i32_neg, zrz_0, zrz_1, zif_t, zif_f, zsF_s, zsF_k, zsF_a, zsC_s, zsC_a, zsC_i, zsW_s, zsW_a, Int.add_zero, Int.zero_add, true_and, false_and, and_false, Bool.false_eq_true, decide_true, decide_false, Bool.true_and, Bool.false_and, Bool.true_or, Bool.false_or, sub1, if_pos, if_neg, wv_0 S, wr_704 S, wr_705 S, wr_706 S, wr_707 S, wr_708 S, wr_709 S, wr_710 S, wr_711 S, tv_1 S, dv H, dg_128 H, dp_128 H, dg_129 H, dp_129 H, dg_130 H, dp_130 H, dg_131 H, dp_131 H, dr_132 H, da_132 H, dr_133 H, da_133 H, dr_134 H, da_134 H, dr_135 H, da_135 H, dr_136 H, da_136 H, dr_137 H, da_137 H, c_dAt Q, c_lAt Q, Option.isNone_some, e_Main_fits, ek, eg, wv_65 S, wr_449 S, wr_450 S, wg_448 S, wp_448 S, wa_66 S, ws_66 S, ct, and_true, e_Suspects_suspectAt, en]
                  · simp (disch := omega) only [if_true, if_false, not_true_eq_false, not_false_eq_true, zoI_s, zoR_s, zoH_s, zoL_s, zbI_s, zbV_s, zbR_s, zbL_s, zif_dec, i32_0, ne_eq, i32_lt, i32_le, i32_eq, i32_add, i32_mul, i32_sub, i32_neg, zrz_0, zrz_1, zif_t, zif_f, zsF_s, zsF_k, zsF_a, zsC_s, zsC_a, zsC_i, zsW_s, zsW_a, Int.add_zero, Int.zero_add, true_and, false_and, and_false, Bool.false_eq_true, decide_true, decide_false, Bool.true_and, Bool.false_and, Bool.true_or, Bool.false_or, sub1, if_pos, if_neg, wv_0 S, wr_704 S, wr_705 S, wr_706 S, wr_707 S, wr_708 S, wr_709 S, wr_710 S, wr_711 S, tv_1 S, dv H, dg_128 H, dp_128 H, dg_129 H, dp_129 H, dg_130 H, dp_130 H, dg_131 H, dp_131 H, dr_132 H, da_132 H, dr_133 H, da_133 H, dr_134 H, da_134 H, dr_135 H, da_135 H, dr_136 H, da_136 H, dr_137 H, da_137 H, c_dAt Q, c_lAt Q, Option.isNone_some, e_Main_fits, ek, eg, wv_65 S, wr_449 S, wr_450 S, wg_448 S, wp_448 S, ct, and_true]
    · refine ⟨F, C, ?_, tq.rfl⟩
      show _ = some (zI (i32 (if _ then _ else _)), _)
      rw [if_neg (fun z => c2 z.2.1)]
      simp (maxSteps := 2000000) (disch := omega) only [if_true, if_false, not_true_eq_false, not_false_eq_true, zoI_s, zoR_s, zoH_s, zoL_s, zbI_s, zbV_s, zbR_s, zbL_s, zif_dec, i32_0, ne_eq, i32_lt, i32_le, i32_eq, i32_add, i32_mul, i32_sub, i32_neg, zrz_0, zrz_1, zif_t, zif_f, zsF_s, zsF_k, zsF_a, zsC_s, zsC_a, zsC_i, zsW_s, zsW_a, Int.add_zero, Int.zero_add, true_and, false_and, and_false, Bool.false_eq_true, decide_true, decide_false, Bool.true_and, Bool.false_and, Bool.true_or, Bool.false_or, sub1, if_pos, if_neg, wv_0 S, wr_704 S, wr_705 S, wr_706 S, wr_707 S, wr_708 S, wr_709 S, wr_710 S, wr_711 S, tv_1 S, dv H, dg_128 H, dp_128 H, dg_129 H, dp_129 H, dg_130 H, dp_130 H, dg_131 H, dp_131 H, dr_132 H, da_132 H, dr_133 H, da_133 H, dr_134 H, da_134 H, dr_135 H, da_135 H, dr_136 H, da_136 H, dr_137 H, da_137 H, c_dAt Q, c_lAt0 Q, Option.isNone_some, Option.isNone_none, e_Main_fits]
  · refine ⟨F, C, ?_, tq.rfl⟩
    show _ = some (zI (i32 (if _ then _ else _)), _)
    rw [if_neg (fun z => c1 z.1)]
    by_cases c2 : 0 ≤ l ∧ l < C 73 2
    · simp (maxSteps := 2000000) (disch := omega) only [if_true, if_false, not_true_eq_false, not_false_eq_true, zoI_s, zoR_s, zoH_s, zoL_s, zbI_s, zbV_s, zbR_s, zbL_s, zif_dec, i32_0, ne_eq, i32_lt, i32_le, i32_eq, i32_add, i32_mul, i32_sub, i32_neg, zrz_0, zrz_1, zif_t, zif_f, zsF_s, zsF_k, zsF_a, zsC_s, zsC_a, zsC_i, zsW_s, zsW_a, Int.add_zero, Int.zero_add, true_and, false_and, and_false, Bool.false_eq_true, decide_true, decide_false, Bool.true_and, Bool.false_and, Bool.true_or, Bool.false_or, sub1, if_pos, if_neg, wv_0 S, wr_704 S, wr_705 S, wr_706 S, wr_707 S, wr_708 S, wr_709 S, wr_710 S, wr_711 S, tv_1 S, c_dAt0 Q, c_lAt Q, Option.isNone_some, Option.isNone_none, e_Main_fits]
    · simp (maxSteps := 2000000) (disch := omega) only [if_true, if_false, not_true_eq_false, not_false_eq_true, zoI_s, zoR_s, zoH_s, zoL_s, zbI_s, zbV_s, zbR_s, zbL_s, zif_dec, i32_0, ne_eq, i32_lt, i32_le, i32_eq, i32_add, i32_mul, i32_sub, i32_neg, zrz_0, zrz_1, zif_t, zif_f, zsF_s, zsF_k, zsF_a, zsC_s, zsC_a, zsC_i, zsW_s, zsW_a, Int.add_zero, Int.zero_add, true_and, false_and, and_false, Bool.false_eq_true, decide_true, decide_false, Bool.true_and, Bool.false_and, Bool.true_or, Bool.false_or, sub1, if_pos, if_neg, wv_0 S, wr_704 S, wr_705 S, wr_706 S, wr_707 S, wr_708 S, wr_709 S, wr_710 S, wr_711 S, tv_1 S, c_dAt0 Q, c_lAt0 Q, Option.isNone_some, Option.isNone_none, e_Main_fits]
