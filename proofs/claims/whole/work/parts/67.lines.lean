/-! the class reads a line: numbers -/
def nxS (B : Int → Int) (n s : Int) : Int := tS B n (tE B n s)
theorem nxS_le {B : Int → Int} {n s : Int} (h : s ≤ n) : s ≤ nxS B n s ∧ nxS B n s ≤ n ∧ (s < n → s < nxS B n s) := by
  have e := tE_le (B := B) h
  have t := tS_le (B := B) (p := tE B n s) e.2.1
  unfold nxS
  omega
/-- a number from lo to hi that isn't x: (where the token begins, the fault, its place) -/
def nuQ (B : Int → Int) (n lo hi x : Int) (q : Int × Int × Int) : Int × Int × Int := if q.2.1 = 1 then q else if tK B n q.1 = 1 then (if q.2.1 = 0 ∧ ¬ (lo ≤ tN B n q.1 ∧ tN B n q.1 ≤ hi ∧ tN B n q.1 ≠ x) then (nxS B n q.1, 2, q.1) else (nxS B n q.1, q.2)) else (q.1, 1, q.1)
def nmQ (B : Int → Int) (n : Int) : List (Int × Int × Bool) → Int → Int × Int × Int → Int × Int × Int
  | [], _, q => q
  | a :: r, pv, q => nmQ B n r (tN B n q.1) (nuQ B n a.1 a.2.1 (if a.2.2 = true then pv else -5) q)
theorem nuQ_1 {B : Int → Int} {n lo hi x : Int} {q : Int × Int × Int} (h : q.2.1 = 1) : nuQ B n lo hi x q = q := if_pos h
theorem nmQ_1 {B : Int → Int} {n : Int} : ∀ (r : List (Int × Int × Bool)) (pv : Int) (q : Int × Int × Int), q.2.1 = 1 → nmQ B n r pv q = q := by
  intro r
  induction r with
  | nil => intro pv q _; rfl
  | cons a r ih => intro pv q h; rw [nmQ, nuQ_1 h]; exact ih _ _ h
theorem tN_rng {B : Int → Int} {n s : Int} (hs : s ≤ n) (hk : tK B n s = 1) : 0 ≤ tN B n s ∧ tN B n s ≤ 99 := by
  have c0 : ¬ (n ≤ s) := by intro z; unfold tK at hk; rw [if_pos z] at hk; omega
  have cl : ¬ (bL (B s) = true) := by intro z; unfold tK at hk; rw [if_neg c0, if_pos z] at hk; omega
  have cg : bG (B s) = true := by
    by_cases z : bG (B s) = true
    · exact z
    · unfold tK at hk
      rw [if_neg c0, if_neg cl, if_neg z] at hk
      split at hk <;> omega
  have hE : tE B n s = rnE bG B n s := by unfold tE; rw [if_neg c0, if_neg cl, if_pos cg]
  have h2 : rnE bG B n s - s ≤ 2 := by
    unfold tK at hk
    rw [if_neg c0, if_neg cl, if_pos cg, hE] at hk
    split at hk
    · rename_i z; exact z
    · omega
  have st := rnE_stop (P := bG) (B := B) (n := n) (n - s).toNat s (by omega) hs
  have g1 : 48 ≤ B s ∧ B s ≤ 57 := by unfold bG at cg; rwa [decide_eq_true_eq] at cg
  unfold tN
  obtain ⟨j, hj⟩ : ∃ j, (n - s).toNat = j + 1 := ⟨(n - s).toNat - 1, by omega⟩
  rw [hj, runV, if_pos ⟨by omega, cg⟩]
  rw [rnE_t (by omega) cg] at h2 st
  cases j with
  | zero => rw [runV]; omega
  | succ j =>
    rw [runV]
    by_cases c1 : s + 1 < n ∧ bG (B (s + 1)) = true
    · have g2 : 48 ≤ B (s + 1) ∧ B (s + 1) ≤ 57 := by have := c1.2; unfold bG at this; rwa [decide_eq_true_eq] at this
      rw [if_pos c1]
      rw [rnE_t c1.1 c1.2] at h2 st
      have le := rnE_le (P := bG) (B := B) (n := n) (p := s + 1 + 1) (by omega)
      have e2 : rnE bG B n (s + 1 + 1) = s + 1 + 1 := by omega
      rw [e2] at st
      cases j with
      | zero => rw [runV]; omega
      | succ j => rw [runV, if_neg st]; omega
    · rw [if_neg c1]; omega
/-- the reader's fields that a line changes -/
def rd2 (F F' : Nat → Nat → Int) : Prop := ∀ k a, ¬ (a = 35 ∧ 323 ≤ k ∧ k ≤ 330) → F' k a = F k a
theorem rd2.rfl (F : Nat → Nat → Int) : rd2 F F := fun _ _ _ => Eq.refl _
theorem rd2.trans {F F1 F2 : Nat → Nat → Int} (h1 : rd2 F F1) (h2 : rd2 F1 F2) : rd2 F F2 := fun k a c => (h2 k a c).trans (h1 k a c)
theorem rd2.sF {F F1 : Nat → Nat → Int} (h1 : rd2 F F1) {k : Nat} {x : Int} (h0 : 323 ≤ k) (h2 : k ≤ 330) : rd2 F (zsF F1 k 35 x) := fun k' a' c => (if_neg (by omega)).trans (h1 k' a' c)
theorem rdE.r2 {F F' : Nat → Nat → Int} (h : rdE F F') : rd2 F F' := fun k a c => h k a (by omega)
theorem tpC.r2 {F F' : Nat → Nat → Int} {C C' : Nat → Int → Int} {B : Int → Int} {n : Int} (T : tpC F C B n) (h : rd2 F F') (hc : C' 3 = C 3) : tpC F' C' B n := ⟨(h 513 2 (by omega)).trans T.1, T.2.1, by rw [hc]; exact T.2.2⟩
/-- token, fault and place lie in the reader -/
def lcR (F : Nat → Nat → Int) (B : Int → Int) (n : Int) (q : Int × Int × Int) : Prop := tkC F B n q.1 ∧ F 323 35 = q.2.1 ∧ F 324 35 = q.2.2
/-- what is known of (token, fault, place) -/
def qI (n : Int) (q : Int × Int × Int) : Prop := (0 ≤ q.1 ∧ q.1 ≤ n) ∧ (0 ≤ q.2.1 ∧ q.2.1 ≤ 3) ∧ (-1 ≤ q.2.2 ∧ q.2.2 ≤ 600) ∧ (q.2.1 = 0 ∨ q.2.1 = 1 ∨ q.2.2 < q.1) ∧ (q.2.1 = 1 → q.2.2 = q.1)
theorem qI.nu {B : Int → Int} {n lo hi x : Int} {q : Int × Int × Int} (hn : n ≤ 600) (I : qI n q) : qI n (nuQ B n lo hi x q) := by
  obtain ⟨i1, i2, i3, i4, i5⟩ := I
  unfold nuQ
  split
  · exact ⟨i1, i2, i3, i4, i5⟩
  · rename_i c1
    split
    · rename_i c2
      have sn : q.1 < n := by
        by_cases z : n ≤ q.1
        · unfold tK at c2; rw [if_pos z] at c2; omega
        · omega
      have nx := nxS_le (B := B) (n := n) (s := q.1) i1.2
      split
      · exact ⟨⟨by dsimp only; omega, by dsimp only; omega⟩, ⟨by dsimp only; omega, by dsimp only; omega⟩, ⟨by dsimp only; omega, by dsimp only; omega⟩, by dsimp only; omega, fun z => by dsimp only at z; omega⟩
      · exact ⟨⟨by dsimp only; omega, by dsimp only; omega⟩, i2, i3, by dsimp only; omega, fun z => absurd z c1⟩
    · exact ⟨i1, ⟨by dsimp only; omega, by dsimp only; omega⟩, ⟨by dsimp only; omega, by dsimp only; omega⟩, Or.inr (Or.inl rfl), fun _ => rfl⟩
theorem qI.nm {B : Int → Int} {n : Int} (hn : n ≤ 600) : ∀ (r : List (Int × Int × Bool)) (pv : Int) (q : Int × Int × Int), qI n q → qI n (nmQ B n r pv q) := by
  intro r
  induction r with
  | nil => intro pv q h; exact h
  | cons a r ih => intro pv q h; rw [nmQ]; exact ih _ _ (h.nu hn)
def knS (h : zHeap) : Prop := hAI h 1000002 = some (0, 13, fun j => i32 (zTb0.getD j 0)) ∧ hAI h 1000003 = some (0, 13, fun j => i32 (zTb1.getD j 0)) ∧ hAI h 1000004 = some (0, 65, fun j => i32 (zTb2.getD j 0))
section RL
variable {h : zHeap} {F : Nat → Nat → Int} {C : Nat → Int → Int} {B : Int → Int} {n : Int} {q : Int × Int × Int}
theorem k_0 (kn : knS h) {l : Int} (h0 : 0 ≤ l) (h1 : l < 13) : zaI (zw h F C) (some 1000002) (i32 l) 0 = some (i32 (zTb0.getD l.toNat 0)) := zaI_s (n := 13) (f := fun j => i32 (zTb0.getD j 0)) (show hAI (zw h F C) 1000002 = _ from by rw [← kn.1]; rfl) h0 h1 (by omega)
theorem k_1 (kn : knS h) {l : Int} (h0 : 0 ≤ l) (h1 : l < 13) : zaI (zw h F C) (some 1000003) (i32 l) 0 = some (i32 (zTb1.getD l.toNat 0)) := zaI_s (n := 13) (f := fun j => i32 (zTb1.getD j 0)) (show hAI (zw h F C) 1000003 = _ from by rw [← kn.2.1]; rfl) h0 h1 (by omega)
theorem k_2 (kn : knS h) {l : Int} (h0 : 0 ≤ l) (h1 : l < 65) : zaI (zw h F C) (some 1000004) (i32 l) 0 = some (i32 (zTb2.getD l.toNat 0)) := zaI_s (n := 65) (f := fun j => i32 (zTb2.getD j 0)) (show hAI (zw h F C) 1000004 = _ from by rw [← kn.2.2]; rfl) h0 h1 (by omega)
theorem c_canBe (S : St h) (kn : knS h) {l i lo hi x v : Int} (l0 : 0 ≤ l) (l1 : l < 13) (i0 : 0 ≤ i) (i1 : i < 5) (hlo : (if i = 0 then zTb1.getD l.toNat 0 else 0) = lo) (hhi : zTb2.getD (l * 5 + i).toNat 0 = hi) (lr : -5 ≤ lo ∧ lo ≤ 1000) (hr : -5 ≤ hi ∧ hi ≤ 1000) (hv : C 49 i = v) (v0 : 0 ≤ v) (v1 : v ≤ 99) (hx : (l = 6 ∧ (i = 1 ∨ i = 3) ∧ C 49 (i - 1) = x ∧ 0 ≤ x ∧ x ≤ 99) ∨ (¬ (l = 6 ∧ (i = 1 ∨ i = 3)) ∧ x = -5)) : zc 79 [zR (some 35), zI (i32 l), zI (i32 i)] (zw h F C) = some (zI (i32 (if lo ≤ v ∧ v ≤ hi ∧ v ≠ x then 1 else 0)), zw h F C) := by
  have go : zc 79 [zR (some 35), zI (i32 l), zI (i32 i)] (zw h F C) = zr 79 7 [yR (some 35), yI (i32 l), yI (i32 i), none, none] [zI (i32 lo)] (zw h F C) := by
    by_cases c : i = 0
    · subst c
      rw [if_pos rfl] at hlo
      have k := k_1 (F := F) (C := C) kn l0 l1
      rw [hlo] at k
      simp only [zoI_s, zoR_s, zoH_s, zoL_s, zbI_s, zbV_s, zbR_s, zbL_s, zif_t, zif_f, zrz_0, zrz_1, decide_true, decide_false, e_Reader_canBe, d0ne, k]
    · rw [if_neg c] at hlo
      have dc : decide (i32 i ≠ 0) = true := dT (by rw [i32_0, ne_eq, i32_eq (by omega) (by omega) (by omega) (by omega)]; exact c)
      simp only [zoI_s, zoR_s, zoH_s, zoL_s, zbI_s, zbV_s, zbR_s, zbL_s, zif_t, zif_f, zrz_0, zrz_1, decide_true, decide_false, e_Reader_canBe, dc]
      rw [hlo]
  have a1 := wa_49 (F := F) (C := C) S (i := i) (by omega) (by omega)
  rw [hv] at a1
  have k2 := k_2 (F := F) (C := C) kn (l := l * 5 + i) (by omega) (by omega)
  rw [hhi] at k2
  rw [go]
  by_cases c1 : v < lo
  · have d1 : decide (i32 v < i32 lo) = true := dT (by rw [i32_lt (by omega) (by omega) (by omega) (by omega)]; exact c1)
    rw [if_neg (by omega)]
    simp only [zoI_s, zoR_s, zoH_s, zoL_s, zbI_s, zbV_s, zbR_s, zbL_s, zif_t, zif_f, zrz_0, zrz_1, decide_true, decide_false, e_Reader_canBe_7, wr_326 S, a1, d1]
  · have d1 : decide (i32 v < i32 lo) = false := dF (by rw [i32_lt (by omega) (by omega) (by omega) (by omega)]; exact c1)
    by_cases c2 : v ≤ hi
    · have d2 : decide (i32 v ≤ i32 hi) = true := dT (by rw [i32_le (by omega) (by omega) (by omega) (by omega)]; exact c2)
      rcases hx with ⟨rfl, hi2, hx, x0, x1⟩ | ⟨hx, rfl⟩
      · have d3 : decide (i32 6 ≠ i32 6) = false := by decide
        have a2 := wa_49 (F := F) (C := C) S (i := i - 1) (by omega) (by omega)
        rw [hx] at a2
        have d6 : decide (i32 v = i32 x) = decide (v = x) := by
          by_cases z : v = x
          · rw [dT z, dT (by rw [z])]
          · rw [dF z, dF (by rw [i32_eq (by omega) (by omega) (by omega) (by omega)]; exact z)]
        have fin : zif (decide (v = x)) (some (zI (i32 0), zw h F C)) (some (zI (i32 1), zw h F C)) = some (zI (i32 (if lo ≤ v ∧ v ≤ hi ∧ v ≠ x then 1 else 0)), zw h F C) := by
          by_cases z : v = x
          · rw [zif_p z, if_neg (by omega)]
          · rw [zif_n z, if_pos (by omega)]
        rw [← fin]
        rcases hi2 with rfl | rfl
        · have d4 : decide (i32 1 = i32 1) = true := by decide
          simp only [zoI_s, zoR_s, zoH_s, zoL_s, zbI_s, zbV_s, zbR_s, zbL_s, zif_t, zif_f, zrz_0, zrz_1, decide_true, decide_false, e_Reader_canBe_7, wr_326 S, a1, d1, i32_mul, i32_add, k2, d2, d3, d4, d10, i32_sub, a2, d6]
        · have d4 : decide (i32 3 = i32 1) = false := by decide
          have d5 : decide (i32 3 ≠ i32 3) = false := by decide
          simp only [zoI_s, zoR_s, zoH_s, zoL_s, zbI_s, zbV_s, zbR_s, zbL_s, zif_t, zif_f, zrz_0, zrz_1, decide_true, decide_false, e_Reader_canBe_7, wr_326 S, a1, d1, i32_mul, i32_add, k2, d2, d3, d4, d5, d10, i32_sub, a2, d6]
      · rw [if_pos (by omega)]
        by_cases c3 : l = 6
        · have d3 : decide (i32 l ≠ i32 6) = false := dF (by rw [c3]; exact fun z => z rfl)
          have d4 : decide (i32 i = i32 1) = false := dF (by rw [i32_eq (by omega) (by omega) (by omega) (by omega)]; omega)
          have d5 : decide (i32 i ≠ i32 3) = true := dT (by rw [ne_eq, i32_eq (by omega) (by omega) (by omega) (by omega)]; omega)
          simp only [zoI_s, zoR_s, zoH_s, zoL_s, zbI_s, zbV_s, zbR_s, zbL_s, zif_t, zif_f, zrz_0, zrz_1, decide_true, decide_false, e_Reader_canBe_7, wr_326 S, a1, d1, i32_mul, i32_add, k2, d2, d3, d4, d5, d0eq]
        · have d3 : decide (i32 l ≠ i32 6) = true := dT (by rw [ne_eq, i32_eq (by omega) (by omega) (by omega) (by omega)]; exact c3)
          simp only [zoI_s, zoR_s, zoH_s, zoL_s, zbI_s, zbV_s, zbR_s, zbL_s, zif_t, zif_f, zrz_0, zrz_1, decide_true, decide_false, e_Reader_canBe_7, wr_326 S, a1, d1, i32_mul, i32_add, k2, d2, d3, d0eq]
    · have d2 : decide (i32 v ≤ i32 hi) = false := dF (by rw [i32_le (by omega) (by omega) (by omega) (by omega)]; exact c2)
      rw [if_neg (by omega)]
      simp only [zoI_s, zoR_s, zoH_s, zoL_s, zbI_s, zbV_s, zbR_s, zbL_s, zif_t, zif_f, zrz_0, zrz_1, decide_true, decide_false, e_Reader_canBe_7, wr_326 S, a1, d1, i32_mul, i32_add, k2, d2]
theorem c_blame (S : St h) {f pl s w : Int} (e1 : F 323 35 = f) (e2 : F 324 35 = pl) (e3 : F 328 35 = s) (f0 : 0 ≤ f) (f1 : f ≤ 3) : ∃ F', zc 77 [zR (some 35), zI (i32 w)] (zw h F C) = some (zI 0, zw h F' C) ∧ F' = (if f = 0 then zsF (zsF F 323 35 w) 324 35 s else F) := by
  refine ⟨_, ?_, rfl⟩
  by_cases c : f = 0
  · rw [if_pos c]
    have wg := wg_328 (F := zsF F 323 35 w) (C := C) S
    rw [zsF_k (by omega), e3] at wg
    rw [c] at e1
    simp only [zoI_s, zoR_s, zoH_s, zoL_s, zbI_s, zbV_s, zbR_s, zbL_s, zif_t, zif_f, zrz_0, zrz_1, decide_true, decide_false, e_Reader_blame, wg_323 S, e1, d0ne, wp_323 S, wg, wp_324 S]
  · rw [if_neg c]
    have dc : decide (i32 f ≠ 0) = true := dT (by rw [i32_0, ne_eq, i32_eq (by omega) (by omega) (by omega) (by omega)]; exact c)
    simp only [zoI_s, zoR_s, zoH_s, zoL_s, zbI_s, zbV_s, zbR_s, zbL_s, zif_t, zif_f, zrz_0, zrz_1, decide_true, decide_false, e_Reader_blame, wg_323 S, e1, dc]
theorem c_num (S : St h) (kn : knS h) (T : tpC F C B n) (R : lcR F B n q) (I : qI n q) (hf : q.2.1 ≠ 1) {sort l i lo hi x : Int} (l0 : 0 ≤ l) (l1 : l < 13) (i0 : 0 ≤ i) (hN : i < zTb0.getD l.toNat 0) (i1 : i < 5) (hN5 : zTb0.getD l.toNat 0 ≤ 5) (hlo : (if i = 0 then zTb1.getD l.toNat 0 else 0) = lo) (hhi : zTb2.getD (l * 5 + i).toNat 0 = hi) (lr : -5 ≤ lo ∧ lo ≤ 1000) (hr : -5 ≤ hi ∧ hi ≤ 1000) (hx : (l = 6 ∧ (i = 1 ∨ i = 3) ∧ C 49 (i - 1) = x ∧ 0 ≤ x ∧ x ≤ 99) ∨ (¬ (l = 6 ∧ (i = 1 ∨ i = 3)) ∧ x = -5)) (hk : tK B n q.1 = 1) : ∃ F', zr 76 25 [yR (some 35), yI (i32 sort), yI (i32 l), yI (i32 i)] [] (zw h F C) = zr 76 25 [yR (some 35), yI (i32 sort), yI (i32 l), yI (i32 (i + 1))] [] (zw h F' (zsC C 49 i (tN B n q.1))) ∧ rd2 F F' ∧ lcR F' B n (nuQ B n lo hi x q) := by
  have vr := tN_rng (B := B) (n := n) (s := q.1) I.1.2 hk
  obtain ⟨⟨r1, r2, r3, r4⟩, r5, r6⟩ := R
  have r4' := r4 hk
  rw [hk] at r3
  have k0 := k_0 (F := F) (C := C) kn l0 l1
  have dN : decide (i32 (zTb0.getD l.toNat 0) ≤ i32 i) = false := dF (by rw [i32_le (by omega) (by omega) (by omega) (by omega)]; omega)
  have ws := ws_49 (F := F) (C := C) S (i := i) (by omega) (by omega) (tN B n q.1)
  have hx' : (l = 6 ∧ (i = 1 ∨ i = 3) ∧ zsC C 49 i (tN B n q.1) 49 (i - 1) = x ∧ 0 ≤ x ∧ x ≤ 99) ∨ (¬ (l = 6 ∧ (i = 1 ∨ i = 3)) ∧ x = -5) := by
    rw [zsC_i (by omega)]; exact hx
  have cb := c_canBe (F := F) (C := zsC C 49 i (tN B n q.1)) S kn l0 l1 i0 i1 hlo hhi lr hr (v := tN B n q.1) (zsC_s ..) vr.1 vr.2 hx'
  have T1 : tpC F (zsC C 49 i (tN B n q.1)) B n := T.r2 (rd2.rfl F) (zsC_a (by omega))
  have eN : nuQ B n lo hi x q = if q.2.1 = 0 ∧ ¬ (lo ≤ tN B n q.1 ∧ tN B n q.1 ≤ hi ∧ tN B n q.1 ≠ x) then (nxS B n q.1, 2, q.1) else (nxS B n q.1, q.2) := by
    unfold nuQ
    rw [if_neg hf, if_pos hk]
  have d1 : decide (i32 1 = i32 1) = true := by decide
  have el := tE_le (B := B) (n := n) (s := q.1) I.1.2
  by_cases ok : lo ≤ tN B n q.1 ∧ tN B n q.1 ≤ hi ∧ tN B n q.1 ≠ x
  · rw [if_pos ok] at cb
    obtain ⟨F', e, rd, tk⟩ := c_advance S T1 (p := tE B n q.1) r2 (by have := I.1; omega) el.2.1
    refine ⟨F', ?_, rd.r2, ?_⟩
    · rw [e_Reader_readLine_25]
      simp only [zoI_s, zoR_s, zoH_s, zoL_s, zbI_s, zbV_s, zbR_s, zbL_s, zif_t, zif_f, zrz_0, zrz_1, decide_true, decide_false, k0, dN, wg_329 S, r3, d1, wr_326 S, wg_330 S, r4', ws, wv_35 S, cb, d1ne, e, i32_add]
    · rw [eN, if_neg (fun z => z.2 ok)]
      exact ⟨tk, (rd 323 35 (by omega)).trans r5, (rd 324 35 (by omega)).trans r6⟩
  · rw [if_neg ok] at cb
    obtain ⟨F1, eb, hF1⟩ := c_blame (F := F) (C := zsC C 49 i (tN B n q.1)) S (w := 2) r5 r6 r1 I.2.1.1 I.2.1.2
    have rd1 : rd2 F F1 := by
      rw [hF1]
      split
      · exact ((rd2.rfl F).sF (by omega) (by omega)).sF (by omega) (by omega)
      · exact rd2.rfl F
    have T2 := T1.r2 rd1 rfl
    have p1 : F1 327 35 = tE B n q.1 := by
      rw [hF1]
      split
      · exact r2
      · exact r2
    obtain ⟨F', e, rd, tk⟩ := c_advance S T2 (p := tE B n q.1) p1 (by have := I.1; omega) el.2.1
    refine ⟨F', ?_, rd1.trans rd.r2, ?_⟩
    · rw [e_Reader_readLine_25]
      simp only [zoI_s, zoR_s, zoH_s, zoL_s, zbI_s, zbV_s, zbR_s, zbL_s, zif_t, zif_f, zrz_0, zrz_1, decide_true, decide_false, k0, dN, wg_329 S, r3, d1, wr_326 S, wg_330 S, r4', ws, wv_35 S, cb, d0ne, eb, e, i32_add]
    · rw [eN]
      by_cases z : q.2.1 = 0
      · rw [if_pos ⟨z, ok⟩]
        rw [if_pos z] at hF1
        refine ⟨tk, (rd 323 35 (by omega)).trans ?_, (rd 324 35 (by omega)).trans ?_⟩
        · rw [hF1]; rfl
        · rw [hF1]; rfl
      · rw [if_neg (fun y => z y.1)]
        rw [if_neg z] at hF1
        refine ⟨tk, (rd 323 35 (by omega)).trans ?_, (rd 324 35 (by omega)).trans ?_⟩
        · rw [hF1]; exact r5
        · rw [hF1]; exact r6
/-- not a number: the line ends here -/
theorem c_num0 (S : St h) (kn : knS h) (R : lcR F B n q) {sort l i : Int} (l0 : 0 ≤ l) (l1 : l < 13) (i0 : 0 ≤ i) (i1 : i < 5) (hN : i < zTb0.getD l.toNat 0) (hN5 : zTb0.getD l.toNat 0 ≤ 5) (hk : tK B n q.1 ≠ 1) : zr 76 25 [yR (some 35), yI (i32 sort), yI (i32 l), yI (i32 i)] [] (zw h F C) = some (zI (i32 0), zw h F C) := by
  have k0 := k_0 (F := F) (C := C) kn l0 l1
  have dN : decide (i32 (zTb0.getD l.toNat 0) ≤ i32 i) = false := dF (by rw [i32_le (by omega) (by omega) (by omega) (by omega)]; omega)
  have kr := tK_rng B n q.1
  have dk : decide (i32 (tK B n q.1) = i32 1) = false := dF (by rw [i32_eq (by omega) (by omega) (by omega) (by omega)]; exact hk)
  have r3 := R.1.2.2.1
  rw [e_Reader_readLine_25]
  simp only [zoI_s, zoR_s, zoH_s, zoL_s, zbI_s, zbV_s, zbR_s, zbL_s, zif_t, zif_f, zrz_0, zrz_1, decide_true, decide_false, k0, dN, wg_329 S, r3, dk]
end RL
/-- the table's rows of line l from i on -/
def tbM (l : Int) : Int → List (Int × Int × Bool) → Prop
  | i, [] => zTb0.getD l.toNat 0 = i
  | i, a :: r => (i < zTb0.getD l.toNat 0 ∧ i < 5) ∧ (if i = 0 then zTb1.getD l.toNat 0 else 0) = a.1 ∧ zTb2.getD (l * 5 + i).toNat 0 = a.2.1 ∧ (-5 ≤ a.1 ∧ a.1 ≤ 1000) ∧ (-5 ≤ a.2.1 ∧ a.2.1 ≤ 1000) ∧ ((l = 6 ∧ (i = 1 ∨ i = 3)) ↔ a.2.2 = true) ∧ tbM l (i + 1) r
def tbl (l : Int) : List (Int × Int × Bool) := if l = 0 then [(0, 9, false), (0, 7, false)] else if l = 1 then [(1, 9, false)] else if l = 2 then [(1, 15, false), (0, 3, false)] else if l = 3 then [(0, 9, false)] else if l = 4 then [(0, 7, false)] else if l = 5 then [(0, 5, false), (0, 3, false), (0, 7, false)] else if l = 6 then [(0, 5, false), (0, 5, true), (0, 3, false), (0, 3, true), (0, 7, false)] else if l = 7 then [(0, 5, false)] else if l = 8 then [(0, 5, false)] else if l = 9 then [(0, 9, false)] else if l = 10 then [] else if l = 11 then [(0, 3, false), (0, 7, false), (0, 7, false)] else [(0, 3, false), (0, 7, false)]
theorem tbl_ok {l : Int} (l0 : 0 ≤ l) (l1 : l < 13) : tbM l 0 (tbl l) ∧ zTb0.getD l.toNat 0 ≤ 5 ∧ ((tbl l).length : Int) = zTb0.getD l.toNat 0 := by
  rcases (show l = 0 ∨ l = 1 ∨ l = 2 ∨ l = 3 ∨ l = 4 ∨ l = 5 ∨ l = 6 ∨ l = 7 ∨ l = 8 ∨ l = 9 ∨ l = 10 ∨ l = 11 ∨ l = 12 by omega) with rfl | rfl | rfl | rfl | rfl | rfl | rfl | rfl | rfl | rfl | rfl | rfl | rfl <;> exact ⟨by simp [tbM, tbl, zTb0, zTb1, zTb2], by decide, by decide⟩
/-- the numbers' places: s, behind it .. -/
def psN (B : Int → Int) (n s : Int) : Nat → Int
  | 0 => s
  | i + 1 => nxS B n (psN B n s i)
theorem psN_s (B : Int → Int) (n s : Int) : ∀ j : Nat, psN B n (nxS B n s) j = psN B n s (j + 1) := by
  intro j
  induction j with
  | zero => rfl
  | succ j ih => rw [psN, ih]; rfl
section RL2
variable {h : zHeap} {B : Int → Int} {n : Int}
theorem nuQ_f {lo hi x : Int} {q : Int × Int × Int} (hf : q.2.1 ≠ 1) (hk : tK B n q.1 = 1) : (nuQ B n lo hi x q).2.1 ≠ 1 := by
  unfold nuQ
  rw [if_neg hf, if_pos hk]
  split
  · show (2 : Int) ≠ 1
    omega
  · exact hf
theorem nuQ_ok {lo hi x : Int} {q : Int × Int × Int} (h1 : (nuQ B n lo hi x q).2.1 ≠ 1) : q.2.1 ≠ 1 ∧ tK B n q.1 = 1 ∧ (nuQ B n lo hi x q).1 = nxS B n q.1 := by
  unfold nuQ at h1 ⊢
  split
  · rename_i c; rw [if_pos c] at h1; exact absurd c h1
  · rename_i c
    rw [if_neg c] at h1
    split
    · rename_i c2
      refine ⟨c, c2, ?_⟩
      split <;> rfl
    · rename_i c2
      rw [if_neg c2] at h1
      exact absurd rfl h1
theorem nmQ_ok : ∀ (r : List (Int × Int × Bool)) (pv : Int) (q : Int × Int × Int), (nmQ B n r pv q).2.1 ≠ 1 → q.2.1 ≠ 1 := by
  intro r pv q h1 h2
  rw [nmQ_1 r pv q h2] at h1
  exact h1 h2
theorem c_nums (S : St h) (kn : knS h) {sort l : Int} (l0 : 0 ≤ l) (l1 : l < 13) (hN5 : zTb0.getD l.toNat 0 ≤ 5) (hn : n ≤ 600) : ∀ (r : List (Int × Int × Bool)) (i : Int) (pv : Int) (q : Int × Int × Int) (F : Nat → Nat → Int) (C : Nat → Int → Int), tbM l i r → 0 ≤ i → (i ≠ 0 → C 49 (i - 1) = pv ∧ 0 ≤ pv ∧ pv ≤ 99) → tpC F C B n → lcR F B n q → qI n q → q.2.1 ≠ 1 →
    ((nmQ B n r pv q).2.1 = 1 → ∃ F' C', zr 76 25 [yR (some 35), yI (i32 sort), yI (i32 l), yI (i32 i)] [] (zw h F C) = some (zI (i32 0), zw h F' C') ∧ rd2 F F' ∧ (∀ a, a ≠ 49 → C' a = C a) ∧ F' 328 35 = (nmQ B n r pv q).2.2) ∧
    ((nmQ B n r pv q).2.1 ≠ 1 → ∃ F' C', zr 76 25 [yR (some 35), yI (i32 sort), yI (i32 l), yI (i32 i)] [] (zw h F C) = zr 76 25 [yR (some 35), yI (i32 sort), yI (i32 l), yI (i32 (i + r.length))] [] (zw h F' C') ∧ rd2 F F' ∧ (∀ a, a ≠ 49 → C' a = C a) ∧ (∀ j, j < i → C' 49 j = C 49 j) ∧ (∀ j : Nat, j < r.length → C' 49 (i + j) = tN B n (psN B n q.1 j)) ∧ lcR F' B n (nmQ B n r pv q) ∧ (nmQ B n r pv q).1 = psN B n q.1 r.length) := by
  intro r
  induction r with
  | nil =>
    intro i pv q F C M i0 hp T R I hf
    refine ⟨fun z => absurd z hf, fun _ => ⟨F, C, ?_, rd2.rfl F, fun _ _ => rfl, fun _ _ => rfl, fun j hj => absurd hj (Nat.not_lt_zero _), R, rfl⟩⟩
    rw [show i + (([] : List (Int × Int × Bool)).length : Int) = i by simp]
  | cons a r ih =>
    intro i pv q F C M i0 hp T R I hf
    obtain ⟨⟨m1, m1'⟩, m2, m3, m4, m5, m6, m7⟩ := M
    rw [nmQ]
    by_cases hk : tK B n q.1 = 1
    · have hx : (l = 6 ∧ (i = 1 ∨ i = 3) ∧ C 49 (i - 1) = (if a.2.2 = true then pv else -5) ∧ 0 ≤ (if a.2.2 = true then pv else -5) ∧ (if a.2.2 = true then pv else -5) ≤ 99) ∨ (¬ (l = 6 ∧ (i = 1 ∨ i = 3)) ∧ (if a.2.2 = true then pv else -5) = -5) := by
        by_cases z : a.2.2 = true
        · rw [if_pos z]
          have w := m6.mpr z
          have := hp (by omega)
          exact Or.inl ⟨w.1, w.2, this.1, this.2⟩
        · rw [if_neg z]
          exact Or.inr ⟨fun w => z (m6.mp w), rfl⟩
      obtain ⟨F1, e1, rd1, R1⟩ := c_num S kn T R I hf (sort := sort) l0 l1 i0 m1 m1' hN5 m2 m3 m4 m5 hx hk
      have vr := tN_rng (B := B) (n := n) (s := q.1) I.1.2 hk
      have I1 := I.nu (B := B) (lo := a.1) (hi := a.2.1) (x := if a.2.2 = true then pv else -5) hn
      have f1 : (nuQ B n a.1 a.2.1 (if a.2.2 = true then pv else -5) q).2.1 ≠ 1 := nuQ_f hf hk
      have T1 : tpC F1 (zsC C 49 i (tN B n q.1)) B n := T.r2 rd1 (zsC_a (by omega))
      have H := ih (i + 1) (tN B n q.1) (nuQ B n a.1 a.2.1 (if a.2.2 = true then pv else -5) q) F1 (zsC C 49 i (tN B n q.1)) m7 (by omega) (fun _ => ⟨by rw [show i + 1 - 1 = i by omega, zsC_s], vr⟩) T1 R1 I1 f1
      have h1 := (nuQ_ok (B := B) (n := n) f1).2.2
      refine ⟨fun z => ?_, fun z => ?_⟩
      · obtain ⟨F2, C2, e2, rd2', c2, s2⟩ := H.1 z
        exact ⟨F2, C2, e1.trans e2, rd1.trans rd2', fun b hb => (c2 b hb).trans (zsC_a hb), s2⟩
      · obtain ⟨F2, C2, e2, rd2', c2, j2, k2, R2, p2⟩ := H.2 z
        refine ⟨F2, C2, ?_, rd1.trans rd2', fun b hb => (c2 b hb).trans (zsC_a hb), fun j hj => (j2 j (by omega)).trans (zsC_i (by omega)), fun j hj => ?_, R2, ?_⟩
        · rw [e1, e2, show i + ((a :: r).length : Int) = i + 1 + (r.length : Int) by simp; omega]
        · cases j with
          | zero => rw [show i + ((0 : Nat) : Int) = i by omega, j2 i (by omega), zsC_s]; rfl
          | succ j =>
            have := k2 j (by simp at hj; omega)
            rw [show i + ((j + 1 : Nat) : Int) = i + 1 + (j : Int) by omega, this, h1, psN_s]
        · rw [p2, h1, List.length_cons, psN_s]
    · have e : nuQ B n a.1 a.2.1 (if a.2.2 = true then pv else -5) q = (q.1, 1, q.1) := by
        unfold nuQ
        rw [if_neg hf, if_neg hk]
      rw [e, nmQ_1 _ _ _ rfl]
      refine ⟨fun _ => ⟨F, C, c_num0 S kn R l0 l1 i0 m1' m1 hN5 hk, rd2.rfl F, fun _ _ => rfl, R.1.1⟩, fun z => absurd rfl z⟩
end RL2
