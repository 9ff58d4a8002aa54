/-! the class: text -/
def adS (sort k : Int) : Nat := if sort = 0 then 8 + 13 * k.toNat else if sort = 1 then 15 + 13 * k.toNat else 17 + 13 * k.toNat
def lnS (sort : Int) : Nat := if sort = 0 then 7 else if sort = 1 then 2 else 4
/-- the text of a sort that lies at a place -/
def obV (F : Nat → Nat → Int) (C : Nat → Int → Int) (sort : Int) (a : Nat) (T : Int → Int) : Prop := (sort = 0 → duV F C a T ∧ dOK T) ∧ (sort = 1 → yeV F C a T ∧ yOK T) ∧ (sort = 2 → loV F C a T ∧ lOK T)
section CT
variable {h : zHeap} {F : Nat → Nat → Int} {C : Nat → Int → Int} {B : Int → Int} {n : Int} {A : Int → Int}
theorem c_numberFor (S : St h) (hc : ∀ i, 0 ≤ i → i < 3 → C 4 i = A i) (hA : ∀ i, 0 ≤ i → i < 3 → 0 ≤ A i ∧ A i ≤ 2) {sort t : Int} (hs : inI sort) (ht : inI t) : zc 189 [zR (some 0), zI (i32 sort), zI (i32 t)] (zw h F C) = some (zI (i32 (nuF A sort t)), zw h F C) := by
  unfold inI at hs ht
  unfold nuF
  by_cases cs : 0 ≤ sort ∧ sort ≤ 2
  · rw [if_pos cs]
    have As := hA sort cs.1 (by omega)
    have w := ta_4 (F := F) (C := C) S (i := sort) cs.1 (by omega)
    rw [hc sort cs.1 (by omega)] at w
    have i1 : decide (i32 sort < 0) = false := dF (by rw [i32_0, i32_lt (by omega) (by omega) (by omega) (by omega)]; omega)
    have i2 : decide (i32 3 ≤ i32 sort) = false := dF (by rw [i32_le (by omega) (by omega) (by omega) (by omega)]; omega)
    have eS : zc 190 [zI (i32 sort)] (zw h F C) = some (zI (i32 1), zw h F C) := by simp only [zoI_s, zoR_s, zoH_s, zoL_s, zbI_s, zbV_s, zbR_s, zbL_s, zif_t, zif_f, zrz_0, zrz_1, decide_true, decide_false, e_Main_isSort, i1, i2]
    by_cases ct : t = -1
    · rw [if_pos ct, ct]
      have dm : decide (i32 (-1) ≠ i32 (-1)) = false := by decide
      have d0 : decide (i32 (A sort) < 0) = false := dF (by rw [i32_0, i32_lt (by omega) (by omega) (by omega) (by omega)]; omega)
      by_cases c2 : A sort < 2
      · have d2 : decide (i32 2 ≤ i32 (A sort)) = false := dF (by rw [i32_le (by omega) (by omega) (by omega) (by omega)]; omega)
        rw [if_pos c2]
        simp only [zoI_s, zoR_s, zoH_s, zoL_s, zbI_s, zbV_s, zbR_s, zbL_s, zif_t, zif_f, zrz_0, zrz_1, decide_true, decide_false, e_Main_numberFor, eS, d1ne, dm, wr_704 S, tr_577 S, w, d0, d2]
      · have d2 : decide (i32 2 ≤ i32 (A sort)) = true := dT (by rw [i32_le (by omega) (by omega) (by omega) (by omega)]; omega)
        rw [if_neg c2]
        simp only [zoI_s, zoR_s, zoH_s, zoL_s, zbI_s, zbV_s, zbR_s, zbL_s, zif_t, zif_f, zrz_0, zrz_1, decide_true, decide_false, e_Main_numberFor, eS, d1ne, dm, wr_704 S, tr_577 S, w, d0, d2]
    · rw [if_neg ct]
      have dm : decide (i32 t ≠ i32 (-1)) = true := dT (by rw [ne_eq, i32_eq (by omega) (by omega) (by omega) (by omega)]; exact ct)
      by_cases c0 : t < 0
      · have d0 : decide (i32 t < 0) = true := dT (by rw [i32_0, i32_lt (by omega) (by omega) (by omega) (by omega)]; exact c0)
        rw [if_neg (by omega)]
        simp only [zoI_s, zoR_s, zoH_s, zoL_s, zbI_s, zbV_s, zbR_s, zbL_s, zif_t, zif_f, zrz_0, zrz_1, decide_true, decide_false, e_Main_numberFor, eS, d1ne, dm, wr_704 S, tr_577 S, w, d0]
      · have d0 : decide (i32 t < 0) = false := dF (by rw [i32_0, i32_lt (by omega) (by omega) (by omega) (by omega)]; exact c0)
        by_cases c2 : t < A sort
        · have d2 : decide (i32 (A sort) ≤ i32 t) = false := dF (by rw [i32_le (by omega) (by omega) (by omega) (by omega)]; omega)
          rw [if_pos (by omega)]
          simp only [zoI_s, zoR_s, zoH_s, zoL_s, zbI_s, zbV_s, zbR_s, zbL_s, zif_t, zif_f, zrz_0, zrz_1, decide_true, decide_false, e_Main_numberFor, eS, d1ne, dm, wr_704 S, tr_577 S, w, d0, d2]
        · have d2 : decide (i32 (A sort) ≤ i32 t) = true := dT (by rw [i32_le (by omega) (by omega) (by omega) (by omega)]; omega)
          rw [if_neg (by omega)]
          simp only [zoI_s, zoR_s, zoH_s, zoL_s, zbI_s, zbV_s, zbR_s, zbL_s, zif_t, zif_f, zrz_0, zrz_1, decide_true, decide_false, e_Main_numberFor, eS, d1ne, dm, wr_704 S, tr_577 S, w, d0, d2]
  · rw [if_neg cs]
    have eS : zc 190 [zI (i32 sort)] (zw h F C) = some (zI (i32 0), zw h F C) := by
      by_cases c0 : sort < 0
      · have i1 : decide (i32 sort < 0) = true := dT (by rw [i32_0, i32_lt (by omega) (by omega) (by omega) (by omega)]; exact c0)
        simp only [zoI_s, zoR_s, zoH_s, zoL_s, zbI_s, zbV_s, zbR_s, zbL_s, zif_t, zif_f, zrz_0, zrz_1, decide_true, decide_false, e_Main_isSort, i1]
      · have i1 : decide (i32 sort < 0) = false := dF (by rw [i32_0, i32_lt (by omega) (by omega) (by omega) (by omega)]; exact c0)
        have i2 : decide (i32 3 ≤ i32 sort) = true := dT (by rw [i32_le (by omega) (by omega) (by omega) (by omega)]; omega)
        simp only [zoI_s, zoR_s, zoH_s, zoL_s, zbI_s, zbV_s, zbR_s, zbL_s, zif_t, zif_f, zrz_0, zrz_1, decide_true, decide_false, e_Main_isSort, i1, i2]
    simp only [zoI_s, zoR_s, zoH_s, zoL_s, zbI_s, zbV_s, zbR_s, zbL_s, zif_t, zif_f, zrz_0, zrz_1, decide_true, decide_false, e_Main_numberFor, eS, d0ne]
theorem c_endTape (S : St h) {f pl : Int} : zc 139 [zR (some 1), zI (i32 f), zI (i32 pl)] (zw h F C) = some (zI 0, zw h (zsF (zsF (zsF F 513 2 0) 581 1 f) 582 1 pl) C) := by
  simp only [zoI_s, zoR_s, zoH_s, zoL_s, zbI_s, zbV_s, zbR_s, zbL_s, zif_t, zif_f, zrz_0, zrz_1, decide_true, decide_false, e_Told_endTape, tr_576 S, pp_513 S, tp_581 S, tp_582 S]
theorem c_put (S : St h) {sort k : Int} {T : Int → Int} (q0 : 0 ≤ sort) (q1 : sort ≤ 2) (k0 : 0 ≤ k) (k1 : k ≤ 1) (D : dtC F C sort 0 T) (hc : 0 ≤ C 4 sort ∧ C 4 sort ≤ 2) : ∃ F' C', zc 140 [zR (some 1), zI (i32 sort), zI (i32 k), zR (some 35)] (zw h F C) = some (zI 0, zw h F' C') ∧ (∀ x, x < adS sort k ∨ adS sort k + lnS sort ≤ x → (∀ m, F' m x = F m x) ∧ (x ≠ 4 → C' x = C x)) ∧ C' 4 = up1 (C 4) sort (if C 4 sort < k + 1 then k + 1 else C 4 sort) ∧ obV F' C' sort (adS sort k) T ∧ (sort = 1 → 0 ≤ F' 640 (adS sort k) ∧ F' 640 (adS sort k) ≤ 40) ∧ (sort = 2 → 0 ≤ F' 192 (adS sort k) ∧ F' 192 (adS sort k) ≤ 8) := by
  have d0 : decide (i32 k < 0) = false := dF (by rw [i32_0, i32_lt (by omega) (by omega) (by omega) (by omega)]; omega)
  have d2 : decide (i32 k < i32 2) = true := dT (by rw [i32_lt (by omega) (by omega) (by omega) (by omega)]; omega)
  have tS := S.2.2.2.2.2.1
  obtain ⟨g1, g2, g3⟩ := D.2.2.2 rfl
  have mx := i32_max (a := C 4 sort) (b := k + 1) (by omega) (by omega) (by omega) (by omega)
  have wfin : ∀ (F' : Nat → Nat → Int) (C' : Nat → Int → Int), C' 4 = C 4 → zaI (zw h F' C') (some 4) (i32 sort) 0 = some (i32 (C 4 sort)) ∧ zaS (zw h F' C') (some 4) (i32 sort) (i32 (if C 4 sort < k + 1 then k + 1 else C 4 sort)) = some (zw h F' (zsC C' 4 sort (if C 4 sort < k + 1 then k + 1 else C 4 sort))) := by
    intro F' C' e
    refine ⟨?_, ts_4 S q0 (by omega) _⟩
    rw [ta_4 S q0 (by omega), e]
  rcases (show sort = 0 ∨ sort = 1 ∨ sort = 2 by omega) with rfl | rfl | rfl
  · have ar := aR_2 (F := F) (C := C) tS.2.2.2.2.2.1 k0 (by omega)
    have hk : (if k = 0 then 1 + 7 else 1 + 20) = 8 + 13 * k.toNat := by rcases (show k = 0 ∨ k = 1 by omega) with rfl | rfl <;> rfl
    rw [hk] at ar
    have Ha : duS h (8 + 13 * k.toNat) := by
      rcases (show k = 0 ∨ k = 1 by omega) with rfl | rfl
      · exact tS.2.2.2.2.2.2.2.2.1.1
      · exact tS.2.2.2.2.2.2.2.2.2.1.1
    obtain ⟨V, O⟩ := g1 rfl
    obtain ⟨F1, C1, e1, fr, vv⟩ := c_dcopy (F := F) (C := C) Ha (H36 S) (by omega)
    obtain ⟨w1, w2⟩ := wfin F1 C1 (fr 4 (by omega)).2
    have ad : adS 0 k = 8 + 13 * k.toNat := rfl
    have V1 := vv T V ⟨O.1.2, O.2.1.2, O.2.2.1.2⟩
    refine ⟨F1, zsC C1 4 0 (if C 4 0 < k + 1 then k + 1 else C 4 0), ?_, fun x hx => ⟨(fr x (by rw [ad] at hx; unfold lnS at hx; rw [if_pos rfl] at hx; omega)).1, fun h4 => (zsC_a h4).trans (fr x (by rw [ad] at hx; unfold lnS at hx; rw [if_pos rfl] at hx; omega)).2⟩, ?_, ⟨fun _ => ⟨?_, O⟩, fun z => by omega, fun z => by omega⟩, fun z => by omega, fun z => by omega⟩
    · have ar' : zaR (zw h F C) (some 5) (i32 k) = some (some (8 + 13 * k.toNat)) := ar
      simp only [zoI_s, zoR_s, zoH_s, zoL_s, zbI_s, zbV_s, zbR_s, zbL_s, zif_t, zif_f, zrz_0, zrz_1, decide_true, decide_false, e_Told_put, d0, d2, t0_0, tr_578 S, ar', wr_320 S, dv Ha, e1, tr_577 S, w1, i32_add, mx, w2]
    · rw [zsC_row, (fr 4 (by omega)).2]
    · rw [ad]
      exact V1.same (fun _ => rfl) (fun j _ _ => zsC_a (by omega))
  · have ar := aR_2 (F := F) (C := C) tS.2.2.2.2.2.2.1 k0 (by omega)
    have hk : (if k = 0 then 1 + 14 else 1 + 27) = 15 + 13 * k.toNat := by rcases (show k = 0 ∨ k = 1 by omega) with rfl | rfl <;> rfl
    rw [hk] at ar
    have Ha : yeS h (15 + 13 * k.toNat) := by
      rcases (show k = 0 ∨ k = 1 by omega) with rfl | rfl
      · exact tS.2.2.2.2.2.2.2.2.1.2.1
      · exact tS.2.2.2.2.2.2.2.2.2.1.2.1
    obtain ⟨V, O⟩ := g2 rfl
    obtain ⟨F1, C1, e1, fr, sz, vv⟩ := c_ycopy (F := F) (C := C) Ha (H43 S) (by omega) D.2.1.1 D.2.1.2
    obtain ⟨w1, w2⟩ := wfin F1 C1 (fr 4 (by omega)).2
    have ad : adS 1 k = 15 + 13 * k.toNat := rfl
    have V1 := vv T V
    refine ⟨F1, zsC C1 4 1 (if C 4 1 < k + 1 then k + 1 else C 4 1), ?_, fun x hx => ⟨(fr x (by rw [ad] at hx; unfold lnS at hx; rw [if_neg (by omega), if_pos rfl] at hx; omega)).1, fun h4 => (zsC_a h4).trans (fr x (by rw [ad] at hx; unfold lnS at hx; rw [if_neg (by omega), if_pos rfl] at hx; omega)).2⟩, ?_, ⟨fun z => by omega, fun _ => ⟨?_, O⟩, fun z => by omega⟩, fun _ => ?_, fun z => by omega⟩
    · have ar' : zaR (zw h F C) (some 6) (i32 k) = some (some (15 + 13 * k.toNat)) := ar
      simp only [zoI_s, zoR_s, zoH_s, zoL_s, zbI_s, zbV_s, zbR_s, zbL_s, zif_t, zif_f, zrz_0, zrz_1, decide_true, decide_false, e_Told_put, d0, d2, t1_0, t1_1, tr_579 S, ar', wr_321 S, yv Ha, e1, tr_577 S, w1, i32_add, mx, w2]
    · rw [zsC_row, (fr 4 (by omega)).2]
    · rw [ad]
      unfold yeV
      rw [zsC_a (by omega)]
      exact V1
    · rw [ad, sz]; exact D.2.1
  · have ar := aR_2 (F := F) (C := C) tS.2.2.2.2.2.2.2.1 k0 (by omega)
    have hk : (if k = 0 then 1 + 16 else 1 + 29) = 17 + 13 * k.toNat := by rcases (show k = 0 ∨ k = 1 by omega) with rfl | rfl <;> rfl
    rw [hk] at ar
    have Ha : loS h (17 + 13 * k.toNat) := by
      rcases (show k = 0 ∨ k = 1 by omega) with rfl | rfl
      · exact tS.2.2.2.2.2.2.2.2.1.2.2
      · exact tS.2.2.2.2.2.2.2.2.2.1.2.2
    obtain ⟨V, O⟩ := g3 rfl
    obtain ⟨F1, C1, e1, fr, sz, vv⟩ := c_lcopy (F := F) (C := C) Ha (H45 S) (by omega) D.2.2.1.1 D.2.2.1.2
    obtain ⟨w1, w2⟩ := wfin F1 C1 (fr 4 (by omega)).2
    have ad : adS 2 k = 17 + 13 * k.toNat := rfl
    have V1 := vv T V
    refine ⟨F1, zsC C1 4 2 (if C 4 2 < k + 1 then k + 1 else C 4 2), ?_, fun x hx => ⟨(fr x (by rw [ad] at hx; unfold lnS at hx; rw [if_neg (by omega), if_neg (by omega)] at hx; omega)).1, fun h4 => (zsC_a h4).trans (fr x (by rw [ad] at hx; unfold lnS at hx; rw [if_neg (by omega), if_neg (by omega)] at hx; omega)).2⟩, ?_, ⟨fun z => by omega, fun z => by omega, fun _ => ⟨?_, O⟩⟩, fun z => by omega, fun _ => ?_⟩
    · have ar' : zaR (zw h F C) (some 7) (i32 k) = some (some (17 + 13 * k.toNat)) := ar
      simp only [zoI_s, zoR_s, zoH_s, zoL_s, zbI_s, zbV_s, zbR_s, zbL_s, zif_t, zif_f, zrz_0, zrz_1, decide_true, decide_false, e_Told_put, d0, d2, t2_0, t2_1, t2_2, tr_580 S, ar', wr_322 S, lv Ha, e1, tr_577 S, w1, i32_add, mx, w2]
    · rw [zsC_row, (fr 4 (by omega)).2]
    · rw [ad]
      unfold loV
      rw [zsC_a (by omega), zsC_a (by omega), zsC_a (by omega)]
      exact V1
    · rw [ad, sz]; exact D.2.2.1
theorem c_text (S : St h) (kn : knS h) (P : tpC F C B n) (hc : ∀ i, 0 ≤ i → i < 3 → C 4 i = A i) (hA : ∀ i, 0 ≤ i → i < 3 → 0 ≤ A i ∧ A i ≤ 2) {sort t : Int} (hs : inI sort) (ht : inI t) : ∃ F' C', (nuF A sort t = -2 → zc 152 [zR (some 0), zI (i32 sort), zI (i32 t)] (zw h F C) = some (zI (i32 (-2)), zw h F' C') ∧ F' = zsF (zsF (zsF F 513 2 0) 581 1 0) 582 1 (-1) ∧ C' = C) ∧ (nuF A sort t ≠ -2 → (prS B n sort).1.2.1 ≠ 0 → zc 152 [zR (some 0), zI (i32 sort), zI (i32 t)] (zw h F C) = some (zI (i32 (-1)), zw h F' C') ∧ (F' 513 2 = 0 ∧ F' 581 1 = (prS B n sort).1.2.1 ∧ F' 582 1 = (prS B n sort).1.2.2) ∧ (∀ x, x < 35 ∨ 50 ≤ x → (x ≠ 1 → x ≠ 2 → ∀ m, F' m x = F m x) ∧ C' x = C x)) ∧ (nuF A sort t ≠ -2 → (prS B n sort).1.2.1 = 0 → zc 152 [zR (some 0), zI (i32 sort), zI (i32 t)] (zw h F C) = some (zI (i32 (nuF A sort t)), zw h F' C') ∧ (F' 513 2 = 0 ∧ F' 581 1 = 0 ∧ F' 582 1 = (prS B n sort).1.2.2) ∧ (∀ x, x < 35 ∨ 50 ≤ x → (x < adS sort (nuF A sort t) ∨ adS sort (nuF A sort t) + lnS sort ≤ x) → (x ≠ 1 → x ≠ 2 → ∀ m, F' m x = F m x) ∧ (x ≠ 4 → C' x = C x)) ∧ C' 4 = up1 (C 4) sort (if A sort < nuF A sort t + 1 then nuF A sort t + 1 else A sort) ∧ obV F' C' sort (adS sort (nuF A sort t)) (prS B n sort).2 ∧ (sort = 1 → 0 ≤ F' 640 (adS sort (nuF A sort t)) ∧ F' 640 (adS sort (nuF A sort t)) ≤ 40) ∧ (sort = 2 → 0 ≤ F' 192 (adS sort (nuF A sort t)) ∧ F' 192 (adS sort (nuF A sort t)) ≤ 8)) := by
  have eN := c_numberFor (F := F) (C := C) S hc hA hs ht
  have nr : nuF A sort t ≠ -2 → (0 ≤ sort ∧ sort ≤ 2) ∧ 0 ≤ nuF A sort t ∧ nuF A sort t ≤ 1 := by
    intro z
    unfold nuF at z ⊢
    by_cases cs : 0 ≤ sort ∧ sort ≤ 2
    · have As := hA sort cs.1 (by omega)
      rw [if_pos cs] at z ⊢
      refine ⟨cs, ?_⟩
      by_cases ct : t = -1
      · rw [if_pos ct] at z ⊢
        by_cases y : A sort < 2
        · rw [if_pos y]; omega
        · rw [if_neg y] at z; exact absurd rfl z
      · rw [if_neg ct] at z ⊢
        by_cases y : 0 ≤ t ∧ t < A sort
        · rw [if_pos y]; omega
        · rw [if_neg y] at z; exact absurd rfl z
    · rw [if_neg cs] at z; exact absurd rfl z
  by_cases cN : nuF A sort t = -2
  · refine ⟨_, C, fun _ => ⟨?_, rfl, rfl⟩, fun z => absurd cN z, fun z => absurd cN z⟩
    rw [cN] at eN
    have dm : decide (i32 (-2) ≠ i32 (-2)) = false := by decide
    simp only [zoI_s, zoR_s, zoH_s, zoL_s, zbI_s, zbV_s, zbR_s, zbL_s, zif_t, zif_f, zrz_0, zrz_1, decide_true, decide_false, e_Main_text, wv_0 S, eN, dm, wr_704 S, tv_1 S, c_endTape S]
  · obtain ⟨cs, n0, n1⟩ := nr cN
    have dm : decide (i32 (nuF A sort t) ≠ i32 (-2)) = true := dT (by rw [ne_eq, i32_eq (by omega) (by omega) (by omega) (by omega)]; exact cN)
    obtain ⟨F1, C1, e1, x1, a1, a2, D1, I1⟩ := c_read (F := F) (C := C) S kn P cs.1 cs.2
    have fr := I1.2.1
    have ee := c_endTape (F := F1) (C := C1) (f := (prS B n sort).1.2.1) (pl := (prS B n sort).1.2.2) S
    have w3 := wg_323 (F := zsF (zsF (zsF F1 513 2 0) 581 1 (prS B n sort).1.2.1) 582 1 (prS B n sort).1.2.2) (C := C1) S
    rw [zsF_k (by omega), zsF_k (by omega), zsF_k (by omega), a1] at w3
    have g3 := wg_323 (F := F1) (C := C1) S
    have g4 := wg_324 (F := F1) (C := C1) S
    rw [a1] at g3
    rw [a2] at g4
    by_cases f0 : (prS B n sort).1.2.1 = 0
    · have D2 : dtC (zsF (zsF (zsF F1 513 2 0) 581 1 (prS B n sort).1.2.1) 582 1 (prS B n sort).1.2.2) C1 sort 0 (prS B n sort).2 := by
        rw [f0] at D1
        obtain ⟨d1, d2, d3, d4⟩ := D1
        obtain ⟨g1, g2, g3⟩ := d4 rfl
        have e := fun k a (h1 : a ≠ 1) (h2 : a ≠ 2) => show zsF (zsF (zsF F1 513 2 0) 581 1 (prS B n sort).1.2.1) 582 1 (prS B n sort).1.2.2 k a = F1 k a from by rw [zsF_a h1, zsF_a h1, zsF_a h2]
        refine ⟨?_, ?_, ?_, fun _ => ⟨fun z => ⟨(g1 z).1.same (fun k => e k 36 (by omega) (by omega)) (fun _ _ _ => rfl), (g1 z).2⟩, fun z => ⟨?_, (g2 z).2⟩, fun z => ⟨?_, (g3 z).2⟩⟩⟩
        · rw [e 128 36 (by omega) (by omega), e 129 36 (by omega) (by omega), e 130 36 (by omega) (by omega)]; exact d1
        · rw [e 640 43 (by omega) (by omega)]; exact d2
        · rw [e 192 45 (by omega) (by omega)]; exact d3
        · unfold yeV; rw [e 640 43 (by omega) (by omega)]; exact (g2 z).1
        · unfold loV; rw [e 192 45 (by omega) (by omega)]; exact (g3 z).1
      have c4 : C1 4 = C 4 := (x1 4 (by omega)).2
      have c4s : C1 4 sort = A sort := by rw [c4]; exact hc sort cs.1 (by omega)
      have As := hA sort cs.1 (by omega)
      obtain ⟨F2, C2, e2, fr2, r4, ob, s1, s2⟩ := c_put (F := zsF (zsF (zsF F1 513 2 0) 581 1 (prS B n sort).1.2.1) 582 1 (prS B n sort).1.2.2) (C := C1) S cs.1 cs.2 n0 n1 D2 (by rw [c4s]; exact As)
      have adr : 8 ≤ adS sort (nuF A sort t) ∧ adS sort (nuF A sort t) + lnS sort ≤ 35 := by
        have z : (nuF A sort t).toNat ≤ 1 := by omega
        unfold adS lnS
        rcases (show sort = 0 ∨ sort = 1 ∨ sort = 2 by omega) with rfl | rfl | rfl
        · rw [if_pos rfl, if_pos rfl]; omega
        · rw [if_neg (by omega), if_pos rfl, if_neg (by omega), if_pos rfl]; omega
        · rw [if_neg (by omega), if_neg (by omega), if_neg (by omega), if_neg (by omega)]; omega
      refine ⟨F2, C2, fun z => absurd z cN, fun _ z => absurd f0 z, fun _ _ => ⟨?_, ⟨?_, ?_, ?_⟩, fun x hx hy => ⟨fun h1 h2 m => ?_, fun h4 => ?_⟩, ?_, ob, s1, s2⟩⟩
      · have ee' := ee
        replace w3 := w3.trans (congrArg (fun z => some (i32 z)) f0)
        simp only [zoI_s, zoR_s, zoH_s, zoL_s, zbI_s, zbV_s, zbR_s, zbL_s, zif_t, zif_f, zrz_0, zrz_1, decide_true, decide_false, e_Main_text, wv_0 S, eN, dm, wr_706 S, wv_35 S, e1, wr_704 S, g3, g4, tv_1 S, ee, w3, d0eq, e2]
      · rw [(fr2 2 (by omega)).1]; rfl
      · rw [(fr2 1 (by omega)).1]; exact f0
      · rw [(fr2 1 (by omega)).1]; rfl
      · rw [(fr2 x hy).1, zsF_a h1, zsF_a h1, zsF_a h2]; exact (x1 x hx).1 m
      · rw [(fr2 x hy).2 h4]; exact (x1 x hx).2
      · rw [r4, c4s, c4]
    · refine ⟨zsF (zsF (zsF F1 513 2 0) 581 1 (prS B n sort).1.2.1) 582 1 (prS B n sort).1.2.2, C1, fun z => absurd z cN, fun _ _ => ⟨?_, ⟨rfl, rfl, rfl⟩, fun x hx => ⟨fun h1 h2 m => ?_, (x1 x hx).2⟩⟩, fun _ z => absurd z f0⟩
      · have d5 : decide (i32 (prS B n sort).1.2.1 = 0) = false := dF (by rw [i32_0, i32_eq (by omega) (by omega) (by omega) (by omega)]; exact f0)
        simp only [zoI_s, zoR_s, zoH_s, zoL_s, zbI_s, zbV_s, zbR_s, zbL_s, zif_t, zif_f, zrz_0, zrz_1, decide_true, decide_false, e_Main_text, wv_0 S, eN, dm, wr_706 S, wv_35 S, e1, wr_704 S, g3, g4, tv_1 S, ee, w3, d5]
      · rw [zsF_a h1, zsF_a h1, zsF_a h2]; exact (x1 x hx).1 m
end CT
