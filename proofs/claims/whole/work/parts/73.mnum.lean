/-! the reference reads: numbers, words -/
def rm2 (F F' : Nat → Nat → Int) : Prop := ∀ k a, ¬ (a = 72 ∧ 771 ≤ k ∧ k ≤ 776) → F' k a = F k a
theorem rm2.rfl (F : Nat → Nat → Int) : rm2 F F := fun _ _ _ => Eq.refl _
theorem rm2.trans {F F1 F2 : Nat → Nat → Int} (h1 : rm2 F F1) (h2 : rm2 F1 F2) : rm2 F F2 := fun k a c => (h2 k a c).trans (h1 k a c)
theorem rm2.sF {F F1 : Nat → Nat → Int} (h1 : rm2 F F1) {k : Nat} {x : Int} (h0 : 771 ≤ k) (h2 : k ≤ 776) : rm2 F (zsF F1 k 72 x) := fun k' a' c => (if_neg (by omega)).trans (h1 k' a' c)
theorem rmE.r2 {F F' : Nat → Nat → Int} (h : rmE F F') : rm2 F F' := fun k a c => h k a (by omega)
/-- only the fault and its place have changed of what is told; and what is read -/
def cM (C C' : Nat → Int → Int) : Prop := (∀ a, a ≠ 73 → a ≠ 75 → C' a = C a) ∧ (∀ j, j ≠ 5 → j ≠ 6 → C' 73 j = C 73 j)
theorem cM.rfl (C : Nat → Int → Int) : cM C C := ⟨fun _ _ _ => Eq.refl _, fun _ _ _ => Eq.refl _⟩
theorem cM.trans {C C1 C2 : Nat → Int → Int} (h1 : cM C C1) (h2 : cM C1 C2) : cM C C2 := ⟨fun a c d => (h2.1 a c d).trans (h1.1 a c d), fun j c d => (h2.2 j c d).trans (h1.2 j c d)⟩
theorem cM.s5 {C C1 : Nat → Int → Int} (h1 : cM C C1) {x : Int} : cM C (zsC C1 73 5 x) := ⟨fun a c d => (zsC_a c).trans (h1.1 a c d), fun j c d => (zsC_i c).trans (h1.2 j c d)⟩
theorem cM.s6 {C C1 : Nat → Int → Int} (h1 : cM C C1) {x : Int} : cM C (zsC C1 73 6 x) := ⟨fun a c d => (zsC_a c).trans (h1.1 a c d), fun j c d => (zsC_i d).trans (h1.2 j c d)⟩
theorem cM.s75 {C C1 : Nat → Int → Int} (h1 : cM C C1) {i x : Int} : cM C (zsC C1 75 i x) := ⟨fun a c d => (zsC_a d).trans (h1.1 a c d), fun j c d => by rw [zsC_a (by omega)]; exact h1.2 j c d⟩
theorem tpM.r2 {F F' : Nat → Nat → Int} {C C' : Nat → Int → Int} {B : Int → Int} {n : Int} (T : tpM F C B n) (h : rm2 F F') (hc : cM C C') : tpM F' C' B n := ⟨(h 770 72 (by omega)).trans T.1, T.2.1, fun i i0 i1 => ⟨(T.2.2 i i0 i1).1, (hc.2 (10 + i) (by omega) (by omega)).trans (T.2.2 i i0 i1).2⟩⟩
def mlR (F : Nat → Nat → Int) (C : Nat → Int → Int) (B : Int → Int) (n : Int) (q : Int × Int × Int) : Prop := ((q.2.1 = 1 → F 776 72 = 1) ∧ (q.2.1 ≠ 1 → F 776 72 = 0 ∧ tkM F B n q.1)) ∧ C 73 5 = q.2.1 ∧ C 73 6 = q.2.2
theorem kM_1 {B : Int → Int} {n s : Int} : kM B n s = 1 ↔ tK B n s = 1 := by
  unfold kM
  by_cases c3 : tK B n s = 3
  · rw [if_pos c3]; omega
  · rw [if_neg c3]
    by_cases c0 : tK B n s = 0
    · rw [if_pos c0]
      split <;> omega
    · rw [if_neg c0]
theorem kM_2 {B : Int → Int} {n s : Int} : kM B n s = 2 ↔ tK B n s = 2 := by
  unfold kM
  by_cases c3 : tK B n s = 3
  · rw [if_pos c3]; omega
  · rw [if_neg c3]
    by_cases c0 : tK B n s = 0
    · rw [if_pos c0]
      split <;> omega
    · rw [if_neg c0]
theorem kM_3 {B : Int → Int} {n s : Int} : kM B n s = 3 ↔ (tK B n s = 0 ∧ tW B n s ≠ 99) := by
  unfold kM
  by_cases c3 : tK B n s = 3
  · rw [if_pos c3]; omega
  · rw [if_neg c3]
    by_cases c0 : tK B n s = 0
    · rw [if_pos c0]
      split <;> omega
    · rw [if_neg c0]; omega
theorem kM_0 {B : Int → Int} {n s : Int} : kM B n s = 0 ↔ tK B n s = 3 := by
  have := tK_rng B n s
  unfold kM
  by_cases c3 : tK B n s = 3
  · rw [if_pos c3]; omega
  · rw [if_neg c3]
    by_cases c0 : tK B n s = 0
    · rw [if_pos c0]
      split <;> omega
    · rw [if_neg c0]; omega
theorem kM_rng (B : Int → Int) (n s : Int) : 0 ≤ kM B n s ∧ kM B n s ≤ 4 := by
  have := tK_rng B n s
  unfold kM
  split
  · omega
  · split
    · split <;> omega
    · omega
section MN
variable {h : zHeap} {F : Nat → Nat → Int} {C : Nat → Int → Int} {B : Int → Int} {n : Int} {q : Int × Int × Int}
theorem m_ends (S : St h) (R : mlR F C B n q) : ∃ F' C', zc 210 [zR (some 72)] (zw h F C) = some (zI 0, zw h F' C') ∧ rm2 F F' ∧ cM C C' ∧ C' 75 = C 75 ∧ mlR F' C' B n (if q.2.1 = 1 then q else (q.1, 1, q.1)) := by
  by_cases c : q.2.1 = 1
  · rw [if_pos c]
    have e := R.1.1 c
    refine ⟨F, C, ?_, rm2.rfl F, cM.rfl C, rfl, R⟩
    simp only [zoI_s, zoR_s, zoH_s, zoL_s, zbI_s, zbV_s, zbR_s, zbL_s, zif_t, zif_f, zrz_0, zrz_1, decide_true, decide_false, e_Model_ends, wg_776 S, e, d10]
  · rw [if_neg c]
    have e := R.1.2 c
    have w := wg_772 (F := zsF F 776 72 1) (C := zsC C 73 5 1) S
    rw [zsF_k (by omega), e.2.1] at w
    have wp := wp_776 (F := F) (C := C) S (x := 1) (Or.inr rfl)
    have w5 := ws_73 (F := zsF F 776 72 1) (C := C) S (i := 5) (by omega) (by omega) 1
    have w6 := ws_73 (F := zsF F 776 72 1) (C := zsC C 73 5 1) S (i := 6) (by omega) (by omega) q.1
    refine ⟨zsF F 776 72 1, zsC (zsC C 73 5 1) 73 6 q.1, ?_, (rm2.rfl F).sF (by omega) (by omega), (cM.rfl C).s5.s6, ?_, ⟨⟨fun _ => rfl, fun z => absurd rfl z⟩, ?_, ?_⟩⟩
    · simp only [zoI_s, zoR_s, zoH_s, zoL_s, zbI_s, zbV_s, zbR_s, zbL_s, zif_t, zif_f, zrz_0, zrz_1, decide_true, decide_false, e_Model_ends, wg_776 S, e.1, d0eq, wp, wr_768 S, w5, w, w6]
    · rw [zsC_a (by omega), zsC_a (by omega)]
    · simp (disch := omega) only [zoI_s, zoR_s, zoH_s, zoL_s, zbI_s, zbV_s, zbR_s, zbL_s, zif_t, zif_f, zrz_0, zrz_1, i32_add, i32_mul, i32_sub, i32_neg, zsF_s, zsF_k, zsF_a, zsC_s, zsC_a, zsC_i, zsW_s, zsW_a, Int.add_zero, Int.zero_add, decide_true, decide_false]
    · simp (disch := omega) only [zoI_s, zoR_s, zoH_s, zoL_s, zbI_s, zbV_s, zbR_s, zbL_s, zif_t, zif_f, zrz_0, zrz_1, i32_add, i32_mul, i32_sub, i32_neg, zsF_s, zsF_k, zsF_a, zsC_s, zsC_a, zsC_i, zsW_s, zsW_a, Int.add_zero, Int.zero_add, decide_true, decide_false]
theorem m_also0 (S : St h) (R : mlR F C B n q) (hf : q.2.1 = 0) {k t : Int} : zc 211 [zR (some 72), zI (i32 k), zI (i32 t)] (zw h F C) = some (zI 0, zw h F (zsC (zsC C 73 5 k) 73 6 t)) := by
  have e := (R.1.2 (by omega)).1
  have r5 := R.2.1
  rw [hf] at r5
  have w0 := wa_73 (F := F) (C := C) S (i := 5) (by omega) (by omega)
  rw [r5] at w0
  have w5 := ws_73 (F := F) (C := C) S (i := 5) (by omega) (by omega) k
  have w6 := ws_73 (F := F) (C := zsC C 73 5 k) S (i := 6) (by omega) (by omega) t
  simp only [zoI_s, zoR_s, zoH_s, zoL_s, zbI_s, zbV_s, zbR_s, zbL_s, zif_t, zif_f, zrz_0, zrz_1, decide_true, decide_false, e_Model_also, wg_776 S, e, d0ne, wr_768 S, w0, d0eq, w5, w6]
theorem m_also1 (S : St h) (R : mlR F C B n q) (hf : q.2.1 ≠ 0) (fr : 0 ≤ q.2.1 ∧ q.2.1 ≤ 3) (pr : -1 ≤ q.2.2 ∧ q.2.2 ≤ 600) {k t : Int} (kr : 0 ≤ k ∧ k ≤ 3) (tr : -1 ≤ t ∧ t ≤ 600) (hp : q.2.1 ≠ 1 → q.2.2 < t ∨ (q.2.2 = t ∧ q.2.1 ≤ k)) : zc 211 [zR (some 72), zI (i32 k), zI (i32 t)] (zw h F C) = some (zI 0, zw h F C) := by
  by_cases c : q.2.1 = 1
  · have e := R.1.1 c
    simp only [zoI_s, zoR_s, zoH_s, zoL_s, zbI_s, zbV_s, zbR_s, zbL_s, zif_t, zif_f, zrz_0, zrz_1, decide_true, decide_false, e_Model_also, wg_776 S, e, d1ne]
  · have e := (R.1.2 c).1
    have r5 := R.2.1
    have r6 := R.2.2
    have w5 := wa_73 (F := F) (C := C) S (i := 5) (by omega) (by omega)
    have w6 := wa_73 (F := F) (C := C) S (i := 6) (by omega) (by omega)
    rw [r5] at w5
    rw [r6] at w6
    have d0 : decide (i32 q.2.1 = 0) = false := dF (by rw [i32_0, i32_eq (by omega) (by omega) (by omega) (by omega)]; exact hf)
    by_cases c2 : q.2.2 < t
    · have d1 : decide (i32 q.2.2 < i32 t) = true := dT (by rw [i32_lt (by omega) (by omega) (by omega) (by omega)]; exact c2)
      simp only [zoI_s, zoR_s, zoH_s, zoL_s, zbI_s, zbV_s, zbR_s, zbL_s, zif_t, zif_f, zrz_0, zrz_1, decide_true, decide_false, e_Model_also, wg_776 S, e, d0ne, wr_768 S, w5, d0, w6, d1]
    · have c3 : q.2.2 = t ∧ q.2.1 ≤ k := by have := hp c; omega
      have d1 : decide (i32 q.2.2 < i32 t) = false := dF (by rw [i32_lt (by omega) (by omega) (by omega) (by omega)]; exact c2)
      have d2 : decide (i32 q.2.2 ≠ i32 t) = false := dF (by rw [c3.1]; exact fun z => z rfl)
      have d3 : decide (i32 k < i32 q.2.1) = false := dF (by rw [i32_lt (by omega) (by omega) (by omega) (by omega)]; omega)
      simp only [zoI_s, zoR_s, zoH_s, zoL_s, zbI_s, zbV_s, zbR_s, zbL_s, zif_t, zif_f, zrz_0, zrz_1, decide_true, decide_false, e_Model_also, wg_776 S, e, d0ne, wr_768 S, w5, d0, w6, d1, d2, d3]
theorem m_adv2 (S : St h) (P : tpM F C B n) (R : mlR F C B n q) (I : 0 ≤ q.1 ∧ q.1 ≤ n) (hf : q.2.1 ≠ 1) : ∃ F', zc 209 [zR (some 72)] (zw h F C) = some (zI 0, zw h F' C) ∧ rmE F F' ∧ mlR F' C B n (nxS B n q.1, q.2) := by
  have el := tE_le (B := B) (n := n) (s := q.1) I.2
  have r := R.1.2 hf
  obtain ⟨F', e, rd, tk⟩ := m_advance S P (p := tE B n q.1) r.2.2.1 (by omega) el.2.1
  exact ⟨F', e, rd, ⟨⟨fun z => absurd z hf, fun _ => ⟨(rd 776 72 (by omega)).trans r.1, tk⟩⟩, R.2⟩⟩
theorem m_numbered (S : St h) (P : tpM F C B n) (R : mlR F C B n q) (I : qI n q) {lo hi : Int} (lr : 0 ≤ lo ∧ lo ≤ hi ∧ hi ≤ 100) : ∃ F' C' v, zc 212 [zR (some 72), zI (i32 lo), zI (i32 hi)] (zw h F C) = some (zI (i32 v), zw h F' C') ∧ rm2 F F' ∧ cM C C' ∧ C' 75 = C 75 ∧ mlR F' C' B n (nuQ B n lo hi (-5) q) ∧ (lo ≤ v ∧ v ≤ hi) ∧ ((nuQ B n lo hi (-5) q).2.1 = 0 → v = tN B n q.1) := by
  obtain ⟨F1, C1, e1, rd1, c1, y1, R1⟩ := m_ends S R
  unfold nuQ
  by_cases cf : q.2.1 = 1
  · rw [if_pos cf] at R1 ⊢
    have e := R.1.1 cf
    refine ⟨F1, C1, lo, ?_, rd1, c1, y1, R1, by omega, fun z => by omega⟩
    simp only [zoI_s, zoR_s, zoH_s, zoL_s, zbI_s, zbV_s, zbR_s, zbL_s, zif_t, zif_f, zrz_0, zrz_1, decide_true, decide_false, e_Model_numbered, wg_776 S, e, d1ne, wv_72 S, e1]
  · rw [if_neg cf] at R1 ⊢
    have r := R.1.2 cf
    have kr := kM_rng B n q.1
    have r73 := r.2.2.2.1
    by_cases ck : tK B n q.1 = 1
    · rw [if_pos ck]
      have vr := tN_rng (B := B) (n := n) (s := q.1) I.1.2 ck
      have r74 := r.2.2.2.2.2 ck
      rw [kM_1.mpr ck] at r73
      have d1 : decide (i32 1 = i32 1) = true := by decide
      have eI := fun (h : zHeap) => m_isIn (h := h) (x := tN B n q.1) (a := lo) (b := hi) (by omega) (by omega) (by omega) (by omega) (by omega) (by omega)
      by_cases ok : lo ≤ tN B n q.1 ∧ tN B n q.1 ≤ hi
      · have eI' : ∀ h, zc 200 [zI (i32 (tN B n q.1)), zI (i32 lo), zI (i32 hi)] h = some (zI (i32 1), h) := fun h => by rw [eI h, if_pos ok]
        rw [if_neg (by omega)]
        obtain ⟨F2, e2, rd2, R2⟩ := m_adv2 S P R I.1 cf
        refine ⟨F2, C, tN B n q.1, ?_, rd2.r2, cM.rfl C, rfl, R2, ok, fun _ => rfl⟩
        simp only [zoI_s, zoR_s, zoH_s, zoL_s, zbI_s, zbV_s, zbR_s, zbL_s, zif_t, zif_f, zrz_0, zrz_1, decide_true, decide_false, e_Model_numbered, wg_776 S, r.1, d0ne, wg_773 S, r73, d1, wg_774 S, r74, eI', d1ne, wv_72 S, e2, d10]
      · have eI' : ∀ h, zc 200 [zI (i32 (tN B n q.1)), zI (i32 lo), zI (i32 hi)] h = some (zI (i32 0), h) := fun h => by rw [eI h, if_neg ok]
        have r72 := r.2.1
        by_cases c0 : q.2.1 = 0
        · rw [if_pos ⟨c0, fun z => ok ⟨z.1, z.2.1⟩⟩]
          have ea := m_also0 S R c0 (k := 2) (t := q.1)
          have Rx : mlR F (zsC (zsC C 73 5 2) 73 6 q.1) B n (q.1, 2, q.1) := ⟨⟨fun z => by dsimp only at z; omega, fun _ => r⟩, by simp (disch := omega) only [zoI_s, zoR_s, zoH_s, zoL_s, zbI_s, zbV_s, zbR_s, zbL_s, zif_t, zif_f, zrz_0, zrz_1, i32_add, i32_mul, i32_sub, i32_neg, zsF_s, zsF_k, zsF_a, zsC_s, zsC_a, zsC_i, zsW_s, zsW_a, Int.add_zero, Int.zero_add, decide_true, decide_false], by simp (disch := omega) only [zoI_s, zoR_s, zoH_s, zoL_s, zbI_s, zbV_s, zbR_s, zbL_s, zif_t, zif_f, zrz_0, zrz_1, i32_add, i32_mul, i32_sub, i32_neg, zsF_s, zsF_k, zsF_a, zsC_s, zsC_a, zsC_i, zsW_s, zsW_a, Int.add_zero, Int.zero_add, decide_true, decide_false]⟩
          have Px : tpM F (zsC (zsC C 73 5 2) 73 6 q.1) B n := P.r2 (rm2.rfl F) (cM.rfl C).s5.s6
          obtain ⟨F2, e2, rd2, R2⟩ := m_adv2 S Px Rx I.1 (by dsimp only; omega)
          refine ⟨F2, _, lo, ?_, rd2.r2, (cM.rfl C).s5.s6, ?_, R2, by omega, fun z => by dsimp only at z; omega⟩
          · simp only [zoI_s, zoR_s, zoH_s, zoL_s, zbI_s, zbV_s, zbR_s, zbL_s, zif_t, zif_f, zrz_0, zrz_1, decide_true, decide_false, e_Model_numbered, wg_776 S, r.1, d0ne, wg_773 S, r73, d1, wg_774 S, r74, eI', wg_772 S, r72, wv_72 S, ea, e2, d0eq]
          · rw [zsC_a (by omega), zsC_a (by omega)]
        · rw [if_neg (fun z => c0 z.1)]
          have pl := I.2.2.2.1
          have ea := m_also1 S R c0 I.2.1 I.2.2.1 (k := 2) (t := q.1) (by omega) (by have := I.1; have := P.2.1; omega) (fun _ => by omega)
          obtain ⟨F2, e2, rd2, R2⟩ := m_adv2 S P R I.1 cf
          refine ⟨F2, C, lo, ?_, rd2.r2, cM.rfl C, rfl, R2, by omega, fun z => absurd z c0⟩
          simp only [zoI_s, zoR_s, zoH_s, zoL_s, zbI_s, zbV_s, zbR_s, zbL_s, zif_t, zif_f, zrz_0, zrz_1, decide_true, decide_false, e_Model_numbered, wg_776 S, r.1, d0ne, wg_773 S, r73, d1, wg_774 S, r74, eI', wg_772 S, r72, wv_72 S, ea, e2, d0eq]
    · rw [if_neg ck]
      have d1 : decide (i32 (kM B n q.1) = i32 1) = false := dF (by rw [i32_eq (by omega) (by omega) (by omega) (by omega)]; exact fun z => ck (kM_1.mp z))
      refine ⟨F1, C1, lo, ?_, rd1, c1, y1, R1, by omega, fun z => by dsimp only at z; omega⟩
      simp only [zoI_s, zoR_s, zoH_s, zoL_s, zbI_s, zbV_s, zbR_s, zbL_s, zif_t, zif_f, zrz_0, zrz_1, decide_true, decide_false, e_Model_numbered, wg_776 S, r.1, d0ne, wg_773 S, r73, d1, wv_72 S, e1]
theorem m_unlike (S : St h) (P : tpM F C B n) (R : mlR F C B n q) (I : qI n q) {hi x : Int} (lr : 0 ≤ hi ∧ hi ≤ 100) (xr : -5 ≤ x ∧ x ≤ 1000) : ∃ F' C' v, zc 216 [zR (some 72), zI (i32 hi), zI (i32 x)] (zw h F C) = some (zI (i32 v), zw h F' C') ∧ rm2 F F' ∧ cM C C' ∧ C' 75 = C 75 ∧ mlR F' C' B n (nuQ B n 0 hi x q) ∧ (0 ≤ v ∧ v ≤ hi) ∧ ((nuQ B n 0 hi x q).2.1 = 0 → v = tN B n q.1) := by
  obtain ⟨F1, C1, v, e1, rd1, c1, y1, R1, vr, v0⟩ := m_numbered S P R I (lo := 0) (hi := hi) (by omega)
  have hn := P.2.1
  by_cases cf : q.2.1 = 1
  · have e := R.1.1 cf
    rw [nuQ_1 cf] at R1 v0 ⊢
    have d0 : decide (i32 0 = 0) = true := by decide
    refine ⟨F1, C1, v, ?_, rd1, c1, y1, R1, vr, v0⟩
    simp only [zoI_s, zoR_s, zoH_s, zoL_s, zbI_s, zbV_s, zbR_s, zbL_s, zif_t, zif_f, zrz_0, zrz_1, decide_true, decide_false, e_Model_unlike, wg_772 S, wg_776 S, e, d1ne, wv_72 S, e1, d0]
  · have r := R.1.2 cf
    have r72 := r.2.1
    have kr := kM_rng B n q.1
    have r73 := r.2.2.2.1
    by_cases ck : tK B n q.1 = 1
    · have tr := tN_rng (B := B) (n := n) (s := q.1) I.1.2 ck
      have r74 := r.2.2.2.2.2 ck
      rw [kM_1.mpr ck] at r73
      have d1 : decide (i32 1 ≠ i32 1) = false := by decide
      by_cases cx : tN B n q.1 = x
      · have dx : decide (i32 (tN B n q.1) ≠ i32 x) = false := dF (by rw [cx]; exact fun z => z rfl)
        have I1 := I.nu (B := B) (lo := 0) (hi := hi) (x := -5) hn.2
        have hs := I.1
        by_cases c0 : (nuQ B n 0 hi (-5) q).2.1 = 0
        · have ea := m_also0 S R1 c0 (k := 2) (t := q.1)
          have eq : nuQ B n 0 hi x q = (nxS B n q.1, 2, q.1) := by
            have z0 : q.2.1 = 0 := by
              unfold nuQ at c0
              rw [if_neg cf, if_pos ck] at c0
              by_cases y : q.2.1 = 0 ∧ ¬ (0 ≤ tN B n q.1 ∧ tN B n q.1 ≤ hi ∧ tN B n q.1 ≠ -5)
              · exact y.1
              · rw [if_neg y] at c0; exact c0
            unfold nuQ
            rw [if_neg cf, if_pos ck, if_pos ⟨z0, fun z => z.2.2 cx⟩]
          have fst := (nuQ_ok (B := B) (n := n) (lo := 0) (hi := hi) (x := -5) (q := q) (by omega)).2.2
          rw [eq]
          refine ⟨F1, zsC (zsC C1 73 5 2) 73 6 q.1, v, ?_, rd1, c1.s5.s6, ?_, ⟨⟨fun z => by dsimp only at z; omega, fun _ => ?_⟩, by simp (disch := omega) only [zoI_s, zoR_s, zoH_s, zoL_s, zbI_s, zbV_s, zbR_s, zbL_s, zif_t, zif_f, zrz_0, zrz_1, i32_add, i32_mul, i32_sub, i32_neg, zsF_s, zsF_k, zsF_a, zsC_s, zsC_a, zsC_i, zsW_s, zsW_a, Int.add_zero, Int.zero_add, decide_true, decide_false], by simp (disch := omega) only [zoI_s, zoR_s, zoH_s, zoL_s, zbI_s, zbV_s, zbR_s, zbL_s, zif_t, zif_f, zrz_0, zrz_1, i32_add, i32_mul, i32_sub, i32_neg, zsF_s, zsF_k, zsF_a, zsC_s, zsC_a, zsC_i, zsW_s, zsW_a, Int.add_zero, Int.zero_add, decide_true, decide_false]⟩, vr, fun z => by dsimp only at z; omega⟩
          · simp only [zoI_s, zoR_s, zoH_s, zoL_s, zbI_s, zbV_s, zbR_s, zbL_s, zif_t, zif_f, zrz_0, zrz_1, decide_true, decide_false, e_Model_unlike, wg_772 S, r72, wg_776 S, r.1, d0ne, wg_773 S, r73, d1, wg_774 S, r74, dx, wv_72 S, e1, d10, ea]
          · rw [zsC_a (by omega), zsC_a (by omega)]; exact y1
          · have := R1.1.2 (by omega)
            rw [fst] at this
            exact this
        · have eq : nuQ B n 0 hi x q = nuQ B n 0 hi (-5) q := by
            unfold nuQ at c0 ⊢
            rw [if_neg cf, if_pos ck] at c0 ⊢
            rw [if_neg cf, if_pos ck]
            by_cases y0 : q.2.1 = 0
            · by_cases y : q.2.1 = 0 ∧ ¬ (0 ≤ tN B n q.1 ∧ tN B n q.1 ≤ hi ∧ tN B n q.1 ≠ -5)
              · rw [if_pos y, if_pos ⟨y0, fun z => z.2.2 cx⟩]
              · rw [if_neg y] at c0; exact absurd y0 c0
            · rw [if_neg (fun z => y0 z.1), if_neg (fun z => y0 z.1)]
          have f1 : (nuQ B n 0 hi (-5) q).2.1 ≠ 1 := nuQ_f cf ck
          have hp : (nuQ B n 0 hi (-5) q).2.2 < q.1 ∨ ((nuQ B n 0 hi (-5) q).2.2 = q.1 ∧ (nuQ B n 0 hi (-5) q).2.1 ≤ 2) := by
            have i4 := I.2.2.2.1
            unfold nuQ at c0 ⊢
            rw [if_neg cf, if_pos ck] at c0 ⊢
            by_cases y : q.2.1 = 0 ∧ ¬ (0 ≤ tN B n q.1 ∧ tN B n q.1 ≤ hi ∧ tN B n q.1 ≠ -5)
            · rw [if_pos y]; exact Or.inr ⟨rfl, Int.le_refl 2⟩
            · rw [if_neg y] at c0 ⊢
              have c0' : q.2.1 ≠ 0 := c0
              exact Or.inl (by dsimp only; omega)
          have ea := m_also1 S R1 c0 I1.2.1 I1.2.2.1 (k := 2) (t := q.1) (by omega) (by omega) (fun _ => hp)
          rw [eq]
          refine ⟨F1, C1, v, ?_, rd1, c1, y1, R1, vr, v0⟩
          simp only [zoI_s, zoR_s, zoH_s, zoL_s, zbI_s, zbV_s, zbR_s, zbL_s, zif_t, zif_f, zrz_0, zrz_1, decide_true, decide_false, e_Model_unlike, wg_772 S, r72, wg_776 S, r.1, d0ne, wg_773 S, r73, d1, wg_774 S, r74, dx, wv_72 S, e1, d10, ea]
      · have dx : decide (i32 (tN B n q.1) ≠ i32 x) = true := dT (by rw [ne_eq, i32_eq (by omega) (by omega) (by omega) (by omega)]; exact cx)
        have eq : nuQ B n 0 hi x q = nuQ B n 0 hi (-5) q := by
          unfold nuQ
          rw [if_neg cf, if_pos ck, if_neg cf, if_pos ck]
          by_cases y : q.2.1 = 0 ∧ ¬ (0 ≤ tN B n q.1 ∧ tN B n q.1 ≤ hi ∧ tN B n q.1 ≠ -5)
          · rw [if_pos y, if_pos ⟨y.1, fun z => y.2 ⟨z.1, z.2.1, by omega⟩⟩]
          · rw [if_neg y, if_neg (fun z => y ⟨z.1, fun w => z.2 ⟨w.1, w.2.1, cx⟩⟩)]
        rw [eq]
        refine ⟨F1, C1, v, ?_, rd1, c1, y1, R1, vr, v0⟩
        simp only [zoI_s, zoR_s, zoH_s, zoL_s, zbI_s, zbV_s, zbR_s, zbL_s, zif_t, zif_f, zrz_0, zrz_1, decide_true, decide_false, e_Model_unlike, wg_772 S, r72, wg_776 S, r.1, d0ne, wg_773 S, r73, d1, wg_774 S, r74, dx, wv_72 S, e1, d0eq]
    · have d1 : decide (i32 (kM B n q.1) ≠ i32 1) = true := dT (by rw [ne_eq, i32_eq (by omega) (by omega) (by omega) (by omega)]; exact fun z => ck (kM_1.mp z))
      have eq : nuQ B n 0 hi x q = nuQ B n 0 hi (-5) q := by
        unfold nuQ
        rw [if_neg cf, if_neg ck, if_neg cf, if_neg ck]
      rw [eq]
      refine ⟨F1, C1, v, ?_, rd1, c1, y1, R1, vr, v0⟩
      simp only [zoI_s, zoR_s, zoH_s, zoL_s, zbI_s, zbV_s, zbR_s, zbL_s, zif_t, zif_f, zrz_0, zrz_1, decide_true, decide_false, e_Model_unlike, wg_772 S, r72, wg_776 S, r.1, d0ne, wg_773 S, r73, d1, wv_72 S, e1, d0eq]
/-- a word from a to b -/
def wdQ (B : Int → Int) (n a b : Int) (q : Int × Int × Int) : Int × Int × Int := if q.2.1 = 1 then q else if tK B n q.1 = 0 ∧ (a ≤ tW B n q.1 ∧ tW B n q.1 ≤ b) then (nxS B n q.1, q.2) else (q.1, 1, q.1)
theorem m_wordIn (S : St h) (P : tpM F C B n) (R : mlR F C B n q) (I : 0 ≤ q.1 ∧ q.1 ≤ n) {a b : Int} (ar : 1 ≤ a ∧ a ≤ b ∧ b ≤ 20) : ∃ F' C', zc 213 [zR (some 72), zI (i32 a), zI (i32 b)] (zw h F C) = some (zI (i32 (if q.2.1 ≠ 1 ∧ tK B n q.1 = 0 ∧ (a ≤ tW B n q.1 ∧ tW B n q.1 ≤ b) then tW B n q.1 else 0)), zw h F' C') ∧ rm2 F F' ∧ cM C C' ∧ C' 75 = C 75 ∧ mlR F' C' B n (wdQ B n a b q) := by
  obtain ⟨F1, C1, e1, rd1, c1, y1, R1⟩ := m_ends S R
  unfold wdQ
  by_cases cf : q.2.1 = 1
  · rw [if_pos cf] at R1 ⊢
    have e := R.1.1 cf
    refine ⟨F1, C1, ?_, rd1, c1, y1, R1⟩
    rw [if_neg (fun z => z.1 cf)]
    simp only [zoI_s, zoR_s, zoH_s, zoL_s, zbI_s, zbV_s, zbR_s, zbL_s, zif_t, zif_f, zrz_0, zrz_1, decide_true, decide_false, e_Model_wordIn, wg_776 S, e, d1ne, wv_72 S, e1]
  · rw [if_neg cf] at R1 ⊢
    have r := R.1.2 cf
    have kr := kM_rng B n q.1
    have r73 := r.2.2.2.1
    have wr := tW_rng B n q.1
    by_cases ck : tK B n q.1 = 0 ∧ tW B n q.1 ≠ 99
    · rw [kM_3.mpr ck] at r73
      have r75 := r.2.2.2.2.1 ck.1
      have d3 : decide (i32 3 ≠ i32 3) = false := by decide
      have eI := m_isIn (h := zw h F C) (x := tW B n q.1) (a := a) (b := b) (by omega) (by omega) (by omega) (by omega) (by omega) (by omega)
      by_cases ok : a ≤ tW B n q.1 ∧ tW B n q.1 ≤ b
      · rw [if_pos ok] at eI
        rw [if_pos ⟨cf, ck.1, ok⟩, if_pos ⟨ck.1, ok⟩]
        obtain ⟨F2, e2, rd2, R2⟩ := m_adv2 S P R I cf
        refine ⟨F2, C, ?_, rd2.r2, cM.rfl C, rfl, R2⟩
        simp only [zoI_s, zoR_s, zoH_s, zoL_s, zbI_s, zbV_s, zbR_s, zbL_s, zif_t, zif_f, zrz_0, zrz_1, decide_true, decide_false, e_Model_wordIn, wg_776 S, r.1, d0ne, wg_773 S, r73, d3, wg_775 S, r75, eI, d1ne, wv_72 S, e2]
      · rw [if_neg ok] at eI
        rw [if_neg (fun z => ok z.2.2), if_neg (fun z => ok z.2)]
        refine ⟨F1, C1, ?_, rd1, c1, y1, R1⟩
        simp only [zoI_s, zoR_s, zoH_s, zoL_s, zbI_s, zbV_s, zbR_s, zbL_s, zif_t, zif_f, zrz_0, zrz_1, decide_true, decide_false, e_Model_wordIn, wg_776 S, r.1, d0ne, wg_773 S, r73, d3, wg_775 S, r75, eI, wv_72 S, e1]
    · have d3 : decide (i32 (kM B n q.1) ≠ i32 3) = true := dT (by rw [ne_eq, i32_eq (by omega) (by omega) (by omega) (by omega)]; exact fun z => ck (kM_3.mp z))
      rw [if_neg (fun z => ck ⟨z.2.1, by omega⟩), if_neg (fun z => ck ⟨z.1, by omega⟩)]
      refine ⟨F1, C1, ?_, rd1, c1, y1, R1⟩
      simp only [zoI_s, zoR_s, zoH_s, zoL_s, zbI_s, zbV_s, zbR_s, zbL_s, zif_t, zif_f, zrz_0, zrz_1, decide_true, decide_false, e_Model_wordIn, wg_776 S, r.1, d0ne, wg_773 S, r73, d3, wv_72 S, e1]
theorem m_endsLine (S : St h) (P : tpM F C B n) (R : mlR F C B n q) (I : 0 ≤ q.1 ∧ q.1 ≤ n) : ∃ F' C', zc 214 [zR (some 72)] (zw h F C) = some (zI 0, zw h F' C') ∧ rm2 F F' ∧ cM C C' ∧ C' 75 = C 75 ∧ mlR F' C' B n (scQ B n q) := by
  obtain ⟨F1, C1, e1, rd1, c1, y1, R1⟩ := m_ends S R
  unfold scQ
  by_cases cf : q.2.1 = 1
  · rw [if_pos cf] at R1 ⊢
    have e := R.1.1 cf
    refine ⟨F1, C1, ?_, rd1, c1, y1, R1⟩
    simp only [zoI_s, zoR_s, zoH_s, zoL_s, zbI_s, zbV_s, zbR_s, zbL_s, zif_t, zif_f, zrz_0, zrz_1, decide_true, decide_false, e_Model_endsLine, wg_776 S, e, d1ne, wv_72 S, e1]
  · rw [if_neg cf] at R1 ⊢
    have r := R.1.2 cf
    have kr := kM_rng B n q.1
    have r73 := r.2.2.2.1
    by_cases ck : tK B n q.1 = 2
    · rw [kM_2.mpr ck] at r73
      have d2 : decide (i32 2 ≠ i32 2) = false := by decide
      rw [if_pos ck]
      obtain ⟨F2, e2, rd2, R2⟩ := m_adv2 S P R I cf
      refine ⟨F2, C, ?_, rd2.r2, cM.rfl C, rfl, R2⟩
      simp only [zoI_s, zoR_s, zoH_s, zoL_s, zbI_s, zbV_s, zbR_s, zbL_s, zif_t, zif_f, zrz_0, zrz_1, decide_true, decide_false, e_Model_endsLine, wg_776 S, r.1, d0ne, wg_773 S, r73, d2, wv_72 S, e2]
    · have d2 : decide (i32 (kM B n q.1) ≠ i32 2) = true := dT (by rw [ne_eq, i32_eq (by omega) (by omega) (by omega) (by omega)]; exact fun z => ck (kM_2.mp z))
      rw [if_neg ck]
      refine ⟨F1, C1, ?_, rd1, c1, y1, R1⟩
      simp only [zoI_s, zoR_s, zoH_s, zoL_s, zbI_s, zbV_s, zbR_s, zbL_s, zif_t, zif_f, zrz_0, zrz_1, decide_true, decide_false, e_Model_endsLine, wg_776 S, r.1, d0ne, wg_773 S, r73, d2, wv_72 S, e1]
theorem m_comes (S : St h) (P : tpM F C B n) (R : mlR F C B n q) (I : 0 ≤ q.1 ∧ q.1 ≤ n) (cf : q.2.1 ≠ 1) {w : Int} (ar : 1 ≤ w ∧ w ≤ 20) (hw : tK B n q.1 = 0 ∧ tW B n q.1 = w) : ∃ F', zc 215 [zR (some 72), zI (i32 w)] (zw h F C) = some (zI (i32 1), zw h F' C) ∧ rm2 F F' ∧ mlR F' C B n (nxS B n q.1, q.2) := by
  have r := R.1.2 cf
  have r73 := r.2.2.2.1
  rw [kM_3.mpr ⟨hw.1, by omega⟩] at r73
  have r75 := r.2.2.2.2.1 hw.1
  have d3 : decide (i32 3 ≠ i32 3) = false := by decide
  rw [hw.2] at r75
  obtain ⟨F2, e2, rd2, R2⟩ := m_adv2 S P R I cf
  refine ⟨F2, ?_, rd2.r2, R2⟩
  simp only [zoI_s, zoR_s, zoH_s, zoL_s, zbI_s, zbV_s, zbR_s, zbL_s, zif_t, zif_f, zrz_0, zrz_1, decide_true, decide_false, e_Model_comes, wg_776 S, r.1, d0ne, wg_773 S, r73, d3, wg_775 S, r75, wv_72 S, e2]
theorem m_comes0 (S : St h) (R : mlR F C B n q) (cf : q.2.1 ≠ 1) {w : Int} (ar : 1 ≤ w ∧ w ≤ 20) (hw : ¬ (tK B n q.1 = 0 ∧ tW B n q.1 = w)) : zc 215 [zR (some 72), zI (i32 w)] (zw h F C) = some (zI (i32 0), zw h F C) := by
  have r := R.1.2 cf
  have kr := kM_rng B n q.1
  have r73 := r.2.2.2.1
  have wr := tW_rng B n q.1
  by_cases ck : tK B n q.1 = 0 ∧ tW B n q.1 ≠ 99
  · rw [kM_3.mpr ck] at r73
    have r75 := r.2.2.2.2.1 ck.1
    have d3 : decide (i32 3 ≠ i32 3) = false := by decide
    have d4 : decide (i32 (tW B n q.1) = i32 w) = false := dF (by rw [i32_eq (by omega) (by omega) (by omega) (by omega)]; exact fun z => hw ⟨ck.1, z⟩)
    simp only [zoI_s, zoR_s, zoH_s, zoL_s, zbI_s, zbV_s, zbR_s, zbL_s, zif_t, zif_f, zrz_0, zrz_1, decide_true, decide_false, e_Model_comes, wg_776 S, r.1, d0ne, wg_773 S, r73, d3, wg_775 S, r75, d4]
  · have d3 : decide (i32 (kM B n q.1) ≠ i32 3) = true := dT (by rw [ne_eq, i32_eq (by omega) (by omega) (by omega) (by omega)]; exact fun z => ck (kM_3.mp z))
    simp only [zoI_s, zoR_s, zoH_s, zoL_s, zbI_s, zbV_s, zbR_s, zbL_s, zif_t, zif_f, zrz_0, zrz_1, decide_true, decide_false, e_Model_comes, wg_776 S, r.1, d0ne, wg_773 S, r73, d3]
end MN
