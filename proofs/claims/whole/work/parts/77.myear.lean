/-! the reference reads a year's line -/
/-- a deed written to what is read -/
def ywr (C : Nat → Int → Int) (c d p1 p2 p3 p4 p5 : Int) : Nat → Int → Int := zsC (zsC (zsC (zsC (zsC (zsC (zsC C 75 (1 + 6 * c) d) 75 (1 + 6 * c + 1) p1) 75 (1 + 6 * c + 2) p2) 75 (1 + 6 * c + 3) p3) 75 (1 + 6 * c + 4) p4) 75 (1 + 6 * c + 5) p5) 75 0 (c + 1)
def ywC (C : Nat → Int → Int) (c d p1 p2 p3 p4 p5 : Int) : Nat → Int → Int := if 40 ≤ c then C else ywr C c d p1 p2 p3 p4 p5
theorem ywr_row (C : Nat → Int → Int) (c d p1 p2 p3 p4 p5 : Int) : ywr C c d p1 p2 p3 p4 p5 75 = up1 (up1 (up1 (up1 (up1 (up1 (up1 (C 75) (1 + 6 * c) d) (2 + 6 * c) p1) (3 + 6 * c) p2) (4 + 6 * c) p3) (5 + 6 * c) p4) (6 + 6 * c) p5) 0 (c + 1) := by
  unfold ywr
  rw [zsC_row, zsC_row, zsC_row, zsC_row, zsC_row, zsC_row, zsC_row, show 1 + 6 * c + 1 = 2 + 6 * c by omega, show 1 + 6 * c + 2 = 3 + 6 * c by omega, show 1 + 6 * c + 3 = 4 + 6 * c by omega, show 1 + 6 * c + 4 = 5 + 6 * c by omega, show 1 + 6 * c + 5 = 6 + 6 * c by omega]
theorem ywC_o {C : Nat → Int → Int} {c d p1 p2 p3 p4 p5 : Int} {a : Nat} (ha : a ≠ 75) : ywC C c d p1 p2 p3 p4 p5 a = C a := by
  unfold ywC
  split
  · rfl
  · unfold ywr
    rw [zsC_a ha, zsC_a ha, zsC_a ha, zsC_a ha, zsC_a ha, zsC_a ha, zsC_a ha]
theorem cM.yw {C C1 : Nat → Int → Int} (h : cM C C1) (c d p1 p2 p3 p4 p5 : Int) : cM C (ywC C1 c d p1 p2 p3 p4 p5) := by
  unfold ywC
  split
  · exact h
  · exact h.s75.s75.s75.s75.s75.s75.s75
section MY
variable {h : zHeap} {F : Nat → Nat → Int} {C : Nat → Int → Int} {B : Int → Int} {n : Int} {q : Int × Int × Int} {T : Int → Int}
theorem ywC_R {c d p1 p2 p3 p4 p5 : Int} (R : mlR F C B n q) : mlR F (ywC C c d p1 p2 p3 p4 p5) B n q := ⟨R.1, by rw [ywC_o (by omega)]; exact R.2.1, by rw [ywC_o (by omega)]; exact R.2.2⟩
theorem ywC_0 {c d p1 p2 p3 p4 p5 : Int} (hc : C 75 0 = c) (c0 : 0 ≤ c) (c1 : c ≤ 40) : 0 ≤ ywC C c d p1 p2 p3 p4 p5 75 0 ∧ ywC C c d p1 p2 p3 p4 p5 75 0 ≤ 40 := by
  unfold ywC
  split
  · omega
  · unfold ywr
    rw [zsC_s]; omega
/-- where to, and whether more may be -/
def ykk (c : Int) : Int := 1 + 6 * (if 40 ≤ c then 39 else c)
def ymf (c : Int) : Int := if 40 ≤ c then 0 else 1
theorem m_y23 (S : St h) {c t d : Int} (hc : C 75 0 = c) (c0 : 0 ≤ c) (c1 : c ≤ 40) : zr 219 23 [yR (some 72), yI (i32 t), yI (i32 d), none, none, none, none, none, none, none] [] (zw h F C) = zr 219 49 [yR (some 72), yI (i32 t), yI (i32 d), yI (i32 (ykk c)), none, none, none, none, none, none] [zI (i32 (ymf c))] (zw h F C) := by
  have w0 := wa_75 (F := F) (C := C) S (i := 0) (by omega) (by omega)
  rw [hc] at w0
  unfold ykk ymf
  by_cases f : 40 ≤ c
  · have dl : decide (i32 40 ≤ i32 c) = true := dT (by rw [i32_le (by omega) (by omega) (by omega) (by omega)]; exact f)
    rw [if_pos f, if_pos f]
    simp only [zoI_s, zoR_s, zoH_s, zoL_s, zbI_s, zbV_s, zbR_s, zbL_s, zif_t, zif_f, zrz_0, zrz_1, decide_true, decide_false, e_Model_yearLine_23, wr_777 S, w0, dl, e_Model_yearLine_37, i32_mul, i32_add]
  · have dl : decide (i32 40 ≤ i32 c) = false := dF (by rw [i32_le (by omega) (by omega) (by omega) (by omega)]; exact f)
    rw [if_neg f, if_neg f]
    simp only [zoI_s, zoR_s, zoH_s, zoL_s, zbI_s, zbV_s, zbR_s, zbL_s, zif_t, zif_f, zrz_0, zrz_1, decide_true, decide_false, e_Model_yearLine_23, wr_777 S, w0, dl, e_Model_yearLine_37, i32_mul, i32_add]
theorem yws (S : St h) {c d p1 p2 p3 p4 p5 : Int} (hc : C 75 0 = c) (c0 : 0 ≤ c) (c1 : c < 40) : zaS (zw h F C) (some 75) (i32 (1 + 6 * c)) (i32 d) = some (zw h F (zsC C 75 (1 + 6 * c) d)) ∧ zaS (zw h F (zsC C 75 (1 + 6 * c) d)) (some 75) (i32 (1 + 6 * c + 1)) (i32 p1) = some (zw h F (zsC (zsC C 75 (1 + 6 * c) d) 75 (1 + 6 * c + 1) p1)) ∧ zaS (zw h F (zsC (zsC C 75 (1 + 6 * c) d) 75 (1 + 6 * c + 1) p1)) (some 75) (i32 (1 + 6 * c + 2)) (i32 p2) = some (zw h F (zsC (zsC (zsC C 75 (1 + 6 * c) d) 75 (1 + 6 * c + 1) p1) 75 (1 + 6 * c + 2) p2)) ∧ zaS (zw h F (zsC (zsC (zsC C 75 (1 + 6 * c) d) 75 (1 + 6 * c + 1) p1) 75 (1 + 6 * c + 2) p2)) (some 75) (i32 (1 + 6 * c + 3)) (i32 p3) = some (zw h F (zsC (zsC (zsC (zsC C 75 (1 + 6 * c) d) 75 (1 + 6 * c + 1) p1) 75 (1 + 6 * c + 2) p2) 75 (1 + 6 * c + 3) p3)) ∧ zaS (zw h F (zsC (zsC (zsC (zsC C 75 (1 + 6 * c) d) 75 (1 + 6 * c + 1) p1) 75 (1 + 6 * c + 2) p2) 75 (1 + 6 * c + 3) p3)) (some 75) (i32 (1 + 6 * c + 4)) (i32 p4) = some (zw h F (zsC (zsC (zsC (zsC (zsC C 75 (1 + 6 * c) d) 75 (1 + 6 * c + 1) p1) 75 (1 + 6 * c + 2) p2) 75 (1 + 6 * c + 3) p3) 75 (1 + 6 * c + 4) p4)) ∧ zaS (zw h F (zsC (zsC (zsC (zsC (zsC C 75 (1 + 6 * c) d) 75 (1 + 6 * c + 1) p1) 75 (1 + 6 * c + 2) p2) 75 (1 + 6 * c + 3) p3) 75 (1 + 6 * c + 4) p4)) (some 75) (i32 (1 + 6 * c + 5)) (i32 p5) = some (zw h F (zsC (zsC (zsC (zsC (zsC (zsC C 75 (1 + 6 * c) d) 75 (1 + 6 * c + 1) p1) 75 (1 + 6 * c + 2) p2) 75 (1 + 6 * c + 3) p3) 75 (1 + 6 * c + 4) p4) 75 (1 + 6 * c + 5) p5)) ∧ zaI (zw h F (zsC (zsC (zsC (zsC (zsC (zsC C 75 (1 + 6 * c) d) 75 (1 + 6 * c + 1) p1) 75 (1 + 6 * c + 2) p2) 75 (1 + 6 * c + 3) p3) 75 (1 + 6 * c + 4) p4) 75 (1 + 6 * c + 5) p5)) (some 75) (i32 0) 0 = some (i32 c) ∧ zaS (zw h F (zsC (zsC (zsC (zsC (zsC (zsC C 75 (1 + 6 * c) d) 75 (1 + 6 * c + 1) p1) 75 (1 + 6 * c + 2) p2) 75 (1 + 6 * c + 3) p3) 75 (1 + 6 * c + 4) p4) 75 (1 + 6 * c + 5) p5)) (some 75) (i32 0) (i32 (c + 1)) = some (zw h F (ywr C c d p1 p2 p3 p4 p5)) := by
  refine ⟨ws_75 S (by omega) (by omega) d, ws_75 S (by omega) (by omega) p1, ws_75 S (by omega) (by omega) p2, ws_75 S (by omega) (by omega) p3, ws_75 S (by omega) (by omega) p4, ws_75 S (by omega) (by omega) p5, ?_, ws_75 S (by omega) (by omega) _⟩
  rw [wa_75 S (by omega) (by omega), zsC_i (by omega), zsC_i (by omega), zsC_i (by omega), zsC_i (by omega), zsC_i (by omega), zsC_i (by omega), hc]
/-- the end of a line: not a duet -/
theorem m_y105 (S : St h) {c t d p1 p2 p3 p4 : Int} (hd : -5 ≤ d ∧ d ≤ 5 ∧ d ≠ 1) (hc : C 75 0 = c) (c0 : 0 ≤ c) (c1 : c ≤ 40) : zr 219 105 [yR (some 72), yI (i32 t), yI (i32 d), yI (i32 (ykk c)), yI (i32 (ymf c)), yI (i32 p1), yI (i32 p2), yI (i32 p3), none, none] [zI (i32 p4)] (zw h F C) = (zbV (zv 12 214 [zR (some 72)] (zw h F (ywC C c d p1 p2 p3 p4 (-1)))) fun h9 => some (zI 0, h9)) := by
  have d1 : decide (i32 d ≠ i32 1) = true := dT (by rw [ne_eq, i32_eq (by omega) (by omega) (by omega) (by omega)]; exact hd.2.2)
  unfold ykk ymf ywC
  by_cases f : 40 ≤ c
  · rw [if_pos f, if_pos f, if_pos f]
    simp only [zoI_s, zoR_s, zoH_s, zoL_s, zbI_s, zbV_s, zbR_s, zbL_s, zif_t, zif_f, zrz_0, zrz_1, decide_true, decide_false, e_Model_yearLine_105, d1, d0eq]
  · rw [if_neg f, if_neg f, if_neg f]
    obtain ⟨g1, g2, g3, g4, g5, g6, g7, g8⟩ := yws (F := F) (d := d) (p1 := p1) (p2 := p2) (p3 := p3) (p4 := p4) (p5 := -1) S hc c0 (by omega)
    simp only [zoI_s, zoR_s, zoH_s, zoL_s, zbI_s, zbV_s, zbR_s, zbL_s, zif_t, zif_f, zrz_0, zrz_1, decide_true, decide_false, e_Model_yearLine_105, d1, d10, wr_777 S, i32_add, g1, g2, g3, g4, g5, g6, g7, g8]
theorem m_y105d (S : St h) {F1 : Nat → Nat → Int} {C1 : Nat → Int → Int} {c t p1 p2 p3 p4 p5 : Int} (e : zc 212 [zR (some 72), zI (i32 0), zI (i32 7)] (zw h F1 C1) = some (zI (i32 p5), zw h F C)) (hc : C 75 0 = c) (c0 : 0 ≤ c) (c1 : c ≤ 40) : zr 219 105 [yR (some 72), yI (i32 t), yI (i32 1), yI (i32 (ykk c)), yI (i32 (ymf c)), yI (i32 p1), yI (i32 p2), yI (i32 p3), none, none] [zI (i32 p4)] (zw h F1 C1) = (zbV (zv 12 214 [zR (some 72)] (zw h F (ywC C c 1 p1 p2 p3 p4 p5))) fun h9 => some (zI 0, h9)) := by
  unfold ykk ymf ywC
  by_cases f : 40 ≤ c
  · rw [if_pos f, if_pos f, if_pos f]
    simp only [zoI_s, zoR_s, zoH_s, zoL_s, zbI_s, zbV_s, zbR_s, zbL_s, zif_t, zif_f, zrz_0, zrz_1, decide_true, decide_false, e_Model_yearLine_105, d11, wv_72 S, e, d0eq]
  · rw [if_neg f, if_neg f, if_neg f]
    obtain ⟨g1, g2, g3, g4, g5, g6, g7, g8⟩ := yws (F := F) (d := 1) (p1 := p1) (p2 := p2) (p3 := p3) (p4 := p4) (p5 := p5) S hc c0 (by omega)
    simp only [zoI_s, zoR_s, zoH_s, zoL_s, zbI_s, zbV_s, zbR_s, zbL_s, zif_t, zif_f, zrz_0, zrz_1, decide_true, decide_false, e_Model_yearLine_105, d11, wv_72 S, e, d10, wr_777 S, i32_add, g1, g2, g3, g4, g5, g6, g7, g8]
/-- the numbers of a deed's line -/
theorem m_y49 (S : St h) (P : tpM F C B n) (R : mlR F C B n q) (I : qI n q) {c t d : Int} (hc : C 75 0 = c) (c0 : 0 ≤ c) (c1 : c ≤ 40) (hd : (0 ≤ d ∧ d ≤ 5) ∨ (d = -5 ∧ q.2.1 = 1)) : ∃ F' C' p1 p2 p3 p4 p5, zr 219 49 [yR (some 72), yI (i32 t), yI (i32 d), yI (i32 (ykk c)), none, none, none, none, none, none] [zI (i32 (ymf c))] (zw h F C) = (zbV (zv 12 214 [zR (some 72)] (zw h F' (ywC C' c d p1 p2 p3 p4 p5))) fun h9 => some (zI 0, h9)) ∧ rm2 F F' ∧ cM C C' ∧ C' 75 = C 75 ∧ mlR F' C' B n (if d = -5 then q else nmQ B n (tbl (d + 5)) 0 q) ∧ (0 ≤ d → (nmQ B n (tbl (d + 5)) 0 q).2.1 = 0 → p1 = kyw (d + 5) (fun j => tN B n (psN B n q.1 j.toNat)) 0 ∧ p2 = kyw (d + 5) (fun j => tN B n (psN B n q.1 j.toNat)) 1 ∧ p3 = kyw (d + 5) (fun j => tN B n (psN B n q.1 j.toNat)) 2 ∧ p4 = kyw (d + 5) (fun j => tN B n (psN B n q.1 j.toNat)) 3 ∧ p5 = kyw (d + 5) (fun j => tN B n (psN B n q.1 j.toNat)) 4) := by
  have hn := P.2.1
  have dn : ∀ a b : Int, -100 ≤ a → a ≤ 100 → -100 ≤ b → b ≤ 100 → a ≠ b → decide (i32 a ≠ i32 b) = true := fun a b h1 h2 h3 h4 z => dT (by rw [ne_eq, i32_eq (by omega) (by omega) (by omega) (by omega)]; exact z)
  have dz : ∀ a : Int, -100 ≤ a → a ≤ 100 → a ≠ 0 → decide (i32 a ≠ 0) = true := fun a h1 h2 z => dT (by rw [i32_0, ne_eq, i32_eq (by omega) (by omega) (by omega) (by omega)]; exact z)
  have dl : ∀ a : Int, -100 ≤ a → a ≤ 100 → a ≤ 1 → decide (i32 a ≤ i32 1) = true := fun a h1 h2 z => dT (by rw [i32_le (by omega) (by omega) (by omega) (by omega)]; exact z)
  have dg : ∀ a : Int, -100 ≤ a → a ≤ 100 → ¬ (a ≤ 1) → decide (i32 a ≤ i32 1) = false := fun a h1 h2 z => dF (by rw [i32_le (by omega) (by omega) (by omega) (by omega)]; exact z)
  rcases (show d = 0 ∨ d = 1 ∨ d = 2 ∨ d = 3 ∨ d = 4 ∨ d = 5 ∨ (d = -5 ∧ q.2.1 = 1) by omega) with rfl | rfl | rfl | rfl | rfl | rfl | ⟨rfl, f1⟩
  · -- ask
    have P0 := P
    have R0 := R
    have I0 := I
    obtain ⟨F1, C1, v1, e1, rd1, c1', y1, R1, vr1, v1'⟩ := m_numbered S P0 R0 I0 (lo := 0) (hi := 5) (by omega)
    have I1 := I0.nu (B := B) (lo := 0) (hi := 5) (x := -5) hn.2
    have P1 := P0.r2 rd1 c1'
    obtain ⟨F2, C2, v2, e2, rd2, c2', y2, R2, vr2, v2'⟩ := m_numbered S P1 R1 I1 (lo := 0) (hi := 3) (by omega)
    have I2 := I1.nu (B := B) (lo := 0) (hi := 3) (x := -5) hn.2
    have P2 := P1.r2 rd2 c2'
    obtain ⟨F3, C3, v3, e3, rd3, c3', y3, R3, vr3, v3'⟩ := m_numbered S P2 R2 I2 (lo := 0) (hi := 7) (by omega)
    have I3 := I2.nu (B := B) (lo := 0) (hi := 7) (x := -5) hn.2
    have P3 := P2.r2 rd3 c3'
    have row : C3 75 = C 75 := y3.trans (y2.trans y1)
    have eq : nmQ B n (tbl (0 + 5)) 0 q = nuQ B n 0 7 (-5) (nuQ B n 0 3 (-5) (nuQ B n 0 5 (-5) q)) := rfl
    refine ⟨F3, C3, v1, v2, v3, -1, -1, ?_, (rd1.trans rd2).trans rd3, (c1'.trans c2').trans c3', row, ?_, fun _ z => ?_⟩
    · have ef := m_y105 (F := F3) (C := C3) (c := c) (t := t) (d := 0) (p1 := v1) (p2 := v2) (p3 := v3) (p4 := -1) S (by omega) (by rw [row]; exact hc) c0 c1
      rw [← ef]
      have a1 := dn 0 5 (by omega) (by omega) (by omega) (by omega) (by omega)
      have a2 := dn 0 4 (by omega) (by omega) (by omega) (by omega) (by omega)
      have a3 := dl 0 (by omega) (by omega) (by omega)
      have a4 := dn 0 1 (by omega) (by omega) (by omega) (by omega) (by omega)
      simp only [zoI_s, zoR_s, zoH_s, zoL_s, zbI_s, zbV_s, zbR_s, zbL_s, zif_t, zif_f, zrz_0, zrz_1, decide_true, decide_false, e_Model_yearLine_49, a1, a2, wv_72 S, e1, a3, d0ne, e2, e_Model_yearLine_81, e_Model_yearLine_94, e3, e_Model_yearLine_95, a4]
    · rw [if_neg (by omega), eq]; exact R3
    · rw [eq] at z
      have z2 : (nuQ B n 0 3 (-5) (nuQ B n 0 5 (-5) q)).2.1 = 0 := (nmQ_0 [(0, 7, false)] 0 _ (by rw [nmQ_c1 _ rfl]; exact z)).1
      have z1 : (nuQ B n 0 5 (-5) q).2.1 = 0 := (nmQ_0 [(0, 3, false)] 0 _ (by rw [nmQ_c1 _ rfl]; exact z2)).1
      have s1 := (nuQ_ok (B := B) (n := n) (lo := 0) (hi := 5) (x := -5) (q := q) (by omega)).2.2
      have s2 := (nuQ_ok (B := B) (n := n) (lo := 0) (hi := 3) (x := -5) (q := nuQ B n 0 5 (-5) q) (by omega)).2.2
      refine ⟨v1' z1, ?_, ?_, rfl, rfl⟩
      · rw [v2' z2, s1]; rfl
      · rw [v3' z, s2, s1]; rfl
  · -- duet
    have P0 := P
    have R0 := R
    have I0 := I
    obtain ⟨F1, C1, v1, e1, rd1, c1', y1, R1, vr1, v1'⟩ := m_numbered S P0 R0 I0 (lo := 0) (hi := 5) (by omega)
    have I1 := I0.nu (B := B) (lo := 0) (hi := 5) (x := -5) hn.2
    have P1 := P0.r2 rd1 c1'
    obtain ⟨F2, C2, v2, e2, rd2, c2', y2, R2, vr2, v2'⟩ := m_unlike S P1 R1 I1 (hi := 5) (x := v1) (by omega) (by omega)
    have I2 := I1.nu (B := B) (lo := 0) (hi := 5) (x := v1) hn.2
    have P2 := P1.r2 rd2 c2'
    obtain ⟨F3, C3, v3, e3, rd3, c3', y3, R3, vr3, v3'⟩ := m_numbered S P2 R2 I2 (lo := 0) (hi := 3) (by omega)
    have I3 := I2.nu (B := B) (lo := 0) (hi := 3) (x := -5) hn.2
    have P3 := P2.r2 rd3 c3'
    obtain ⟨F4, C4, v4, e4, rd4, c4', y4, R4, vr4, v4'⟩ := m_unlike S P3 R3 I3 (hi := 3) (x := v3) (by omega) (by omega)
    have I4 := I3.nu (B := B) (lo := 0) (hi := 3) (x := v3) hn.2
    have P4 := P3.r2 rd4 c4'
    obtain ⟨F5, C5, v5, e5, rd5, c5', y5, R5, vr5, v5'⟩ := m_numbered S P4 R4 I4 (lo := 0) (hi := 7) (by omega)
    have I5 := I4.nu (B := B) (lo := 0) (hi := 7) (x := -5) hn.2
    have P5 := P4.r2 rd5 c5'
    have row4 : C4 75 = C 75 := y4.trans (y3.trans (y2.trans y1))
    have row : C5 75 = C 75 := y5.trans row4
    have nuX : ∀ (hi x x' : Int) (q : Int × Int × Int), (q.2.1 = 0 → x = x') → nuQ B n 0 hi x q = nuQ B n 0 hi x' q := by
      intro hi x x' q hx
      by_cases z : q.2.1 = 0
      · rw [hx z]
      · unfold nuQ
        by_cases y : q.2.1 = 1
        · rw [if_pos y, if_pos y]
        · rw [if_neg y, if_neg y]
          by_cases k : tK B n q.1 = 1
          · rw [if_pos k, if_pos k, if_neg (fun u => z u.1), if_neg (fun u => z u.1)]
          · rw [if_neg k, if_neg k]
    have q1d : nuQ B n 0 5 v1 (nuQ B n 0 5 (-5) q) = nuQ B n 0 5 (tN B n q.1) (nuQ B n 0 5 (-5) q) := nuX _ _ _ _ v1'
    rw [q1d] at R2 v2' R3 v3' R4 v4' R5 v5' I2 I3 I4 I5
    have q2d : nuQ B n 0 3 v3 (nuQ B n 0 3 (-5) (nuQ B n 0 5 (tN B n q.1) (nuQ B n 0 5 (-5) q))) = nuQ B n 0 3 (tN B n (nuQ B n 0 5 (tN B n q.1) (nuQ B n 0 5 (-5) q)).1) (nuQ B n 0 3 (-5) (nuQ B n 0 5 (tN B n q.1) (nuQ B n 0 5 (-5) q))) := nuX _ _ _ _ v3'
    rw [q2d] at R4 v4' R5 v5' I4 I5
    have eq : nmQ B n (tbl (1 + 5)) 0 q = nuQ B n 0 7 (-5) (nuQ B n 0 3 (tN B n (nuQ B n 0 5 (tN B n q.1) (nuQ B n 0 5 (-5) q)).1) (nuQ B n 0 3 (-5) (nuQ B n 0 5 (tN B n q.1) (nuQ B n 0 5 (-5) q)))) := rfl
    refine ⟨F5, C5, v1, v2, v3, v4, v5, ?_, (((rd1.trans rd2).trans rd3).trans rd4).trans rd5, (((c1'.trans c2').trans c3').trans c4').trans c5', row, ?_, fun _ z => ?_⟩
    · have ef := m_y105d (F := F5) (C := C5) (c := c) (t := t) (p1 := v1) (p2 := v2) (p3 := v3) (p4 := v4) S e5 (by rw [row]; exact hc) c0 c1
      rw [← ef]
      have a1 := dn 1 5 (by omega) (by omega) (by omega) (by omega) (by omega)
      have a2 := dn 1 4 (by omega) (by omega) (by omega) (by omega) (by omega)
      have a3 := dl 1 (by omega) (by omega) (by omega)
      simp only [zoI_s, zoR_s, zoH_s, zoL_s, zbI_s, zbV_s, zbR_s, zbL_s, zif_t, zif_f, zrz_0, zrz_1, decide_true, decide_false, e_Model_yearLine_49, a1, a2, wv_72 S, e1, a3, d1ne, e2, e_Model_yearLine_81, e_Model_yearLine_94, e3, e_Model_yearLine_95, d11, e4]
    · rw [if_neg (by omega), eq]; exact R5
    · have V := nmQ_0 (tbl (1 + 5)) 0 q z
      have st : ∀ (r : List (Int × Int × Bool)) (pv : Int) (q : Int × Int × Int), (nmQ B n r pv q).2.1 = 0 → q.2.1 = 0 := fun r pv q y => (nmQ_0 r pv q y).1
      have z4 := st [(0, 7, false)] 0 _ (by rw [nmQ_c1 _ rfl, ← eq]; exact z)
      have n0 : ∀ (hi x : Int) (q : Int × Int × Int), (nuQ B n 0 hi x q).2.1 = 0 → q.2.1 = 0 := by
        intro hi x q y
        unfold nuQ at y
        split at y
        · omega
        · split at y
          · split at y
            · have : (2 : Int) = 0 := y
              omega
            · exact y
          · have : (1 : Int) = 0 := y
            omega
      have z3 := n0 _ _ _ z4
      have z2 := n0 _ _ _ z3
      have z1 := n0 _ _ _ z2
      have s1 := (nuQ_ok (B := B) (n := n) (lo := 0) (hi := 5) (x := -5) (q := q) (by omega)).2.2
      have s2 := (nuQ_ok (B := B) (n := n) (lo := 0) (hi := 5) (x := tN B n q.1) (q := nuQ B n 0 5 (-5) q) (by omega)).2.2
      have s3 := (nuQ_ok (B := B) (n := n) (lo := 0) (hi := 3) (x := -5) (q := nuQ B n 0 5 (tN B n q.1) (nuQ B n 0 5 (-5) q)) (by omega)).2.2
      have s4 := (nuQ_ok (B := B) (n := n) (lo := 0) (hi := 3) (x := tN B n (nuQ B n 0 5 (tN B n q.1) (nuQ B n 0 5 (-5) q)).1) (q := nuQ B n 0 3 (-5) (nuQ B n 0 5 (tN B n q.1) (nuQ B n 0 5 (-5) q))) (by omega)).2.2
      rw [eq] at z
      refine ⟨v1' z1, ?_, ?_, ?_, ?_⟩
      · rw [v2' z2, s1]; rfl
      · rw [v3' z3, s2, s1]; rfl
      · rw [v4' z4, s3, s2, s1]; rfl
      · rw [v5' z, s4, s3, s2, s1]; rfl
  · have P0 := P
    have R0 := R
    have I0 := I
    obtain ⟨F1, C1, v1, e1, rd1, c1', y1, R1, vr1, v1'⟩ := m_numbered S P0 R0 I0 (lo := 0) (hi := 5) (by omega)
    have I1 := I0.nu (B := B) (lo := 0) (hi := 5) (x := -5) hn.2
    have P1 := P0.r2 rd1 c1'
    have eq : nmQ B n (tbl (2 + 5)) 0 q = nuQ B n 0 5 (-5) q := rfl
    refine ⟨F1, C1, v1, -1, -1, -1, -1, ?_, rd1, c1', y1, ?_, fun _ z => ?_⟩
    · have ef := m_y105 (F := F1) (C := C1) (c := c) (t := t) (d := 2) (p1 := v1) (p2 := -1) (p3 := -1) (p4 := -1) S (by omega) (by rw [y1]; exact hc) c0 c1
      rw [← ef]
      have a1 := dn 2 5 (by omega) (by omega) (by omega) (by omega) (by omega)
      have a3 := dg 2 (by omega) (by omega) (by omega)
      have a4 := dn 2 1 (by omega) (by omega) (by omega) (by omega) (by omega)
      have a2 := dn 2 4 (by omega) (by omega) (by omega) (by omega) (by omega)
      simp only [zoI_s, zoR_s, zoH_s, zoL_s, zbI_s, zbV_s, zbR_s, zbL_s, zif_t, zif_f, zrz_0, zrz_1, decide_true, decide_false, e_Model_yearLine_49, a1, a2, wv_72 S, e1, a3, e_Model_yearLine_81, e_Model_yearLine_95, a4]
    · rw [if_neg (by omega), eq]; exact R1
    · exact ⟨v1' (by rw [← eq]; exact z), rfl, rfl, rfl, rfl⟩
  · have P0 := P
    have R0 := R
    have I0 := I
    obtain ⟨F1, C1, v1, e1, rd1, c1', y1, R1, vr1, v1'⟩ := m_numbered S P0 R0 I0 (lo := 0) (hi := 5) (by omega)
    have I1 := I0.nu (B := B) (lo := 0) (hi := 5) (x := -5) hn.2
    have P1 := P0.r2 rd1 c1'
    have eq : nmQ B n (tbl (3 + 5)) 0 q = nuQ B n 0 5 (-5) q := rfl
    refine ⟨F1, C1, v1, -1, -1, -1, -1, ?_, rd1, c1', y1, ?_, fun _ z => ?_⟩
    · have ef := m_y105 (F := F1) (C := C1) (c := c) (t := t) (d := 3) (p1 := v1) (p2 := -1) (p3 := -1) (p4 := -1) S (by omega) (by rw [y1]; exact hc) c0 c1
      rw [← ef]
      have a1 := dn 3 5 (by omega) (by omega) (by omega) (by omega) (by omega)
      have a3 := dg 3 (by omega) (by omega) (by omega)
      have a4 := dn 3 1 (by omega) (by omega) (by omega) (by omega) (by omega)
      have a2 := dn 3 4 (by omega) (by omega) (by omega) (by omega) (by omega)
      simp only [zoI_s, zoR_s, zoH_s, zoL_s, zbI_s, zbV_s, zbR_s, zbL_s, zif_t, zif_f, zrz_0, zrz_1, decide_true, decide_false, e_Model_yearLine_49, a1, a2, wv_72 S, e1, a3, e_Model_yearLine_81, e_Model_yearLine_95, a4]
    · rw [if_neg (by omega), eq]; exact R1
    · exact ⟨v1' (by rw [← eq]; exact z), rfl, rfl, rfl, rfl⟩
  · have P0 := P
    have R0 := R
    have I0 := I
    obtain ⟨F1, C1, v1, e1, rd1, c1', y1, R1, vr1, v1'⟩ := m_numbered S P0 R0 I0 (lo := 0) (hi := 9) (by omega)
    have I1 := I0.nu (B := B) (lo := 0) (hi := 9) (x := -5) hn.2
    have P1 := P0.r2 rd1 c1'
    have eq : nmQ B n (tbl (4 + 5)) 0 q = nuQ B n 0 9 (-5) q := rfl
    refine ⟨F1, C1, v1, -1, -1, -1, -1, ?_, rd1, c1', y1, ?_, fun _ z => ?_⟩
    · have ef := m_y105 (F := F1) (C := C1) (c := c) (t := t) (d := 4) (p1 := v1) (p2 := -1) (p3 := -1) (p4 := -1) S (by omega) (by rw [y1]; exact hc) c0 c1
      rw [← ef]
      have a1 := dn 4 5 (by omega) (by omega) (by omega) (by omega) (by omega)
      have a3 := dg 4 (by omega) (by omega) (by omega)
      have a4 := dn 4 1 (by omega) (by omega) (by omega) (by omega) (by omega)
      have a2 : decide (i32 4 ≠ i32 4) = false := by decide
      simp only [zoI_s, zoR_s, zoH_s, zoL_s, zbI_s, zbV_s, zbR_s, zbL_s, zif_t, zif_f, zrz_0, zrz_1, decide_true, decide_false, e_Model_yearLine_49, a1, a2, wv_72 S, e1, a3, e_Model_yearLine_81, e_Model_yearLine_95, a4]
    · rw [if_neg (by omega), eq]; exact R1
    · exact ⟨v1' (by rw [← eq]; exact z), rfl, rfl, rfl, rfl⟩
  · refine ⟨F, C, -1, -1, -1, -1, -1, ?_, rm2.rfl F, cM.rfl C, rfl, ?_, fun _ z => ⟨rfl, rfl, rfl, rfl, rfl⟩⟩
    · have ef := m_y105 (F := F) (C := C) (c := c) (t := t) (d := 5) (p1 := -1) (p2 := -1) (p3 := -1) (p4 := -1) S (by omega) hc c0 c1
      rw [← ef]
      have a1 : decide (i32 5 ≠ i32 5) = false := by decide
      have a3 := dg 5 (by omega) (by omega) (by omega)
      have a4 := dn 5 1 (by omega) (by omega) (by omega) (by omega) (by omega)
      simp only [zoI_s, zoR_s, zoH_s, zoL_s, zbI_s, zbV_s, zbR_s, zbL_s, zif_t, zif_f, zrz_0, zrz_1, decide_true, decide_false, e_Model_yearLine_49, a1, a3, e_Model_yearLine_81, e_Model_yearLine_95, a4]
    · rw [if_neg (by omega)]; exact R
  · have P0 := P
    have R0 := R
    have I0 := I
    obtain ⟨F1, C1, v1, e1, rd1, c1', y1, R1, vr1, v1'⟩ := m_numbered S P0 R0 I0 (lo := 0) (hi := 5) (by omega)
    have I1 := I0.nu (B := B) (lo := 0) (hi := 5) (x := -5) hn.2
    have P1 := P0.r2 rd1 c1'
    obtain ⟨F2, C2, v2, e2, rd2, c2', y2, R2, vr2, v2'⟩ := m_unlike S P1 R1 I1 (hi := 5) (x := v1) (by omega) (by omega)
    have I2 := I1.nu (B := B) (lo := 0) (hi := 5) (x := v1) hn.2
    have P2 := P1.r2 rd2 c2'
    obtain ⟨F3, C3, v3, e3, rd3, c3', y3, R3, vr3, v3'⟩ := m_numbered S P2 R2 I2 (lo := 0) (hi := 3) (by omega)
    have I3 := I2.nu (B := B) (lo := 0) (hi := 3) (x := -5) hn.2
    have P3 := P2.r2 rd3 c3'
    have row : C3 75 = C 75 := y3.trans (y2.trans y1)
    have n1 : nuQ B n 0 5 (-5) q = q := nuQ_1 f1
    rw [n1] at R2 R3
    have n2 : nuQ B n 0 5 v1 q = q := nuQ_1 f1
    rw [n2] at R3
    have n3 : nuQ B n 0 3 (-5) q = q := nuQ_1 f1
    rw [n3] at R3
    refine ⟨F3, C3, v1, v2, v3, -1, -1, ?_, (rd1.trans rd2).trans rd3, (c1'.trans c2').trans c3', row, ?_, fun z => by omega⟩
    · have ef := m_y105 (F := F3) (C := C3) (c := c) (t := t) (d := -5) (p1 := v1) (p2 := v2) (p3 := v3) (p4 := -1) S (by omega) (by rw [row]; exact hc) c0 c1
      rw [← ef]
      have a1 := dn (-5) 5 (by omega) (by omega) (by omega) (by omega) (by omega)
      have a2 := dn (-5) 4 (by omega) (by omega) (by omega) (by omega) (by omega)
      have a3 := dl (-5) (by omega) (by omega) (by omega)
      have a4 := dn (-5) 1 (by omega) (by omega) (by omega) (by omega) (by omega)
      have a5 := dz (-5) (by omega) (by omega) (by omega)
      simp only [zoI_s, zoR_s, zoH_s, zoL_s, zbI_s, zbV_s, zbR_s, zbL_s, zif_t, zif_f, zrz_0, zrz_1, decide_true, decide_false, e_Model_yearLine_49, a1, a2, wv_72 S, e1, a3, a5, e2, e_Model_yearLine_81, e_Model_yearLine_94, e3, e_Model_yearLine_95, a4]
    · rw [if_pos rfl]; exact R3
theorem lnW1 {w : Int} : lnW 1 w = (if w = 5 then 5 else if w = 6 then 6 else if w = 7 then 7 else if w = 8 then 8 else if w = 9 then 9 else if w = 10 then 10 else -1) := by unfold lnW; rw [if_neg (by omega), if_pos rfl]
theorem m_yearLine (S : St h) (P : tpM F C B n) (R : mlR F C B n q) (I : qI n q) (cf : q.2.1 ≠ 1) (hs : tK B n q.1 ≠ 3) (D : dtM C 1 q.2.1 T) : ∃ F' C', zc 219 [zR (some 72)] (zw h F C) = some (zI 0, zw h F' C') ∧ rm2 F F' ∧ cM C C' ∧ mlR F' C' B n (lnQ B n 1 T q) ∧ dtM C' 1 (lnQ B n 1 T q).2.1 (lnT B n 1 T q) := by
  have hn := P.2.1
  have sn := tK_lt hs
  have r72 := (R.1.2 cf).2.1
  have wr := tW_rng B n q.1
  obtain ⟨F1, C1, e1, rd1, c1, y1, R1⟩ := m_wordIn S P R I.1 (a := 5) (b := 10) (by omega)
  have D1 := D.row y1
  have cr := D1.2.1 rfl
  have P1 := P.r2 rd1 c1
  have wc := wa_75 (F := F1) (C := C1) S (i := 0) (by omega) (by omega)
  by_cases cw : tK B n q.1 = 0 ∧ (5 ≤ tW B n q.1 ∧ tW B n q.1 ≤ 10)
  · have ew : wdQ B n 5 10 q = (nxS B n q.1, q.2) := by unfold wdQ; rw [if_neg cf, if_pos cw]
    rw [ew] at R1
    rw [if_pos ⟨cf, cw⟩] at e1
    have r776 : F1 776 72 = 0 := (R1.1.2 cf).1
    have lr : lnL B n 1 q.1 = tW B n q.1 := by
      unfold lnL
      rw [if_pos cw.1, lnW1]
      rcases (show tW B n q.1 = 5 ∨ tW B n q.1 = 6 ∨ tW B n q.1 = 7 ∨ tW B n q.1 = 8 ∨ tW B n q.1 = 9 ∨ tW B n q.1 = 10 by omega) with z | z | z | z | z | z <;> rw [z] <;> rfl
    obtain ⟨g1, g2⟩ := lnQ_e (T := T) (rfl : lnL B n 1 q.1 = lnL B n 1 q.1) (by omega)
    rw [lr] at g1 g2
    generalize hw : tW B n q.1 = l at *
    have eL : lmF l = 40 ∧ cnT l T = T 0 := by
      rcases (show l = 5 ∨ l = 6 ∨ l = 7 ∨ l = 8 ∨ l = 9 ∨ l = 10 by omega) with rfl | rfl | rfl | rfl | rfl | rfl <;> exact ⟨rfl, rfl⟩
    have ex : q.2.1 = 0 → C1 75 0 = T 0 := fun z => D1.2.2.2 z 0 (by omega) (by omega)
    obtain ⟨C2, e2, c2, y2, R2⟩ : ∃ C2, zc 219 [zR (some 72)] (zw h F C) = zr 219 23 [yR (some 72), yI (i32 (q.1)), yI (i32 (l - 5)), none, none, none, none, none, none, none] [] (zw h F1 C2) ∧ cM C1 C2 ∧ C2 75 = C1 75 ∧ mlR F1 C2 B n (hdQ B n l (cnT l T) q) := by
      by_cases full : 40 ≤ C1 75 0
      · obtain ⟨C2, ea, c2, y2, R2⟩ := m_full (T := T) (l := l) S R1 I hn.2 cf (fun z => by rw [eL.1, eL.2, ← ex z]; exact full)
        have dl : decide (i32 (C1 75 0) < i32 40) = false := dF (by rw [i32_lt (by omega) (by omega) (by omega) (by omega)]; omega)
        refine ⟨C2, ?_, c2, y2, R2⟩
        simp only [zoI_s, zoR_s, zoH_s, zoL_s, zbI_s, zbV_s, zbR_s, zbL_s, zif_t, zif_f, zrz_0, zrz_1, decide_true, decide_false, e_Model_yearLine, wg_772 S, r72, wv_72 S, e1, wg_776 S, r776, d0ne, wr_777 S, wc, dl, ea, i32_sub]
      · have dl : decide (i32 (C1 75 0) < i32 40) = true := dT (by rw [i32_lt (by omega) (by omega) (by omega) (by omega)]; omega)
        refine ⟨C1, ?_, cM.rfl C1, rfl, ?_⟩
        · simp only [zoI_s, zoR_s, zoH_s, zoL_s, zbI_s, zbV_s, zbR_s, zbL_s, zif_t, zif_f, zrz_0, zrz_1, decide_true, decide_false, e_Model_yearLine, wg_772 S, r72, wv_72 S, e1, wg_776 S, r776, d0ne, wr_777 S, wc, dl, i32_sub]
        · rw [hd_no (fun z => by rw [eL.1, eL.2, ← ex z]; exact full)]
          exact R1
    obtain ⟨I1, f1, s1⟩ := I.hd (B := B) (l := l) (c := cnT l T) hn.2 cf sn
    have P2 := P1.r2 (rm2.rfl F1) c2
    have e23 := m_y23 (F := F1) (C := C2) (c := C1 75 0) (t := q.1) (d := l - 5) S (by rw [y2]) cr.1 cr.2
    obtain ⟨F3, C3, p1, p2, p3, p4, p5, e3, rd3, c3, y3, R3, x3⟩ := m_y49 S P2 R2 I1 (c := C1 75 0) (t := q.1) (d := l - 5) (by rw [y2]) cr.1 cr.2 (Or.inl (by omega))
    rw [if_neg (by omega), show l - 5 + 5 = l by omega] at R3
    rw [show l - 5 + 5 = l by omega] at x3
    have row : C3 75 = C1 75 := y3.trans y2
    have I3 := (I.l3 (B := B) (T := T) hn.2 cf sn (l := l)).1
    have k3 := ywC_0 (C := C3) (c := C1 75 0) (d := l - 5) (p1 := p1) (p2 := p2) (p3 := p3) (p4 := p4) (p5 := p5) (by rw [row]) cr.1 cr.2
    have D3 : dtM (ywC C3 (C1 75 0) (l - 5) p1 p2 p3 p4 p5) 1 (l2Q B n l T q).2.1 (if (l2Q B n l T q).2.1 = 0 then kpS l (vlS B n q.1) (tW B n (l2Q B n l T q).1 - 11) T else T) := by
      refine ⟨fun z => by omega, fun _ => k3, fun z => by omega, fun z => ?_⟩
      have z1 := l2_0 z
      rw [eL.1, eL.2, ← ex z1.1] at z1
      obtain ⟨x4, x5, x6, x7, x8⟩ := x3 (by omega) z
      rw [s1] at x4 x5 x6 x7 x8
      rw [if_pos z]
      unfold ywC
      rw [if_neg z1.2, ywr_row, row, x4, x5, x6, x7, x8, ex z1.1]
      have kp : kpS l (vlS B n q.1) (tW B n (l2Q B n l T q).1 - 11) T = up1 (up1 (up1 (up1 (up1 (up1 (up1 T (1 + 6 * T 0) (l - 5)) (2 + 6 * T 0) (kyw l (vlS B n q.1) 0)) (3 + 6 * T 0) (kyw l (vlS B n q.1) 1)) (4 + 6 * T 0) (kyw l (vlS B n q.1) 2)) (5 + 6 * T 0) (kyw l (vlS B n q.1) 3)) (6 + 6 * T 0) (kyw l (vlS B n q.1) 4)) 0 (T 0 + 1) := by
        unfold kpS
        rw [if_neg (by omega), if_neg (by omega), if_neg (by omega), if_neg (by omega), if_neg (by omega), if_neg (by omega), if_neg (by omega)]
      rw [kp]
      exact ((((((((D1.2.2.2 z1.1).up _ _).up _ _).up _ _).up _ _).up _ _).up _ _).up _ _)
    obtain ⟨F4, C4, e5, rd4, c4, R4, D4⟩ := m_fin S (P2.r2 rd3 (c3.yw (C1 75 0) (l - 5) p1 p2 p3 p4 p5)) (ywC_R R3) I3.1 D3
    rw [g1, g2, l3_n (by omega)]
    refine ⟨F4, C4, ?_, (rd1.trans rd3).trans rd4, ((c1.trans c2).trans (c3.yw (C1 75 0) (l - 5) p1 p2 p3 p4 p5)).trans c4, R4, D4⟩
    rw [e2, e23, e3, wv_72 S, e5, zbV_s]
  · have ew : wdQ B n 5 10 q = (q.1, 1, q.1) := by unfold wdQ; rw [if_neg cf, if_neg cw]
    rw [ew] at R1
    rw [if_neg (fun z => cw z.2)] at e1
    have r776 : F1 776 72 = 1 := R1.1.1 rfl
    have hl : lnL B n 1 q.1 = -1 := by
      unfold lnL
      by_cases k : tK B n q.1 = 0
      · rw [if_pos k, lnW1, if_neg (fun z => cw ⟨k, by omega⟩), if_neg (fun z => cw ⟨k, by omega⟩), if_neg (fun z => cw ⟨k, by omega⟩), if_neg (fun z => cw ⟨k, by omega⟩), if_neg (fun z => cw ⟨k, by omega⟩), if_neg (fun z => cw ⟨k, by omega⟩)]
      · rw [if_neg k]
    have g1 : lnQ B n 1 T q = (q.1, 1, q.1) := by unfold lnQ; rw [if_pos hl]
    have I1 : qI n (q.1, (1 : Int), q.1) := ⟨I.1, ⟨by dsimp only; omega, by dsimp only; omega⟩, ⟨by have := I.1; dsimp only; omega, by have := I.1; dsimp only; omega⟩, Or.inr (Or.inl rfl), fun _ => rfl⟩
    have e23 := m_y23 (F := F1) (C := C1) (c := C1 75 0) (t := q.1) (d := -5) S rfl cr.1 cr.2
    obtain ⟨F3, C3, p1, p2, p3, p4, p5, e3, rd3, c3, y3, R3, x3⟩ := m_y49 S P1 R1 I1 (c := C1 75 0) (t := q.1) (d := -5) rfl cr.1 cr.2 (Or.inr ⟨rfl, rfl⟩)
    rw [if_pos rfl] at R3
    have k3 := ywC_0 (C := C3) (c := C1 75 0) (d := -5) (p1 := p1) (p2 := p2) (p3 := p3) (p4 := p4) (p5 := p5) (by rw [y3]) cr.1 cr.2
    have D3 : dtM (ywC C3 (C1 75 0) (-5) p1 p2 p3 p4 p5) 1 (q.1, (1 : Int), q.1).2.1 (lnT B n 1 T q) := ⟨fun z => by omega, fun _ => k3, fun z => by omega, fun z => by dsimp only at z; omega⟩
    obtain ⟨F4, C4, e5, rd4, c4, R4, D4⟩ := m_fin S (P1.r2 rd3 (c3.yw (C1 75 0) (-5) p1 p2 p3 p4 p5)) (ywC_R R3) I.1 D3
    have e6 : scQ B n (q.1, (1 : Int), q.1) = (q.1, 1, q.1) := if_pos rfl
    rw [e6] at R4 D4
    rw [g1]
    refine ⟨F4, C4, ?_, (rd1.trans rd3).trans rd4, (c1.trans (c3.yw (C1 75 0) (-5) p1 p2 p3 p4 p5)).trans c4, R4, D4⟩
    have go : zc 219 [zR (some 72)] (zw h F C) = zr 219 23 [yR (some 72), yI (i32 (q.1)), yI (i32 (-5)), none, none, none, none, none, none, none] [] (zw h F1 C1) := by
      simp only [zoI_s, zoR_s, zoH_s, zoL_s, zbI_s, zbV_s, zbR_s, zbL_s, zif_t, zif_f, zrz_0, zrz_1, decide_true, decide_false, e_Model_yearLine, wg_772 S, r72, wv_72 S, e1, wg_776 S, r776, d1ne, i32_sub]
      rfl
    rw [go, e23, e3, wv_72 S, e5, zbV_s]
end MY
