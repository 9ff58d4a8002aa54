/-! a Told made -/
section TI
variable {g h h' : zHeap} {N y : Nat}
theorem zaT_s {a t n q : Nat} {f : Nat → Option Nat} {i : Int} (hf : hAR h a = some (t, n, f)) (h0 : 0 ≤ i) (h1 : i < n) (h2 : i < 2147483648) (hq : hCL h q = some t) : zaT h (some a) (i32 i) (some q) = some (zsQ h a t n (zup f i.toNat (some q))) := by
  unfold zaT
  dsimp only
  rw [hf]
  dsimp only
  rw [if_pos ⟨by rw [i32_0, i32_le (by omega) (by omega) (by omega) (by omega)]; exact h0, by rw [i32_nat h0 (by omega)]; omega, hq⟩, i32_nat h0 (by omega)]
theorem ext.sQ (e : ext g h) {a t n : Nat} {f : Nat → Option Nat} (ha : hN g ≤ a) : ext g (zsQ h a t n f) := by
  refine ⟨e.1, e.2.1, e.2.2.1, fun x hx => ⟨?_, (e.2.2.2 x hx).2⟩⟩
  show (if x = a then _ else hAR h x) = _
  rw [if_neg (by omega)]; exact (e.2.2.2 x hx).1
/-- as ext, but for the rows of references -/
def xt (g g' : zHeap) : Prop := hN g ≤ hN g' ∧ (∀ k a, a < hN g → hFI g' k a = hFI g k a ∧ hFR g' k a = hFR g k a) ∧ (∀ a, a < hN g → hAI g' a = hAI g a ∧ hCL g' a = hCL g a)
theorem ext.xt (e : ext g h) : xt g h := ⟨e.1, e.2.1, fun a ha => ⟨e.2.2.1 a (Or.inl ha), (e.2.2.2 a ha).2⟩⟩
theorem xt.trans {g1 g2 : zHeap} (e : xt g g1) (f : xt g1 g2) : xt g g2 := by
  have h1 := e.1
  have h2 := f.1
  exact ⟨by omega, fun k a ha => ⟨(f.2.1 k a (by omega)).1.trans (e.2.1 k a ha).1, (f.2.1 k a (by omega)).2.trans (e.2.1 k a ha).2⟩, fun a ha => ⟨(f.2.2 a (by omega)).1.trans (e.2.2 a ha).1, (f.2.2 a (by omega)).2.trans (e.2.2 a ha).2⟩⟩
theorem xt.sQ (h : zHeap) (a t n : Nat) (f : Nat → Option Nat) : xt h (zsQ h a t n f) := ⟨Nat.le_refl _, fun _ _ _ => ⟨rfl, rfl⟩, fun _ _ => ⟨rfl, rfl⟩⟩
def noR (h : zHeap) : zHeap := (hFI h, hFR h, fun a => if a < hN h then hAI h a else none, fun _ => none, hCL h, hN h, hS h)
theorem xt.no (e : xt g h) : ext (noR g) (noR h) := by
  have h1 := e.1
  refine ⟨e.1, e.2.1, fun a ha => ?_, fun a ha => ⟨rfl, (e.2.2 a ha).2⟩⟩
  show (if a < hN h then hAI h a else none) = (if a < hN g then hAI g a else none)
  have ha' : a < hN g ∨ hN h ≤ a := ha
  by_cases c : a < hN g
  · rw [if_pos c, if_pos (by omega)]; exact (e.2.2 a c).1
  · rw [if_neg c, if_neg (by omega)]
theorem itS.xt {k a : Nat} (s : itS g k a) (e : xt g h) (ha : a < hN g) : itS h k a := by
  unfold itS; rw [(e.2.1 k a ha).1]; exact s
theorem rwS.xt {a t n : Nat} (s : rwS g a t n) (e : xt g h) (ha : a < hN g) : rwS h a t n := by
  unfold rwS; rw [(e.2.2 a ha).1]; exact s
theorem duS.xt {a : Nat} (s : duS g a) (e : xt g h) (ha : a + 7 ≤ hN g) : duS h a := by
  obtain ⟨s1, ⟨s2, s3, s4, s5⟩, s6, ⟨r1, r2, r3, r4, r5, r6⟩, s7⟩ := s
  have f := fun k => (e.2.1 k a (by omega)).2
  refine ⟨by rw [(e.2.2 a (by omega)).2]; exact s1, ⟨s2.xt e (by omega), s3.xt e (by omega), s4.xt e (by omega), s5.xt e (by omega)⟩, ?_, ⟨r1.xt e (by omega), r2.xt e (by omega), r3.xt e (by omega), r4.xt e (by omega), r5.xt e (by omega), r6.xt e (by omega)⟩, s7⟩
  rw [f, f, f, f, f, f]; exact s6
theorem yeS.xt {a : Nat} (s : yeS g a) (e : xt g h) (ha : a + 2 ≤ hN g) : yeS h a := by
  obtain ⟨s1, s2, s3, s4, s5⟩ := s
  exact ⟨by rw [(e.2.2 a (by omega)).2]; exact s1, s2.xt e (by omega), by rw [(e.2.1 _ a (by omega)).2]; exact s3, s4.xt e (by omega), s5⟩
theorem loS.xt {a : Nat} (s : loS g a) (e : xt g h) (ha : a + 4 ≤ hN g) : loS h a := by
  obtain ⟨s1, s2, s3, ⟨r1, r2, r3⟩, s5⟩ := s
  have f := fun k => (e.2.1 k a (by omega)).2
  refine ⟨by rw [(e.2.2 a (by omega)).2]; exact s1, s2.xt e (by omega), ?_, ⟨r1.xt e (by omega), r2.xt e (by omega), r3.xt e (by omega)⟩, s5⟩
  rw [f, f, f]; exact s3
theorem taS.xt {a : Nat} (s : taS g a) (e : xt g h) (ha : a + 2 ≤ hN g) : taS h a := by
  obtain ⟨s1, s2, s3, s4, s5⟩ := s
  exact ⟨by rw [(e.2.2 a (by omega)).2]; exact s1, by rw [(e.2.1 _ a (by omega)).2]; exact s2, s3.xt e (by omega), s4.xt e (by omega), s5⟩
/-- a Told half made: y turns -/
def toI (h : zHeap) (N y : Nat) : Prop := hCL h N = some 9 ∧ (hFR h 576 N = some (some (N + 1)) ∧ hFR h 577 N = some (some (N + 3)) ∧ hFR h 578 N = some (some (N + 4)) ∧ hFR h 579 N = some (some (N + 5)) ∧ hFR h 580 N = some (some (N + 6))) ∧ (itS h 581 N ∧ itS h 582 N) ∧ (taS h (N + 1) ∧ hFI h 513 (N + 1) = some 0) ∧ hAI h (N + 3) = some (0, 3, fun _ => 0) ∧ (∃ f, hAR h (N + 4) = some (2, 2, f) ∧ ∀ z, z < y → f z = some (N + 7 + 13 * z)) ∧ (∃ f, hAR h (N + 5) = some (10, 2, f) ∧ ∀ z, z < y → f z = some (N + 14 + 13 * z)) ∧ (∃ f, hAR h (N + 6) = some (3, 2, f) ∧ ∀ z, z < y → f z = some (N + 16 + 13 * z)) ∧ (∀ z, z < y → duS h (N + 7 + 13 * z) ∧ yeS h (N + 14 + 13 * z) ∧ loS h (N + 16 + 13 * z) ∧ hFI h 640 (N + 14 + 13 * z) = some 0 ∧ hFI h 192 (N + 16 + 13 * z) = some 0) ∧ hN h = N + 7 + 13 * y
theorem t_init (H : toI h N y) (hy : y < 2) (hb : N + 60 < zK0) (E : ext g h) (hg : hN g = N) : ∃ h', zr 137 25 [yR (some N), yI (i32 (y : Int))] [] h = zr 137 25 [yR (some N), yI (i32 ((y + 1 : Nat) : Int))] [] h' ∧ toI h' N (y + 1) ∧ ext g h' ∧ hS h' = hS h + 320 := by
  obtain ⟨H1, ⟨H2, H3, H4, H5, H6⟩, ⟨H7, H8⟩, ⟨H9, H10⟩, H11, ⟨f1, A1, B1⟩, ⟨f2, A2, B2⟩, ⟨f3, A3, B3⟩, Hz, HN⟩ := H
  obtain ⟨d, e1, x1, n1, s1, D1⟩ := i_Duchy h (by omega)
  have t1 := zaT_s (h := d) (i := (y : Int)) ((x1.2.2.2 (N + 4) (by omega)).1.trans A1) (by omega) (by omega) (by omega) D1.1
  obtain ⟨q, q0⟩ : ∃ q, q = zsQ d (N + 4) 2 2 (zup f1 (y : Int).toNat (some (hN h))) := ⟨_, rfl⟩
  rw [← q0] at t1
  have xq : xt d q := by rw [q0]; exact xt.sQ _ _ _ _ _
  have nq : hN q = hN d := by rw [q0]; rfl
  have sq : hS q = hS d := by rw [q0]; rfl
  have rq : ∀ x, hAR q x = if x = N + 4 then some (2, 2, zup f1 (y : Int).toNat (some (hN h))) else hAR d x := fun x => by rw [q0]; rfl
  obtain ⟨d2, e2, x2, n2, s2, D2, D2'⟩ := i_Year q (by omega)
  have t2 := zaT_s (h := d2) (i := (y : Int)) (a := N + 5) (t := 10) (n := 2) (f := f2) (by rw [(x2.2.2.2 (N + 5) (by omega)).1, rq, if_neg (by omega), (x1.2.2.2 (N + 5) (by omega)).1]; exact A2) (by omega) (by omega) (by omega) D2.1
  obtain ⟨r, r0⟩ : ∃ r, r = zsQ d2 (N + 5) 10 2 (zup f2 (y : Int).toNat (some (hN q))) := ⟨_, rfl⟩
  rw [← r0] at t2
  have xr : xt d2 r := by rw [r0]; exact xt.sQ _ _ _ _ _
  have nr : hN r = hN d2 := by rw [r0]; rfl
  have sr : hS r = hS d2 := by rw [r0]; rfl
  have rr : ∀ x, hAR r x = if x = N + 5 then some (10, 2, zup f2 (y : Int).toNat (some (hN q))) else hAR d2 x := fun x => by rw [r0]; rfl
  obtain ⟨d3, e3, x3, n3, s3, D3, D3'⟩ := i_Log r (by omega)
  have t3 := zaT_s (h := d3) (i := (y : Int)) (a := N + 6) (t := 3) (n := 2) (f := f3) (by rw [(x3.2.2.2 (N + 6) (by omega)).1, rr, if_neg (by omega), (x2.2.2.2 (N + 6) (by omega)).1, rq, if_neg (by omega), (x1.2.2.2 (N + 6) (by omega)).1]; exact A3) (by omega) (by omega) (by omega) D3.1
  obtain ⟨w, w0⟩ : ∃ w, w = zsQ d3 (N + 6) 3 2 (zup f3 (y : Int).toNat (some (hN r))) := ⟨_, rfl⟩
  rw [← w0] at t3
  have xw : xt d3 w := by rw [w0]; exact xt.sQ _ _ _ _ _
  have nw : hN w = hN d3 := by rw [w0]; rfl
  have sw : hS w = hS d3 := by rw [w0]; rfl
  have rw' : ∀ x, hAR w x = if x = N + 6 then some (3, 2, zup f3 (y : Int).toNat (some (hN r))) else hAR d3 x := fun x => by rw [w0]; rfl
  have X3 : xt r w := x3.xt.trans xw
  have X2 : xt q w := (x2.xt.trans xr).trans X3
  have X1 : xt h w := (x1.xt.trans xq).trans X2
  have dd : decide (i32 2 ≤ i32 (y : Int)) = false := dF (by rw [i32_le (by omega) (by omega) (by omega) (by omega)]; omega)
  have ss : i32 (y : Int) + i32 1 = i32 ((y + 1 : Nat) : Int) := by rw [i32_add]; rfl
  have g1 : zgR h (some N) 578 = some (some (N + 4)) := H4
  have g2 : zgR q (some N) 579 = some (some (N + 5)) := ((xq.2.1 579 N (by omega)).2.trans (x1.2.1 579 N (by omega)).2).trans H5
  have g3 : zgR r (some N) 580 = some (some (N + 6)) := (((x2.xt.trans xr).2.1 580 N (by omega)).2.trans ((x1.xt.trans xq).2.1 580 N (by omega)).2).trans H6
  refine ⟨w, ?_, ?_, ?_, by omega⟩
  · rw [e_Told_init_25]
    simp only [zoI_s, zoR_s, zoH_s, zoL_s, zbI_s, zbV_s, zbR_s, zbL_s, zif_t, zif_f, zrz_0, zrz_1, decide_true, decide_false, dd, g1, e1, t1, g2, e2, t2, g3, e3, t3, ss]
  · have F1 := fun k a (ha : a < hN h) => X1.2.1 k a ha
    refine ⟨by rw [(X1.2.2 N (by omega)).2]; exact H1, ?_, ⟨H7.xt X1 (by omega), H8.xt X1 (by omega)⟩, ⟨H9.xt X1 (by omega), by rw [(F1 _ _ (by omega)).1]; exact H10⟩, by rw [(X1.2.2 _ (by omega)).1]; exact H11, ?_, ?_, ?_, ?_, by omega⟩
    · rw [(F1 _ N (by omega)).2, (F1 _ N (by omega)).2, (F1 _ N (by omega)).2, (F1 _ N (by omega)).2, (F1 _ N (by omega)).2]; exact ⟨H2, H3, H4, H5, H6⟩
    · refine ⟨zup f1 (y : Int).toNat (some (hN h)), ?_, fun z hz => ?_⟩
      · rw [rw', if_neg (by omega), (x3.2.2.2 _ (by omega)).1, rr, if_neg (by omega), (x2.2.2.2 _ (by omega)).1, rq, if_pos rfl]
      · unfold zup
        by_cases c : z = (y : Int).toNat
        · rw [if_pos c, HN]; congr 1; omega
        · rw [if_neg c]; exact B1 z (by omega)
    · refine ⟨zup f2 (y : Int).toNat (some (hN q)), ?_, fun z hz => ?_⟩
      · rw [rw', if_neg (by omega), (x3.2.2.2 _ (by omega)).1, rr, if_pos rfl]
      · unfold zup
        by_cases c : z = (y : Int).toNat
        · rw [if_pos c]; congr 1; omega
        · rw [if_neg c]; exact B2 z (by omega)
    · refine ⟨zup f3 (y : Int).toNat (some (hN r)), ?_, fun z hz => ?_⟩
      · rw [rw', if_pos rfl]
      · unfold zup
        by_cases c : z = (y : Int).toNat
        · rw [if_pos c]; congr 1; omega
        · rw [if_neg c]; exact B3 z (by omega)
    · intro z hz
      by_cases c : z = y
      · subst c
        have a1 : N + 7 + 13 * z = hN h := by omega
        have a2 : N + 14 + 13 * z = hN q := by omega
        have a3 : N + 16 + 13 * z = hN r := by omega
        rw [a1, a2, a3]
        exact ⟨D1.xt (xq.trans X2) (by omega), D2.xt (xr.trans X3) (by omega), D3.xt xw (by omega), by rw [((xr.trans X3).2.1 640 _ (by omega)).1]; exact D2', by rw [(xw.2.1 192 _ (by omega)).1]; exact D3'⟩
      · obtain ⟨z1, z2, z3, z4, z5⟩ := Hz z (by omega)
        exact ⟨z1.xt X1 (by omega), z2.xt X1 (by omega), z3.xt X1 (by omega), by rw [(F1 _ _ (by omega)).1]; exact z4, by rw [(F1 _ _ (by omega)).1]; exact z5⟩
  · rw [w0]
    refine ext.sQ ?_ (by omega)
    refine ext.trans ?_ x3
    rw [r0]
    refine ext.sQ ?_ (by omega)
    refine ext.trans ?_ x2
    rw [q0]
    exact ext.sQ (E.trans x1) (by omega)
end TI
