/-! what is told, laid elsewhere: other cells, other numbers alike -/
section CG
variable {h : zHeap} {F F' : Nat → Nat → Int} {C C' : Nat → Int → Int} {a b : Nat} {A A' D D' : Int → Int}
theorem dOK.cg (O : dOK D) (e : ∀ j, 0 ≤ j → j < 44 → D' j = D j) : dOK D' := by
  obtain ⟨o0, o1, o2, o3, o4, o5, o6, o7, o8, o9⟩ := O
  have e0 := e 0 (by omega) (by omega)
  have e1 := e 1 (by omega) (by omega)
  have e2 := e 2 (by omega) (by omega)
  refine ⟨by rw [e0]; exact o0, by rw [e1]; exact o1, by rw [e2]; exact o2, by rw [e 3 (by omega) (by omega)]; exact o3, fun r h0 h1 => ?_, fun r h0 h1 => ?_, fun r h0 h1 => ?_, fun r h0 h1 => ?_, fun r h0 h1 => ?_, fun r h0 h1 => ?_⟩
  · rw [e0] at h1; rw [e (4 + 2 * r) (by omega) (by omega)]; exact o4 r h0 h1
  · rw [e0] at h1; rw [e (5 + 2 * r) (by omega) (by omega)]; exact o5 r h0 h1
  · rw [e1] at h1; rw [e (16 + r) (by omega) (by omega)]; exact o6 r h0 h1
  · rw [e2] at h1; rw [e (20 + 2 * r) (by omega) (by omega)]; exact o7 r h0 h1
  · rw [e2] at h1; rw [e (21 + 2 * r) (by omega) (by omega)]; exact o8 r h0 h1
  · rw [e (36 + r) (by omega) (by omega)]; exact o9 r h0 h1
theorem duV.cg (V : duV F C a D) (O : dOK D) (e : ∀ j, 0 ≤ j → j < 44 → D' j = D j) : duV F C a D' := by
  obtain ⟨⟨v0, v1, v2, v3⟩, v4, v5, v6, v7, v8, v9⟩ := V
  have o0 := O.1
  have o1 := O.2.1
  have o2 := O.2.2.1
  have e0 := e 0 (by omega) (by omega)
  have e1 := e 1 (by omega) (by omega)
  have e2 := e 2 (by omega) (by omega)
  refine ⟨⟨by rw [e0]; exact v0, by rw [e1]; exact v1, by rw [e2]; exact v2, by rw [e 3 (by omega) (by omega)]; exact v3⟩, fun r h0 h1 => ?_, fun r h0 h1 => ?_, fun r h0 h1 => ?_, fun r h0 h1 => ?_, fun r h0 h1 => ?_, fun r h0 h1 => ?_⟩
  · rw [e0] at h1; rw [e (4 + 2 * r) (by omega) (by omega)]; exact v4 r h0 h1
  · rw [e0] at h1; rw [e (5 + 2 * r) (by omega) (by omega)]; exact v5 r h0 h1
  · rw [e1] at h1; rw [e (16 + r) (by omega) (by omega)]; exact v6 r h0 h1
  · rw [e2] at h1; rw [e (20 + 2 * r) (by omega) (by omega)]; exact v7 r h0 h1
  · rw [e2] at h1; rw [e (21 + 2 * r) (by omega) (by omega)]; exact v8 r h0 h1
  · rw [e (36 + r) (by omega) (by omega)]; exact v9 r h0 h1
theorem yOK.cg (O : yOK D) (e : ∀ j, 0 ≤ j → j < 241 → D' j = D j) : yOK D' := by
  obtain ⟨o0, o1⟩ := O
  have e0 := e 0 (by omega) (by omega)
  refine ⟨by rw [e0]; exact o0, fun i h0 h1 => ?_⟩
  rw [e0] at h1
  rw [e (1 + 6 * i) (by omega) (by omega), e (2 + 6 * i) (by omega) (by omega), e (3 + 6 * i) (by omega) (by omega), e (4 + 6 * i) (by omega) (by omega), e (5 + 6 * i) (by omega) (by omega), e (6 + 6 * i) (by omega) (by omega)]
  exact o1 i h0 h1
theorem yeV.cg (V : yeV F C a D) (O : yOK D) (e : ∀ j, 0 ≤ j → j < 241 → D' j = D j) : yeV F C a D' := by
  have o := O.1
  have e0 := e 0 (by omega) (by omega)
  refine ⟨by rw [e0]; exact V.1, fun j h0 h1 => ?_⟩
  rw [e0] at h1
  rw [e (1 + j) (by omega) (by omega)]; exact V.2 j h0 h1
theorem lOK.cg (O : lOK D) (e : ∀ j, 0 ≤ j → j < 25 → D' j = D j) : lOK D' := by
  obtain ⟨o0, o1⟩ := O
  have e0 := e 0 (by omega) (by omega)
  refine ⟨by rw [e0]; exact o0, fun i h0 h1 => ?_⟩
  rw [e0] at h1
  rw [e (1 + 3 * i) (by omega) (by omega), e (2 + 3 * i) (by omega) (by omega), e (3 + 3 * i) (by omega) (by omega)]
  exact o1 i h0 h1
theorem loV.cg (V : loV F C a D) (O : lOK D) (e : ∀ j, 0 ≤ j → j < 25 → D' j = D j) : loV F C a D' := by
  have o := O.1
  have e0 := e 0 (by omega) (by omega)
  refine ⟨by rw [e0]; exact V.1, fun j h0 h1 => ?_⟩
  rw [e0] at h1
  rw [e (1 + 3 * j) (by omega) (by omega), e (2 + 3 * j) (by omega) (by omega), e (3 + 3 * j) (by omega) (by omega)]; exact V.2 j h0 h1
theorem aOK.cg (O : aOK A) (e : ∀ j, 0 ≤ j → j < 1230 → A' j = A j) : aOK A' := by
  obtain ⟨⟨o0, o1, o2⟩, o4, o5, o6, o7, o8, o9⟩ := O
  have e0 := e 0 (by omega) (by omega)
  have e1 := e 1 (by omega) (by omega)
  have e2 := e 2 (by omega) (by omega)
  have e4 := e 4 (by omega) (by omega)
  refine ⟨⟨by rw [e0]; exact o0, by rw [e1]; exact o1, by rw [e2]; exact o2⟩, by rw [e4]; exact o4, fun i h0 h1 => ?_, fun d h0 h1 => ?_, fun d h0 h1 => ?_, fun d h0 h1 => ?_, ?_⟩
  · rw [e4] at h1; rw [e (10 + i) (by omega) (by omega)]; exact o5 i h0 h1
  · rw [e0] at h1; exact (o6 d h0 h1).cg (fun j j0 j1 => e _ (by omega) (by omega))
  · rw [e1] at h1; exact (o7 d h0 h1).cg (fun j j0 j1 => e _ (by omega) (by omega))
  · rw [e2] at h1; exact (o8 d h0 h1).cg (fun j j0 j1 => e _ (by omega) (by omega))
  · rw [e 5 (by omega) (by omega), e 6 (by omega) (by omega)]; exact o9
theorem toV.cg (V : toV F C b A) (O : aOK A) (e : ∀ j, 0 ≤ j → j < 1230 → A' j = A j) : toV F C b A' := by
  obtain ⟨⟨o0, o1, o2⟩, o4, o5, o6, o7, o8, o9⟩ := O
  obtain ⟨⟨v1, v2, v3⟩, v4, v5, v6, v7, v8⟩ := V
  have e0 := e 0 (by omega) (by omega)
  have e1 := e 1 (by omega) (by omega)
  have e2 := e 2 (by omega) (by omega)
  have e4 := e 4 (by omega) (by omega)
  refine ⟨⟨by rw [e 5 (by omega) (by omega)]; exact v1, by rw [e 6 (by omega) (by omega)]; exact v2, by rw [e4]; exact v3⟩, fun i h0 h1 => ?_, fun i h0 h1 => ?_, fun d h1 => ?_, fun d h1 => ?_, fun d h1 => ?_⟩
  · rw [e4] at h1; rw [e (10 + i) (by omega) (by omega)]; exact v4 i h0 h1
  · rw [e i (by omega) (by omega)]; exact v5 i h0 h1
  · rw [e0] at h1; exact (v6 d h1).cg (o6 d (by omega) h1) (fun j j0 j1 => e _ (by omega) (by omega))
  · rw [e1] at h1; exact (v7 d h1).cg (o7 d (by omega) h1) (fun j j0 j1 => e _ (by omega) (by omega))
  · rw [e2] at h1; exact (v8 d h1).cg (o8 d (by omega) h1) (fun j j0 j1 => e _ (by omega) (by omega))
theorem yeV.same (V : yeV F C a D) (hF : ∀ k, F' k a = F k a) (hC : C' (a + 1) = C (a + 1)) : yeV F' C' a D := by
  unfold yeV; rw [hF, hC]; exact V
theorem loV.same (V : loV F C a D) (hF : ∀ k, F' k a = F k a) (hC : ∀ j, 1 ≤ j → j ≤ 3 → C' (a + j) = C (a + j)) : loV F' C' a D := by
  unfold loV; rw [hF, hC 1 (by omega) (by omega), hC 2 (by omega) (by omega), hC 3 (by omega) (by omega)]; exact V
/-- the 33 cells of a Told stay -/
def frB (F F' : Nat → Nat → Int) (C C' : Nat → Int → Int) (b : Nat) : Prop := ∀ x, b ≤ x → x < b + 33 → (∀ k, F' k x = F k x) ∧ C' x = C x
theorem toV.fr (V : toV F C b A) (O : aOK A) (e : frB F F' C C' b) : toV F' C' b A := by
  obtain ⟨⟨o0, o1, o2⟩, _⟩ := O
  obtain ⟨⟨v1, v2, v3⟩, v4, v5, v6, v7, v8⟩ := V
  refine ⟨⟨?_, ?_, ?_⟩, ?_, ?_, fun d hd => (v6 d hd).same (e _ (by omega) (by omega)).1 (fun j _ _ => (e _ (by omega) (by omega)).2), fun d hd => (v7 d hd).same (e _ (by omega) (by omega)).1 (e _ (by omega) (by omega)).2, fun d hd => (v8 d hd).same (e _ (by omega) (by omega)).1 (fun j _ _ => (e _ (by omega) (by omega)).2)⟩
  · rw [(e b (by omega) (by omega)).1, v1]
  · rw [(e b (by omega) (by omega)).1, v2]
  · rw [(e (b + 1) (by omega) (by omega)).1, v3]
  · rw [(e (b + 2) (by omega) (by omega)).2]; exact v4
  · rw [(e (b + 3) (by omega) (by omega)).2]; exact v5
/-- sizes of years and logs, told or not -/
def szP (F : Nat → Nat → Int) (b : Nat) : Prop := ∀ y : Nat, y < 2 → (0 ≤ F 640 (b + 14 + 13 * y) ∧ F 640 (b + 14 + 13 * y) ≤ 40) ∧ (0 ≤ F 192 (b + 16 + 13 * y) ∧ F 192 (b + 16 + 13 * y) ≤ 8)
theorem szP.fr (V : szP F b) (e : frB F F' C C' b) : szP F' b := by
  intro y hy
  rw [(e (b + 14 + 13 * y) (by omega) (by omega)).1, (e (b + 16 + 13 * y) (by omega) (by omega)).1]; exact V y hy
/-- the images -/
def imA (C : Nat → Int → Int) (k : Nat) : Int → Int := fun j => C 73 (1230 * ((k : Int) + 1) + j)
def imS (h : zHeap) (F : Nat → Nat → Int) (C : Nat → Int → Int) (p : Nat → Option Nat) : Prop := ∀ k : Nat, k < 3 → (p k = none ∧ C 74 (k : Int) = 0) ∨ ∃ b, p k = some b ∧ C 74 (k : Int) = 1 ∧ 89 ≤ b ∧ b + 33 ≤ hN h ∧ toS h b ∧ toV F C b (imA C k) ∧ aOK (imA C k) ∧ szP F b
def imP (p : Nat → Option Nat) : Prop := ∀ k l b c, k < 3 → l < 3 → k ≠ l → p k = some b → p l = some c → b + 33 ≤ c ∨ c + 33 ≤ b
def non (p : Nat → Option Nat) : Nat := (if p 0 = none then 1 else 0) + (if p 1 = none then 1 else 0) + (if p 2 = none then 1 else 0)
/-- all that holds between two calls -/
def wOK (L : Nat) (xs : Nat → Int32) (h : zHeap) (F : Nat → Nat → Int) (C : Nat → Int → Int) : Prop := qOK h F C ∧ knS h ∧ szP F 1 ∧ hAI h 1000001 = some (0, L, xs) ∧ ∃ p, hAR h 34 = some (9, 3, p) ∧ imS h F C p ∧ imP p ∧ (89 ≤ hN h ∧ hN h + 33 * non p ≤ 188) ∧ hS h + 2000 * non p ≤ 60000
/-- the images stay -/
theorem imS.fr {p : Nat → Option Nat} (I : imS h F C p) (e : ∀ x, 89 ≤ x → (∀ k, F' k x = F k x) ∧ C' x = C x) (e74 : C' 74 = C 74) (e73 : ∀ j, 1230 ≤ j → j < 4920 → C' 73 j = C 73 j) : imS h F' C' p := by
  intro k hk
  rcases I k hk with ⟨i1, i2⟩ | ⟨b, i1, i2, i3, i4, i5, i6, i7, i8⟩
  · exact Or.inl ⟨i1, by rw [e74]; exact i2⟩
  · have eb : frB F F' C C' b := fun x hx _ => e x (by omega)
    have ea : ∀ j, 0 ≤ j → j < 1230 → imA C' k j = imA C k j := fun j j0 j1 => e73 _ (by omega) (by omega)
    exact Or.inr ⟨b, i1, by rw [e74]; exact i2, i3, i4, i5, (i6.fr i7 eb).cg i7 ea, i7.cg ea, i8.fr eb⟩
variable {L : Nat} {xs : Nat → Int32}
theorem wOK.tq (W : wOK L xs h F C) (ht : tq F C F' C') : wOK L xs h F' C' := by
  obtain ⟨Q, kn, sz, sc, p, p1, p2, p3, p4, p5⟩ := W
  exact ⟨Q.tq ht, kn, sz.fr (fun x h0 h1 => ht x (by omega)), sc, p, p1, p2.fr (fun x hx => ht x (by omega)) (ht 74 (by omega)).2 (fun j _ _ => by rw [(ht 73 (by omega)).2]), p3, p4, p5⟩
/-- a step of both: the class, then the reference -/
def jnt (m o : Nat) (as : List zVal) : Prop := ∀ L xs h F C, wOK L xs h F C → ∃ x h1 h' F' C', zc m (zR (some 0) :: as) (zw h F C) = some (zI (i32 x), h1) ∧ zc o (zR (some 72) :: as) h1 = some (zI (i32 x), zw h' F' C') ∧ (∃ F1 C1, h1 = zw h' F1 C1) ∧ wOK L xs h' F' C'
theorem zw_is : ∃ F1 C1, zw h F C = zw h F1 C1 := ⟨F, C, rfl⟩
theorem zw_sc : hAI (zw h F C) 1000001 = hAI h 1000001 := rfl
theorem jnt_q {m o : Nat} {as : List zVal} {sp : (Int → Int) → Int} (c : ans1 m 0 as (fun A => zI (i32 (sp A)))) (r : ans1 o 72 as (fun A => zI (i32 (sp A)))) : jnt m o as := by
  intro L xs h F C W
  obtain ⟨F1, C1, e1, t1⟩ := c h F C W.1
  have W1 := W.tq t1
  obtain ⟨F2, C2, e2, t2⟩ := r h F1 C1 W1.1
  exact ⟨sp (C 73), _, h, F2, C2, e1, by rw [e2, (t1 73 (by omega)).2], zw_is, W1.tq t2⟩
end CG
