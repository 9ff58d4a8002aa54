/-! the world: a static shape h, the numbers F of fields (by key and place) and C of rows (by place and index) -/
def zsF (F : Nat → Nat → Int) (k a : Nat) (x : Int) : Nat → Nat → Int := fun k' a' => if k' = k ∧ a' = a then x else F k' a'
def zsC (C : Nat → Int → Int) (a : Nat) (i x : Int) : Nat → Int → Int := fun a' j => if a' = a ∧ j = i then x else C a' j
def zw (h : zHeap) (F : Nat → Nat → Int) (C : Nat → Int → Int) : zHeap :=
  (fun k a => (hFI h k a).map (fun _ => i32 (F k a)), hFR h, fun a => if a < zK0 then (hAI h a).map (fun q => (q.1, q.2.1, fun (j : Nat) => i32 (C a (j : Int)))) else hAI h a, hAR h, hCL h, hN h, hS h)
theorem zsF_at (F : Nat → Nat → Int) (k a : Nat) (x : Int) (k' a' : Nat) : zsF F k a x k' a' = if k' = k ∧ a' = a then x else F k' a' := rfl
theorem zsC_at (C : Nat → Int → Int) (a : Nat) (i x : Int) (a' : Nat) (j : Int) : zsC C a i x a' j = if a' = a ∧ j = i then x else C a' j := rfl
theorem zsF_k {F : Nat → Nat → Int} {k a : Nat} {x : Int} {k' a' : Nat} (hk : k' ≠ k) : zsF F k a x k' a' = F k' a' := if_neg (fun z => hk z.1)
theorem zsF_s (F : Nat → Nat → Int) (k a : Nat) (x : Int) : zsF F k a x k a = x := if_pos ⟨rfl, rfl⟩
theorem zsF_a {F : Nat → Nat → Int} {k a : Nat} {x : Int} {k' a' : Nat} (hk : a' ≠ a) : zsF F k a x k' a' = F k' a' := if_neg (fun z => hk z.2)
theorem zsC_a {C : Nat → Int → Int} {a : Nat} {i x : Int} {a' : Nat} (hk : a' ≠ a) : zsC C a i x a' = C a' := funext fun _ => if_neg (fun z => hk z.1)
theorem zsC_s (C : Nat → Int → Int) (a : Nat) (i x : Int) : zsC C a i x a i = x := if_pos ⟨rfl, rfl⟩
theorem zsC_i {C : Nat → Int → Int} {a : Nat} {i x : Int} {a' : Nat} {j : Int} (hk : j ≠ i) : zsC C a i x a' j = C a' j := if_neg (fun z => hk z.2)
theorem zw_cl (h : zHeap) (F : Nat → Nat → Int) (C : Nat → Int → Int) (a : Nat) : hCL (zw h F C) a = hCL h a := rfl
theorem zw_v {h : zHeap} {F : Nat → Nat → Int} {C : Nat → Int → Int} {K m a : Nat} {as : List zVal} (hc : hCL h a = some K) : zv K m (zR (some a) :: as) (zw h F C) = zc m (zR (some a) :: as) (zw h F C) := zv_s hc
theorem zw_gR {h : zHeap} {F : Nat → Nat → Int} {C : Nat → Int → Int} {k a : Nat} {r : Option Nat} (hr : hFR h k a = some r) : zgR (zw h F C) (some a) k = some r := hr
theorem zw_gI {h : zHeap} {F : Nat → Nat → Int} {C : Nat → Int → Int} {k a : Nat} (hr : ∃ y, hFI h k a = some y) : zgI (zw h F C) (some a) k = some (i32 (F k a)) := by
  obtain ⟨y, hy⟩ := hr
  show (hFI h k a).map _ = _
  rw [hy]; rfl
theorem zw_pI {h : zHeap} {F : Nat → Nat → Int} {C : Nat → Int → Int} {k a : Nat} (hr : ∃ y, hFI h k a = some y) (x : Int) : zpI (zw h F C) (some a) k (i32 x) = some (zw h (zsF F k a x) C) := by
  obtain ⟨y, hy⟩ := hr
  rw [zpI_s (y := i32 (F k a)) _ (zw_gI ⟨y, hy⟩)]
  congr 1
  refine Prod.ext ?_ rfl
  funext k' a'
  show (if k' = k ∧ a' = a then some (i32 x) else (hFI h k' a').map (fun _ => i32 (F k' a'))) = (hFI h k' a').map (fun _ => i32 (if k' = k ∧ a' = a then x else F k' a'))
  by_cases c : k' = k ∧ a' = a
  · obtain ⟨rfl, rfl⟩ := c
    simp only [and_self, if_true, hy]; rfl
  · simp only [if_neg c]
theorem zw_pZ {h : zHeap} {F : Nat → Nat → Int} {C : Nat → Int → Int} {k a : Nat} (hr : ∃ y, hFI h k a = some y) {x : Int} (hx : x = 0 ∨ x = 1) : zpZ (zw h F C) (some a) k (i32 x) = some (zw h (zsF F k a x) C) := by
  unfold zpZ
  rw [if_pos, zw_pI hr]
  rcases hx with rfl | rfl
  · exact Or.inl (by decide)
  · exact Or.inr (by decide)
theorem zw_AI {h : zHeap} {F : Nat → Nat → Int} {C : Nat → Int → Int} {a t n : Nat} (hf : ∃ f, hAI h a = some (t, n, f)) (ha : a < zK0) : hAI (zw h F C) a = some (t, n, fun (j : Nat) => i32 (C a (j : Int))) := by
  obtain ⟨f, hf⟩ := hf
  show (if a < zK0 then (hAI h a).map _ else _) = _
  rw [if_pos ha, hf]; rfl
theorem zw_aI {h : zHeap} {F : Nat → Nat → Int} {C : Nat → Int → Int} {a n : Nat} (hf : ∃ f, hAI h a = some (0, n, f)) (ha : a < zK0) (hn : n < 2147483648) {i : Int} (h0 : 0 ≤ i) (h1 : i < n) : zaI (zw h F C) (some a) (i32 i) 0 = some (i32 (C a i)) := by
  rw [zaI_s (zw_AI hf ha) h0 h1 (by omega), Int.toNat_of_nonneg h0]
theorem zw_up {h : zHeap} {F : Nat → Nat → Int} {C : Nat → Int → Int} {a t n : Nat} (hf : ∃ f, hAI h a = some (t, n, f)) (ha : a < zK0) {i : Int} (h0 : 0 ≤ i) (x : Int) (y : Int32) (hy : y = i32 x) : zsA (zw h F C) a t n (zup (fun (j : Nat) => i32 (C a (j : Int))) i.toNat y) = zw h F (zsC C a i x) := by
  subst hy
  obtain ⟨f, hf⟩ := hf
  refine Prod.ext rfl (Prod.ext rfl (Prod.ext ?_ rfl))
  funext a'
  show (if a' = a then some (t, n, zup (fun (j : Nat) => i32 (C a (j : Int))) i.toNat (i32 x)) else (if a' < zK0 then (hAI h a').map (fun q => (q.1, q.2.1, fun (j : Nat) => i32 (C a' (j : Int)))) else hAI h a')) = (if a' < zK0 then (hAI h a').map (fun q => (q.1, q.2.1, fun (j : Nat) => i32 (if a' = a ∧ (j : Int) = i then x else C a' (j : Int)))) else hAI h a')
  by_cases c : a' = a
  · subst c
    rw [if_pos rfl, if_pos ha, hf]
    simp only [Option.map_some, true_and]
    refine congrArg some (Prod.ext rfl (Prod.ext rfl ?_))
    funext j
    unfold zup
    dsimp only
    by_cases c2 : j = i.toNat
    · rw [if_pos c2, if_pos (by omega)]
    · rw [if_neg c2, if_neg (by omega)]
  · simp only [c, false_and, if_false]
theorem zw_aS {h : zHeap} {F : Nat → Nat → Int} {C : Nat → Int → Int} {a n : Nat} (hf : ∃ f, hAI h a = some (0, n, f)) (ha : a < zK0) (hn : n < 2147483648) {i : Int} (h0 : 0 ≤ i) (h1 : i < n) (x : Int) : zaS (zw h F C) (some a) (i32 i) (i32 x) = some (zw h F (zsC C a i x)) := by
  rw [zaS_s _ (zw_AI hf ha) ha h0 h1 (by omega), zw_up hf ha h0 x _ rfl]
theorem zw_aB {h : zHeap} {F : Nat → Nat → Int} {C : Nat → Int → Int} {a t n : Nat} (hf : ∃ f, hAI h a = some (t, n, f)) (ht : t = 1 ∨ t = 2) (ha : a < zK0) (hn : n < 2147483648) {i : Int} (h0 : 0 ≤ i) (h1 : i < n) : zaB (zw h F C) (some a) (i32 i) = some (i32 (C a i)) := by
  unfold zaB
  dsimp only
  rw [zw_AI hf ha]
  have h4 : (0 : Int32) ≤ i32 i := by rw [i32_0, i32_le (by omega) (by omega) (by omega) (by omega)]; exact h0
  dsimp only
  rw [if_pos ⟨ht, h4, by rw [i32_nat h0 (by omega)]; omega⟩, i32_nat h0 (by omega), Int.toNat_of_nonneg h0]
theorem zw_aC {h : zHeap} {F : Nat → Nat → Int} {C : Nat → Int → Int} {a t n : Nat} (hf : ∃ f, hAI h a = some (t, n, f)) (ht : t = 1 ∨ t = 2) (ha : a < zK0) (hn : n < 2147483648) {i : Int} (h0 : 0 ≤ i) (h1 : i < n) {x : Int32} {y : Int} (hy : znar t x = i32 y) : zaC (zw h F C) (some a) (i32 i) x = some (zw h F (zsC C a i y)) := by
  unfold zaC
  dsimp only
  rw [zw_AI hf ha]
  have h4 : (0 : Int32) ≤ i32 i := by rw [i32_0, i32_le (by omega) (by omega) (by omega) (by omega)]; exact h0
  dsimp only
  rw [if_pos ⟨ht, ha, h4, by rw [i32_nat h0 (by omega)]; omega⟩, i32_nat h0 (by omega), zw_up hf ha h0 y _ hy]
theorem zw_aN {h : zHeap} {F : Nat → Nat → Int} {C : Nat → Int → Int} {a t n : Nat} (hf : ∃ f, hAI h a = some (t, n, f)) (ha : a < zK0) : zaN (zw h F C) (some a) = some (i32 (n : Int)) := by
  unfold zaN
  dsimp only
  rw [zw_AI hf ha]
/-! shapes -/
def rwS (h : zHeap) (a t n : Nat) : Prop := ∃ f, hAI h a = some (t, n, f)
def itS (h : zHeap) (k a : Nat) : Prop := ∃ y, hFI h k a = some y
def duS (h : zHeap) (a : Nat) : Prop := hCL h a = some 2 ∧ (itS h 128 a ∧ itS h 129 a ∧ itS h 130 a ∧ itS h 131 a) ∧
  (hFR h 132 a = some (some (a + 1)) ∧ hFR h 133 a = some (some (a + 2)) ∧ hFR h 134 a = some (some (a + 3)) ∧ hFR h 135 a = some (some (a + 4)) ∧ hFR h 136 a = some (some (a + 5)) ∧ hFR h 137 a = some (some (a + 6))) ∧
  (rwS h (a + 1) 0 6 ∧ rwS h (a + 2) 0 6 ∧ rwS h (a + 3) 0 4 ∧ rwS h (a + 4) 0 8 ∧ rwS h (a + 5) 0 8 ∧ rwS h (a + 6) 0 8) ∧ a + 6 < zK0
def yeS (h : zHeap) (a : Nat) : Prop := hCL h a = some 10 ∧ itS h 640 a ∧ hFR h 641 a = some (some (a + 1)) ∧ rwS h (a + 1) 0 240 ∧ a + 1 < zK0
def loS (h : zHeap) (a : Nat) : Prop := hCL h a = some 3 ∧ itS h 192 a ∧ (hFR h 193 a = some (some (a + 1)) ∧ hFR h 194 a = some (some (a + 2)) ∧ hFR h 195 a = some (some (a + 3))) ∧ (rwS h (a + 1) 0 8 ∧ rwS h (a + 2) 0 8 ∧ rwS h (a + 3) 0 8) ∧ a + 3 < zK0
def taS (h : zHeap) (a : Nat) : Prop := hCL h a = some 8 ∧ hFR h 512 a = some (some (a + 1)) ∧ itS h 513 a ∧ rwS h (a + 1) 1 600 ∧ a + 1 < zK0
def toS (h : zHeap) (b : Nat) : Prop := hCL h b = some 9 ∧ (hFR h 576 b = some (some (b + 1)) ∧ hFR h 577 b = some (some (b + 3)) ∧ hFR h 578 b = some (some (b + 4)) ∧ hFR h 579 b = some (some (b + 5)) ∧ hFR h 580 b = some (some (b + 6))) ∧ (itS h 581 b ∧ itS h 582 b) ∧
  taS h (b + 1) ∧ rwS h (b + 3) 0 3 ∧ (∃ f, hAR h (b + 4) = some (2, 2, f) ∧ f 0 = some (b + 7) ∧ f 1 = some (b + 20)) ∧ (∃ f, hAR h (b + 5) = some (10, 2, f) ∧ f 0 = some (b + 14) ∧ f 1 = some (b + 27)) ∧ (∃ f, hAR h (b + 6) = some (3, 2, f) ∧ f 0 = some (b + 16) ∧ f 1 = some (b + 29)) ∧
  (duS h (b + 7) ∧ yeS h (b + 14) ∧ loS h (b + 16)) ∧ (duS h (b + 20) ∧ yeS h (b + 27) ∧ loS h (b + 29)) ∧ b + 40 < zK0

def wCL : List (Nat × Nat) := [(0, 11), (35, 5), (50, 1), (57, 0), (60, 4), (65, 7), (68, 6), (72, 12)]
def wRF : List (Nat × Nat × Nat) := [(704, 0, 1), (705, 0, 34), (706, 0, 35), (707, 0, 50), (708, 0, 57), (709, 0, 60), (710, 0, 65), (711, 0, 68), (320, 35, 36), (321, 35, 43), (322, 35, 45), (325, 35, 2), (326, 35, 49), (66, 50, 51), (67, 50, 52), (68, 50, 53), (69, 50, 54), (70, 50, 55), (71, 50, 56), (1, 57, 58), (2, 57, 59), (256, 60, 61), (257, 60, 62), (258, 60, 63), (259, 60, 64), (449, 65, 66), (450, 65, 67), (384, 68, 69), (385, 68, 70), (386, 68, 71), (768, 72, 73), (769, 72, 74), (777, 72, 75), (785, 72, 76), (786, 72, 77), (787, 72, 78), (789, 72, 79), (790, 72, 80), (791, 72, 81), (802, 72, 82), (803, 72, 83), (804, 72, 84), (805, 72, 85), (806, 72, 86), (807, 72, 87), (809, 72, 88)]
def wIT : List (Nat × Nat) := [(323, 35), (324, 35), (327, 35), (328, 35), (329, 35), (330, 35), (64, 50), (65, 50), (72, 50), (73, 50), (74, 50), (75, 50), (76, 50), (77, 50), (78, 50), (79, 50), (80, 50), (0, 57), (3, 57), (448, 65), (770, 72), (771, 72), (772, 72), (773, 72), (774, 72), (775, 72), (776, 72), (778, 72), (779, 72), (780, 72), (781, 72), (782, 72), (783, 72), (784, 72), (788, 72), (792, 72), (793, 72), (794, 72), (795, 72), (796, 72), (797, 72), (798, 72), (799, 72), (800, 72), (801, 72), (808, 72), (810, 72)]
def wRW : List (Nat × Nat) := [(49, 5), (51, 6), (52, 6), (53, 4), (54, 4), (55, 8), (56, 8), (58, 800), (59, 800), (61, 576), (62, 8), (63, 256), (64, 8), (66, 80), (67, 9), (69, 8), (70, 4), (71, 6), (73, 4920), (75, 241), (76, 800), (77, 576), (78, 256), (79, 256), (80, 6), (81, 4), (82, 6), (83, 6), (84, 4), (85, 8), (86, 8), (87, 8), (88, 9)]
/-- the shape of all that is made ahead -/
def St (h : zHeap) : Prop := (∀ q ∈ wCL, hCL h q.1 = some q.2) ∧ (∀ q ∈ wRF, hFR h q.1 q.2.1 = some (some q.2.2)) ∧ (∀ q ∈ wIT, itS h q.1 q.2) ∧ (∀ q ∈ wRW, rwS h q.1 0 q.2) ∧ rwS h 74 2 3 ∧ toS h 1 ∧ (duS h 36 ∧ yeS h 43 ∧ loS h 45)
section W
variable {h : zHeap} {F : Nat → Nat → Int} {C : Nat → Int → Int}
theorem wv_0 (S : St h) {m : Nat} {as : List zVal} : zv 11 m (zR (some 0) :: as) (zw h F C) = zc m (zR (some 0) :: as) (zw h F C) := zw_v (S.1 (0, 11) (List.mem_of_getElem? (l := wCL) (i := 0) rfl))
theorem wv_35 (S : St h) {m : Nat} {as : List zVal} : zv 5 m (zR (some 35) :: as) (zw h F C) = zc m (zR (some 35) :: as) (zw h F C) := zw_v (S.1 (35, 5) (List.mem_of_getElem? (l := wCL) (i := 1) rfl))
theorem wv_50 (S : St h) {m : Nat} {as : List zVal} : zv 1 m (zR (some 50) :: as) (zw h F C) = zc m (zR (some 50) :: as) (zw h F C) := zw_v (S.1 (50, 1) (List.mem_of_getElem? (l := wCL) (i := 2) rfl))
theorem wv_57 (S : St h) {m : Nat} {as : List zVal} : zv 0 m (zR (some 57) :: as) (zw h F C) = zc m (zR (some 57) :: as) (zw h F C) := zw_v (S.1 (57, 0) (List.mem_of_getElem? (l := wCL) (i := 3) rfl))
theorem wv_60 (S : St h) {m : Nat} {as : List zVal} : zv 4 m (zR (some 60) :: as) (zw h F C) = zc m (zR (some 60) :: as) (zw h F C) := zw_v (S.1 (60, 4) (List.mem_of_getElem? (l := wCL) (i := 4) rfl))
theorem wv_65 (S : St h) {m : Nat} {as : List zVal} : zv 7 m (zR (some 65) :: as) (zw h F C) = zc m (zR (some 65) :: as) (zw h F C) := zw_v (S.1 (65, 7) (List.mem_of_getElem? (l := wCL) (i := 5) rfl))
theorem wv_68 (S : St h) {m : Nat} {as : List zVal} : zv 6 m (zR (some 68) :: as) (zw h F C) = zc m (zR (some 68) :: as) (zw h F C) := zw_v (S.1 (68, 6) (List.mem_of_getElem? (l := wCL) (i := 6) rfl))
theorem wv_72 (S : St h) {m : Nat} {as : List zVal} : zv 12 m (zR (some 72) :: as) (zw h F C) = zc m (zR (some 72) :: as) (zw h F C) := zw_v (S.1 (72, 12) (List.mem_of_getElem? (l := wCL) (i := 7) rfl))
theorem wr_704 (S : St h) : zgR (zw h F C) (some 0) 704 = some (some 1) := zw_gR (S.2.1 (704, 0, 1) (List.mem_of_getElem? (l := wRF) (i := 0) rfl))
theorem wr_705 (S : St h) : zgR (zw h F C) (some 0) 705 = some (some 34) := zw_gR (S.2.1 (705, 0, 34) (List.mem_of_getElem? (l := wRF) (i := 1) rfl))
theorem wr_706 (S : St h) : zgR (zw h F C) (some 0) 706 = some (some 35) := zw_gR (S.2.1 (706, 0, 35) (List.mem_of_getElem? (l := wRF) (i := 2) rfl))
theorem wr_707 (S : St h) : zgR (zw h F C) (some 0) 707 = some (some 50) := zw_gR (S.2.1 (707, 0, 50) (List.mem_of_getElem? (l := wRF) (i := 3) rfl))
theorem wr_708 (S : St h) : zgR (zw h F C) (some 0) 708 = some (some 57) := zw_gR (S.2.1 (708, 0, 57) (List.mem_of_getElem? (l := wRF) (i := 4) rfl))
theorem wr_709 (S : St h) : zgR (zw h F C) (some 0) 709 = some (some 60) := zw_gR (S.2.1 (709, 0, 60) (List.mem_of_getElem? (l := wRF) (i := 5) rfl))
theorem wr_710 (S : St h) : zgR (zw h F C) (some 0) 710 = some (some 65) := zw_gR (S.2.1 (710, 0, 65) (List.mem_of_getElem? (l := wRF) (i := 6) rfl))
theorem wr_711 (S : St h) : zgR (zw h F C) (some 0) 711 = some (some 68) := zw_gR (S.2.1 (711, 0, 68) (List.mem_of_getElem? (l := wRF) (i := 7) rfl))
theorem wr_320 (S : St h) : zgR (zw h F C) (some 35) 320 = some (some 36) := zw_gR (S.2.1 (320, 35, 36) (List.mem_of_getElem? (l := wRF) (i := 8) rfl))
theorem wr_321 (S : St h) : zgR (zw h F C) (some 35) 321 = some (some 43) := zw_gR (S.2.1 (321, 35, 43) (List.mem_of_getElem? (l := wRF) (i := 9) rfl))
theorem wr_322 (S : St h) : zgR (zw h F C) (some 35) 322 = some (some 45) := zw_gR (S.2.1 (322, 35, 45) (List.mem_of_getElem? (l := wRF) (i := 10) rfl))
theorem wr_325 (S : St h) : zgR (zw h F C) (some 35) 325 = some (some 2) := zw_gR (S.2.1 (325, 35, 2) (List.mem_of_getElem? (l := wRF) (i := 11) rfl))
theorem wr_326 (S : St h) : zgR (zw h F C) (some 35) 326 = some (some 49) := zw_gR (S.2.1 (326, 35, 49) (List.mem_of_getElem? (l := wRF) (i := 12) rfl))
theorem wr_66 (S : St h) : zgR (zw h F C) (some 50) 66 = some (some 51) := zw_gR (S.2.1 (66, 50, 51) (List.mem_of_getElem? (l := wRF) (i := 13) rfl))
theorem wr_67 (S : St h) : zgR (zw h F C) (some 50) 67 = some (some 52) := zw_gR (S.2.1 (67, 50, 52) (List.mem_of_getElem? (l := wRF) (i := 14) rfl))
theorem wr_68 (S : St h) : zgR (zw h F C) (some 50) 68 = some (some 53) := zw_gR (S.2.1 (68, 50, 53) (List.mem_of_getElem? (l := wRF) (i := 15) rfl))
theorem wr_69 (S : St h) : zgR (zw h F C) (some 50) 69 = some (some 54) := zw_gR (S.2.1 (69, 50, 54) (List.mem_of_getElem? (l := wRF) (i := 16) rfl))
theorem wr_70 (S : St h) : zgR (zw h F C) (some 50) 70 = some (some 55) := zw_gR (S.2.1 (70, 50, 55) (List.mem_of_getElem? (l := wRF) (i := 17) rfl))
theorem wr_71 (S : St h) : zgR (zw h F C) (some 50) 71 = some (some 56) := zw_gR (S.2.1 (71, 50, 56) (List.mem_of_getElem? (l := wRF) (i := 18) rfl))
theorem wr_1 (S : St h) : zgR (zw h F C) (some 57) 1 = some (some 58) := zw_gR (S.2.1 (1, 57, 58) (List.mem_of_getElem? (l := wRF) (i := 19) rfl))
theorem wr_2 (S : St h) : zgR (zw h F C) (some 57) 2 = some (some 59) := zw_gR (S.2.1 (2, 57, 59) (List.mem_of_getElem? (l := wRF) (i := 20) rfl))
theorem wr_256 (S : St h) : zgR (zw h F C) (some 60) 256 = some (some 61) := zw_gR (S.2.1 (256, 60, 61) (List.mem_of_getElem? (l := wRF) (i := 21) rfl))
theorem wr_257 (S : St h) : zgR (zw h F C) (some 60) 257 = some (some 62) := zw_gR (S.2.1 (257, 60, 62) (List.mem_of_getElem? (l := wRF) (i := 22) rfl))
theorem wr_258 (S : St h) : zgR (zw h F C) (some 60) 258 = some (some 63) := zw_gR (S.2.1 (258, 60, 63) (List.mem_of_getElem? (l := wRF) (i := 23) rfl))
theorem wr_259 (S : St h) : zgR (zw h F C) (some 60) 259 = some (some 64) := zw_gR (S.2.1 (259, 60, 64) (List.mem_of_getElem? (l := wRF) (i := 24) rfl))
theorem wr_449 (S : St h) : zgR (zw h F C) (some 65) 449 = some (some 66) := zw_gR (S.2.1 (449, 65, 66) (List.mem_of_getElem? (l := wRF) (i := 25) rfl))
theorem wr_450 (S : St h) : zgR (zw h F C) (some 65) 450 = some (some 67) := zw_gR (S.2.1 (450, 65, 67) (List.mem_of_getElem? (l := wRF) (i := 26) rfl))
theorem wr_384 (S : St h) : zgR (zw h F C) (some 68) 384 = some (some 69) := zw_gR (S.2.1 (384, 68, 69) (List.mem_of_getElem? (l := wRF) (i := 27) rfl))
theorem wr_385 (S : St h) : zgR (zw h F C) (some 68) 385 = some (some 70) := zw_gR (S.2.1 (385, 68, 70) (List.mem_of_getElem? (l := wRF) (i := 28) rfl))
theorem wr_386 (S : St h) : zgR (zw h F C) (some 68) 386 = some (some 71) := zw_gR (S.2.1 (386, 68, 71) (List.mem_of_getElem? (l := wRF) (i := 29) rfl))
theorem wr_768 (S : St h) : zgR (zw h F C) (some 72) 768 = some (some 73) := zw_gR (S.2.1 (768, 72, 73) (List.mem_of_getElem? (l := wRF) (i := 30) rfl))
theorem wr_769 (S : St h) : zgR (zw h F C) (some 72) 769 = some (some 74) := zw_gR (S.2.1 (769, 72, 74) (List.mem_of_getElem? (l := wRF) (i := 31) rfl))
theorem wr_777 (S : St h) : zgR (zw h F C) (some 72) 777 = some (some 75) := zw_gR (S.2.1 (777, 72, 75) (List.mem_of_getElem? (l := wRF) (i := 32) rfl))
theorem wr_785 (S : St h) : zgR (zw h F C) (some 72) 785 = some (some 76) := zw_gR (S.2.1 (785, 72, 76) (List.mem_of_getElem? (l := wRF) (i := 33) rfl))
theorem wr_786 (S : St h) : zgR (zw h F C) (some 72) 786 = some (some 77) := zw_gR (S.2.1 (786, 72, 77) (List.mem_of_getElem? (l := wRF) (i := 34) rfl))
theorem wr_787 (S : St h) : zgR (zw h F C) (some 72) 787 = some (some 78) := zw_gR (S.2.1 (787, 72, 78) (List.mem_of_getElem? (l := wRF) (i := 35) rfl))
theorem wr_789 (S : St h) : zgR (zw h F C) (some 72) 789 = some (some 79) := zw_gR (S.2.1 (789, 72, 79) (List.mem_of_getElem? (l := wRF) (i := 36) rfl))
theorem wr_790 (S : St h) : zgR (zw h F C) (some 72) 790 = some (some 80) := zw_gR (S.2.1 (790, 72, 80) (List.mem_of_getElem? (l := wRF) (i := 37) rfl))
theorem wr_791 (S : St h) : zgR (zw h F C) (some 72) 791 = some (some 81) := zw_gR (S.2.1 (791, 72, 81) (List.mem_of_getElem? (l := wRF) (i := 38) rfl))
theorem wr_802 (S : St h) : zgR (zw h F C) (some 72) 802 = some (some 82) := zw_gR (S.2.1 (802, 72, 82) (List.mem_of_getElem? (l := wRF) (i := 39) rfl))
theorem wr_803 (S : St h) : zgR (zw h F C) (some 72) 803 = some (some 83) := zw_gR (S.2.1 (803, 72, 83) (List.mem_of_getElem? (l := wRF) (i := 40) rfl))
theorem wr_804 (S : St h) : zgR (zw h F C) (some 72) 804 = some (some 84) := zw_gR (S.2.1 (804, 72, 84) (List.mem_of_getElem? (l := wRF) (i := 41) rfl))
theorem wr_805 (S : St h) : zgR (zw h F C) (some 72) 805 = some (some 85) := zw_gR (S.2.1 (805, 72, 85) (List.mem_of_getElem? (l := wRF) (i := 42) rfl))
theorem wr_806 (S : St h) : zgR (zw h F C) (some 72) 806 = some (some 86) := zw_gR (S.2.1 (806, 72, 86) (List.mem_of_getElem? (l := wRF) (i := 43) rfl))
theorem wr_807 (S : St h) : zgR (zw h F C) (some 72) 807 = some (some 87) := zw_gR (S.2.1 (807, 72, 87) (List.mem_of_getElem? (l := wRF) (i := 44) rfl))
theorem wr_809 (S : St h) : zgR (zw h F C) (some 72) 809 = some (some 88) := zw_gR (S.2.1 (809, 72, 88) (List.mem_of_getElem? (l := wRF) (i := 45) rfl))
theorem wg_323 (S : St h) : zgI (zw h F C) (some 35) 323 = some (i32 (F 323 35)) := zw_gI (S.2.2.1 (323, 35) (List.mem_of_getElem? (l := wIT) (i := 0) rfl))
theorem wp_323 (S : St h) (x : Int) : zpI (zw h F C) (some 35) 323 (i32 x) = some (zw h (zsF F 323 35 x) C) := zw_pI (S.2.2.1 (323, 35) (List.mem_of_getElem? (l := wIT) (i := 0) rfl)) x
theorem wg_324 (S : St h) : zgI (zw h F C) (some 35) 324 = some (i32 (F 324 35)) := zw_gI (S.2.2.1 (324, 35) (List.mem_of_getElem? (l := wIT) (i := 1) rfl))
theorem wp_324 (S : St h) (x : Int) : zpI (zw h F C) (some 35) 324 (i32 x) = some (zw h (zsF F 324 35 x) C) := zw_pI (S.2.2.1 (324, 35) (List.mem_of_getElem? (l := wIT) (i := 1) rfl)) x
theorem wg_327 (S : St h) : zgI (zw h F C) (some 35) 327 = some (i32 (F 327 35)) := zw_gI (S.2.2.1 (327, 35) (List.mem_of_getElem? (l := wIT) (i := 2) rfl))
theorem wp_327 (S : St h) (x : Int) : zpI (zw h F C) (some 35) 327 (i32 x) = some (zw h (zsF F 327 35 x) C) := zw_pI (S.2.2.1 (327, 35) (List.mem_of_getElem? (l := wIT) (i := 2) rfl)) x
theorem wg_328 (S : St h) : zgI (zw h F C) (some 35) 328 = some (i32 (F 328 35)) := zw_gI (S.2.2.1 (328, 35) (List.mem_of_getElem? (l := wIT) (i := 3) rfl))
theorem wp_328 (S : St h) (x : Int) : zpI (zw h F C) (some 35) 328 (i32 x) = some (zw h (zsF F 328 35 x) C) := zw_pI (S.2.2.1 (328, 35) (List.mem_of_getElem? (l := wIT) (i := 3) rfl)) x
theorem wg_329 (S : St h) : zgI (zw h F C) (some 35) 329 = some (i32 (F 329 35)) := zw_gI (S.2.2.1 (329, 35) (List.mem_of_getElem? (l := wIT) (i := 4) rfl))
theorem wp_329 (S : St h) (x : Int) : zpI (zw h F C) (some 35) 329 (i32 x) = some (zw h (zsF F 329 35 x) C) := zw_pI (S.2.2.1 (329, 35) (List.mem_of_getElem? (l := wIT) (i := 4) rfl)) x
theorem wg_330 (S : St h) : zgI (zw h F C) (some 35) 330 = some (i32 (F 330 35)) := zw_gI (S.2.2.1 (330, 35) (List.mem_of_getElem? (l := wIT) (i := 5) rfl))
theorem wp_330 (S : St h) (x : Int) : zpI (zw h F C) (some 35) 330 (i32 x) = some (zw h (zsF F 330 35 x) C) := zw_pI (S.2.2.1 (330, 35) (List.mem_of_getElem? (l := wIT) (i := 5) rfl)) x
theorem wg_64 (S : St h) : zgI (zw h F C) (some 50) 64 = some (i32 (F 64 50)) := zw_gI (S.2.2.1 (64, 50) (List.mem_of_getElem? (l := wIT) (i := 6) rfl))
theorem wp_64 (S : St h) (x : Int) : zpI (zw h F C) (some 50) 64 (i32 x) = some (zw h (zsF F 64 50 x) C) := zw_pI (S.2.2.1 (64, 50) (List.mem_of_getElem? (l := wIT) (i := 6) rfl)) x
theorem wg_65 (S : St h) : zgI (zw h F C) (some 50) 65 = some (i32 (F 65 50)) := zw_gI (S.2.2.1 (65, 50) (List.mem_of_getElem? (l := wIT) (i := 7) rfl))
theorem wp_65 (S : St h) (x : Int) : zpI (zw h F C) (some 50) 65 (i32 x) = some (zw h (zsF F 65 50 x) C) := zw_pI (S.2.2.1 (65, 50) (List.mem_of_getElem? (l := wIT) (i := 7) rfl)) x
theorem wg_72 (S : St h) : zgI (zw h F C) (some 50) 72 = some (i32 (F 72 50)) := zw_gI (S.2.2.1 (72, 50) (List.mem_of_getElem? (l := wIT) (i := 8) rfl))
theorem wp_72 (S : St h) (x : Int) : zpI (zw h F C) (some 50) 72 (i32 x) = some (zw h (zsF F 72 50 x) C) := zw_pI (S.2.2.1 (72, 50) (List.mem_of_getElem? (l := wIT) (i := 8) rfl)) x
theorem wg_73 (S : St h) : zgI (zw h F C) (some 50) 73 = some (i32 (F 73 50)) := zw_gI (S.2.2.1 (73, 50) (List.mem_of_getElem? (l := wIT) (i := 9) rfl))
theorem wp_73 (S : St h) (x : Int) : zpI (zw h F C) (some 50) 73 (i32 x) = some (zw h (zsF F 73 50 x) C) := zw_pI (S.2.2.1 (73, 50) (List.mem_of_getElem? (l := wIT) (i := 9) rfl)) x
theorem wg_74 (S : St h) : zgI (zw h F C) (some 50) 74 = some (i32 (F 74 50)) := zw_gI (S.2.2.1 (74, 50) (List.mem_of_getElem? (l := wIT) (i := 10) rfl))
theorem wp_74 (S : St h) (x : Int) : zpI (zw h F C) (some 50) 74 (i32 x) = some (zw h (zsF F 74 50 x) C) := zw_pI (S.2.2.1 (74, 50) (List.mem_of_getElem? (l := wIT) (i := 10) rfl)) x
theorem wg_75 (S : St h) : zgI (zw h F C) (some 50) 75 = some (i32 (F 75 50)) := zw_gI (S.2.2.1 (75, 50) (List.mem_of_getElem? (l := wIT) (i := 11) rfl))
theorem wp_75 (S : St h) (x : Int) : zpI (zw h F C) (some 50) 75 (i32 x) = some (zw h (zsF F 75 50 x) C) := zw_pI (S.2.2.1 (75, 50) (List.mem_of_getElem? (l := wIT) (i := 11) rfl)) x
theorem wg_76 (S : St h) : zgI (zw h F C) (some 50) 76 = some (i32 (F 76 50)) := zw_gI (S.2.2.1 (76, 50) (List.mem_of_getElem? (l := wIT) (i := 12) rfl))
theorem wp_76 (S : St h) (x : Int) : zpI (zw h F C) (some 50) 76 (i32 x) = some (zw h (zsF F 76 50 x) C) := zw_pI (S.2.2.1 (76, 50) (List.mem_of_getElem? (l := wIT) (i := 12) rfl)) x
theorem wg_77 (S : St h) : zgI (zw h F C) (some 50) 77 = some (i32 (F 77 50)) := zw_gI (S.2.2.1 (77, 50) (List.mem_of_getElem? (l := wIT) (i := 13) rfl))
theorem wp_77 (S : St h) (x : Int) : zpI (zw h F C) (some 50) 77 (i32 x) = some (zw h (zsF F 77 50 x) C) := zw_pI (S.2.2.1 (77, 50) (List.mem_of_getElem? (l := wIT) (i := 13) rfl)) x
theorem wg_78 (S : St h) : zgI (zw h F C) (some 50) 78 = some (i32 (F 78 50)) := zw_gI (S.2.2.1 (78, 50) (List.mem_of_getElem? (l := wIT) (i := 14) rfl))
theorem wp_78 (S : St h) (x : Int) : zpI (zw h F C) (some 50) 78 (i32 x) = some (zw h (zsF F 78 50 x) C) := zw_pI (S.2.2.1 (78, 50) (List.mem_of_getElem? (l := wIT) (i := 14) rfl)) x
theorem wg_79 (S : St h) : zgI (zw h F C) (some 50) 79 = some (i32 (F 79 50)) := zw_gI (S.2.2.1 (79, 50) (List.mem_of_getElem? (l := wIT) (i := 15) rfl))
theorem wp_79 (S : St h) (x : Int) : zpI (zw h F C) (some 50) 79 (i32 x) = some (zw h (zsF F 79 50 x) C) := zw_pI (S.2.2.1 (79, 50) (List.mem_of_getElem? (l := wIT) (i := 15) rfl)) x
theorem wg_80 (S : St h) : zgI (zw h F C) (some 50) 80 = some (i32 (F 80 50)) := zw_gI (S.2.2.1 (80, 50) (List.mem_of_getElem? (l := wIT) (i := 16) rfl))
theorem wp_80 (S : St h) (x : Int) : zpI (zw h F C) (some 50) 80 (i32 x) = some (zw h (zsF F 80 50 x) C) := zw_pI (S.2.2.1 (80, 50) (List.mem_of_getElem? (l := wIT) (i := 16) rfl)) x
theorem wg_0 (S : St h) : zgI (zw h F C) (some 57) 0 = some (i32 (F 0 57)) := zw_gI (S.2.2.1 (0, 57) (List.mem_of_getElem? (l := wIT) (i := 17) rfl))
theorem wp_0 (S : St h) (x : Int) : zpI (zw h F C) (some 57) 0 (i32 x) = some (zw h (zsF F 0 57 x) C) := zw_pI (S.2.2.1 (0, 57) (List.mem_of_getElem? (l := wIT) (i := 17) rfl)) x
theorem wg_3 (S : St h) : zgI (zw h F C) (some 57) 3 = some (i32 (F 3 57)) := zw_gI (S.2.2.1 (3, 57) (List.mem_of_getElem? (l := wIT) (i := 18) rfl))
theorem wp_3 (S : St h) (x : Int) : zpI (zw h F C) (some 57) 3 (i32 x) = some (zw h (zsF F 3 57 x) C) := zw_pI (S.2.2.1 (3, 57) (List.mem_of_getElem? (l := wIT) (i := 18) rfl)) x
theorem wg_448 (S : St h) : zgI (zw h F C) (some 65) 448 = some (i32 (F 448 65)) := zw_gI (S.2.2.1 (448, 65) (List.mem_of_getElem? (l := wIT) (i := 19) rfl))
theorem wp_448 (S : St h) (x : Int) : zpI (zw h F C) (some 65) 448 (i32 x) = some (zw h (zsF F 448 65 x) C) := zw_pI (S.2.2.1 (448, 65) (List.mem_of_getElem? (l := wIT) (i := 19) rfl)) x
theorem wg_770 (S : St h) : zgI (zw h F C) (some 72) 770 = some (i32 (F 770 72)) := zw_gI (S.2.2.1 (770, 72) (List.mem_of_getElem? (l := wIT) (i := 20) rfl))
theorem wp_770 (S : St h) (x : Int) : zpI (zw h F C) (some 72) 770 (i32 x) = some (zw h (zsF F 770 72 x) C) := zw_pI (S.2.2.1 (770, 72) (List.mem_of_getElem? (l := wIT) (i := 20) rfl)) x
theorem wg_771 (S : St h) : zgI (zw h F C) (some 72) 771 = some (i32 (F 771 72)) := zw_gI (S.2.2.1 (771, 72) (List.mem_of_getElem? (l := wIT) (i := 21) rfl))
theorem wp_771 (S : St h) (x : Int) : zpI (zw h F C) (some 72) 771 (i32 x) = some (zw h (zsF F 771 72 x) C) := zw_pI (S.2.2.1 (771, 72) (List.mem_of_getElem? (l := wIT) (i := 21) rfl)) x
theorem wg_772 (S : St h) : zgI (zw h F C) (some 72) 772 = some (i32 (F 772 72)) := zw_gI (S.2.2.1 (772, 72) (List.mem_of_getElem? (l := wIT) (i := 22) rfl))
theorem wp_772 (S : St h) (x : Int) : zpI (zw h F C) (some 72) 772 (i32 x) = some (zw h (zsF F 772 72 x) C) := zw_pI (S.2.2.1 (772, 72) (List.mem_of_getElem? (l := wIT) (i := 22) rfl)) x
theorem wg_773 (S : St h) : zgI (zw h F C) (some 72) 773 = some (i32 (F 773 72)) := zw_gI (S.2.2.1 (773, 72) (List.mem_of_getElem? (l := wIT) (i := 23) rfl))
theorem wp_773 (S : St h) (x : Int) : zpI (zw h F C) (some 72) 773 (i32 x) = some (zw h (zsF F 773 72 x) C) := zw_pI (S.2.2.1 (773, 72) (List.mem_of_getElem? (l := wIT) (i := 23) rfl)) x
theorem wg_774 (S : St h) : zgI (zw h F C) (some 72) 774 = some (i32 (F 774 72)) := zw_gI (S.2.2.1 (774, 72) (List.mem_of_getElem? (l := wIT) (i := 24) rfl))
theorem wp_774 (S : St h) (x : Int) : zpI (zw h F C) (some 72) 774 (i32 x) = some (zw h (zsF F 774 72 x) C) := zw_pI (S.2.2.1 (774, 72) (List.mem_of_getElem? (l := wIT) (i := 24) rfl)) x
theorem wg_775 (S : St h) : zgI (zw h F C) (some 72) 775 = some (i32 (F 775 72)) := zw_gI (S.2.2.1 (775, 72) (List.mem_of_getElem? (l := wIT) (i := 25) rfl))
theorem wp_775 (S : St h) (x : Int) : zpI (zw h F C) (some 72) 775 (i32 x) = some (zw h (zsF F 775 72 x) C) := zw_pI (S.2.2.1 (775, 72) (List.mem_of_getElem? (l := wIT) (i := 25) rfl)) x
theorem wg_776 (S : St h) : zgI (zw h F C) (some 72) 776 = some (i32 (F 776 72)) := zw_gI (S.2.2.1 (776, 72) (List.mem_of_getElem? (l := wIT) (i := 26) rfl))
theorem wp_776 (S : St h) {x : Int} (hx : x = 0 ∨ x = 1) : zpZ (zw h F C) (some 72) 776 (i32 x) = some (zw h (zsF F 776 72 x) C) := zw_pZ (S.2.2.1 (776, 72) (List.mem_of_getElem? (l := wIT) (i := 26) rfl)) hx
theorem wg_778 (S : St h) : zgI (zw h F C) (some 72) 778 = some (i32 (F 778 72)) := zw_gI (S.2.2.1 (778, 72) (List.mem_of_getElem? (l := wIT) (i := 27) rfl))
theorem wp_778 (S : St h) (x : Int) : zpI (zw h F C) (some 72) 778 (i32 x) = some (zw h (zsF F 778 72 x) C) := zw_pI (S.2.2.1 (778, 72) (List.mem_of_getElem? (l := wIT) (i := 27) rfl)) x
theorem wg_779 (S : St h) : zgI (zw h F C) (some 72) 779 = some (i32 (F 779 72)) := zw_gI (S.2.2.1 (779, 72) (List.mem_of_getElem? (l := wIT) (i := 28) rfl))
theorem wp_779 (S : St h) (x : Int) : zpI (zw h F C) (some 72) 779 (i32 x) = some (zw h (zsF F 779 72 x) C) := zw_pI (S.2.2.1 (779, 72) (List.mem_of_getElem? (l := wIT) (i := 28) rfl)) x
theorem wg_780 (S : St h) : zgI (zw h F C) (some 72) 780 = some (i32 (F 780 72)) := zw_gI (S.2.2.1 (780, 72) (List.mem_of_getElem? (l := wIT) (i := 29) rfl))
theorem wp_780 (S : St h) (x : Int) : zpI (zw h F C) (some 72) 780 (i32 x) = some (zw h (zsF F 780 72 x) C) := zw_pI (S.2.2.1 (780, 72) (List.mem_of_getElem? (l := wIT) (i := 29) rfl)) x
theorem wg_781 (S : St h) : zgI (zw h F C) (some 72) 781 = some (i32 (F 781 72)) := zw_gI (S.2.2.1 (781, 72) (List.mem_of_getElem? (l := wIT) (i := 30) rfl))
theorem wp_781 (S : St h) (x : Int) : zpI (zw h F C) (some 72) 781 (i32 x) = some (zw h (zsF F 781 72 x) C) := zw_pI (S.2.2.1 (781, 72) (List.mem_of_getElem? (l := wIT) (i := 30) rfl)) x
theorem wg_782 (S : St h) : zgI (zw h F C) (some 72) 782 = some (i32 (F 782 72)) := zw_gI (S.2.2.1 (782, 72) (List.mem_of_getElem? (l := wIT) (i := 31) rfl))
theorem wp_782 (S : St h) (x : Int) : zpI (zw h F C) (some 72) 782 (i32 x) = some (zw h (zsF F 782 72 x) C) := zw_pI (S.2.2.1 (782, 72) (List.mem_of_getElem? (l := wIT) (i := 31) rfl)) x
theorem wg_783 (S : St h) : zgI (zw h F C) (some 72) 783 = some (i32 (F 783 72)) := zw_gI (S.2.2.1 (783, 72) (List.mem_of_getElem? (l := wIT) (i := 32) rfl))
theorem wp_783 (S : St h) (x : Int) : zpI (zw h F C) (some 72) 783 (i32 x) = some (zw h (zsF F 783 72 x) C) := zw_pI (S.2.2.1 (783, 72) (List.mem_of_getElem? (l := wIT) (i := 32) rfl)) x
theorem wg_784 (S : St h) : zgI (zw h F C) (some 72) 784 = some (i32 (F 784 72)) := zw_gI (S.2.2.1 (784, 72) (List.mem_of_getElem? (l := wIT) (i := 33) rfl))
theorem wp_784 (S : St h) (x : Int) : zpI (zw h F C) (some 72) 784 (i32 x) = some (zw h (zsF F 784 72 x) C) := zw_pI (S.2.2.1 (784, 72) (List.mem_of_getElem? (l := wIT) (i := 33) rfl)) x
theorem wg_788 (S : St h) : zgI (zw h F C) (some 72) 788 = some (i32 (F 788 72)) := zw_gI (S.2.2.1 (788, 72) (List.mem_of_getElem? (l := wIT) (i := 34) rfl))
theorem wp_788 (S : St h) (x : Int) : zpI (zw h F C) (some 72) 788 (i32 x) = some (zw h (zsF F 788 72 x) C) := zw_pI (S.2.2.1 (788, 72) (List.mem_of_getElem? (l := wIT) (i := 34) rfl)) x
theorem wg_792 (S : St h) : zgI (zw h F C) (some 72) 792 = some (i32 (F 792 72)) := zw_gI (S.2.2.1 (792, 72) (List.mem_of_getElem? (l := wIT) (i := 35) rfl))
theorem wp_792 (S : St h) (x : Int) : zpI (zw h F C) (some 72) 792 (i32 x) = some (zw h (zsF F 792 72 x) C) := zw_pI (S.2.2.1 (792, 72) (List.mem_of_getElem? (l := wIT) (i := 35) rfl)) x
theorem wg_793 (S : St h) : zgI (zw h F C) (some 72) 793 = some (i32 (F 793 72)) := zw_gI (S.2.2.1 (793, 72) (List.mem_of_getElem? (l := wIT) (i := 36) rfl))
theorem wp_793 (S : St h) (x : Int) : zpI (zw h F C) (some 72) 793 (i32 x) = some (zw h (zsF F 793 72 x) C) := zw_pI (S.2.2.1 (793, 72) (List.mem_of_getElem? (l := wIT) (i := 36) rfl)) x
theorem wg_794 (S : St h) : zgI (zw h F C) (some 72) 794 = some (i32 (F 794 72)) := zw_gI (S.2.2.1 (794, 72) (List.mem_of_getElem? (l := wIT) (i := 37) rfl))
theorem wp_794 (S : St h) (x : Int) : zpI (zw h F C) (some 72) 794 (i32 x) = some (zw h (zsF F 794 72 x) C) := zw_pI (S.2.2.1 (794, 72) (List.mem_of_getElem? (l := wIT) (i := 37) rfl)) x
theorem wg_795 (S : St h) : zgI (zw h F C) (some 72) 795 = some (i32 (F 795 72)) := zw_gI (S.2.2.1 (795, 72) (List.mem_of_getElem? (l := wIT) (i := 38) rfl))
theorem wp_795 (S : St h) (x : Int) : zpI (zw h F C) (some 72) 795 (i32 x) = some (zw h (zsF F 795 72 x) C) := zw_pI (S.2.2.1 (795, 72) (List.mem_of_getElem? (l := wIT) (i := 38) rfl)) x
theorem wg_796 (S : St h) : zgI (zw h F C) (some 72) 796 = some (i32 (F 796 72)) := zw_gI (S.2.2.1 (796, 72) (List.mem_of_getElem? (l := wIT) (i := 39) rfl))
theorem wp_796 (S : St h) (x : Int) : zpI (zw h F C) (some 72) 796 (i32 x) = some (zw h (zsF F 796 72 x) C) := zw_pI (S.2.2.1 (796, 72) (List.mem_of_getElem? (l := wIT) (i := 39) rfl)) x
theorem wg_797 (S : St h) : zgI (zw h F C) (some 72) 797 = some (i32 (F 797 72)) := zw_gI (S.2.2.1 (797, 72) (List.mem_of_getElem? (l := wIT) (i := 40) rfl))
theorem wp_797 (S : St h) (x : Int) : zpI (zw h F C) (some 72) 797 (i32 x) = some (zw h (zsF F 797 72 x) C) := zw_pI (S.2.2.1 (797, 72) (List.mem_of_getElem? (l := wIT) (i := 40) rfl)) x
theorem wg_798 (S : St h) : zgI (zw h F C) (some 72) 798 = some (i32 (F 798 72)) := zw_gI (S.2.2.1 (798, 72) (List.mem_of_getElem? (l := wIT) (i := 41) rfl))
theorem wp_798 (S : St h) (x : Int) : zpI (zw h F C) (some 72) 798 (i32 x) = some (zw h (zsF F 798 72 x) C) := zw_pI (S.2.2.1 (798, 72) (List.mem_of_getElem? (l := wIT) (i := 41) rfl)) x
theorem wg_799 (S : St h) : zgI (zw h F C) (some 72) 799 = some (i32 (F 799 72)) := zw_gI (S.2.2.1 (799, 72) (List.mem_of_getElem? (l := wIT) (i := 42) rfl))
theorem wp_799 (S : St h) (x : Int) : zpI (zw h F C) (some 72) 799 (i32 x) = some (zw h (zsF F 799 72 x) C) := zw_pI (S.2.2.1 (799, 72) (List.mem_of_getElem? (l := wIT) (i := 42) rfl)) x
theorem wg_800 (S : St h) : zgI (zw h F C) (some 72) 800 = some (i32 (F 800 72)) := zw_gI (S.2.2.1 (800, 72) (List.mem_of_getElem? (l := wIT) (i := 43) rfl))
theorem wp_800 (S : St h) (x : Int) : zpI (zw h F C) (some 72) 800 (i32 x) = some (zw h (zsF F 800 72 x) C) := zw_pI (S.2.2.1 (800, 72) (List.mem_of_getElem? (l := wIT) (i := 43) rfl)) x
theorem wg_801 (S : St h) : zgI (zw h F C) (some 72) 801 = some (i32 (F 801 72)) := zw_gI (S.2.2.1 (801, 72) (List.mem_of_getElem? (l := wIT) (i := 44) rfl))
theorem wp_801 (S : St h) (x : Int) : zpI (zw h F C) (some 72) 801 (i32 x) = some (zw h (zsF F 801 72 x) C) := zw_pI (S.2.2.1 (801, 72) (List.mem_of_getElem? (l := wIT) (i := 44) rfl)) x
theorem wg_808 (S : St h) : zgI (zw h F C) (some 72) 808 = some (i32 (F 808 72)) := zw_gI (S.2.2.1 (808, 72) (List.mem_of_getElem? (l := wIT) (i := 45) rfl))
theorem wp_808 (S : St h) (x : Int) : zpI (zw h F C) (some 72) 808 (i32 x) = some (zw h (zsF F 808 72 x) C) := zw_pI (S.2.2.1 (808, 72) (List.mem_of_getElem? (l := wIT) (i := 45) rfl)) x
theorem wg_810 (S : St h) : zgI (zw h F C) (some 72) 810 = some (i32 (F 810 72)) := zw_gI (S.2.2.1 (810, 72) (List.mem_of_getElem? (l := wIT) (i := 46) rfl))
theorem wp_810 (S : St h) (x : Int) : zpI (zw h F C) (some 72) 810 (i32 x) = some (zw h (zsF F 810 72 x) C) := zw_pI (S.2.2.1 (810, 72) (List.mem_of_getElem? (l := wIT) (i := 46) rfl)) x
theorem wa_49 (S : St h) {i : Int} (h0 : 0 ≤ i) (h1 : i < 5) : zaI (zw h F C) (some 49) (i32 i) 0 = some (i32 (C 49 i)) := zw_aI (S.2.2.2.1 (49, 5) (List.mem_of_getElem? (l := wRW) (i := 0) rfl)) (by unfold zK0; omega) (by omega) h0 h1
theorem ws_49 (S : St h) {i : Int} (h0 : 0 ≤ i) (h1 : i < 5) (x : Int) : zaS (zw h F C) (some 49) (i32 i) (i32 x) = some (zw h F (zsC C 49 i x)) := zw_aS (S.2.2.2.1 (49, 5) (List.mem_of_getElem? (l := wRW) (i := 0) rfl)) (by unfold zK0; omega) (by omega) h0 h1 x
theorem wa_51 (S : St h) {i : Int} (h0 : 0 ≤ i) (h1 : i < 6) : zaI (zw h F C) (some 51) (i32 i) 0 = some (i32 (C 51 i)) := zw_aI (S.2.2.2.1 (51, 6) (List.mem_of_getElem? (l := wRW) (i := 1) rfl)) (by unfold zK0; omega) (by omega) h0 h1
theorem ws_51 (S : St h) {i : Int} (h0 : 0 ≤ i) (h1 : i < 6) (x : Int) : zaS (zw h F C) (some 51) (i32 i) (i32 x) = some (zw h F (zsC C 51 i x)) := zw_aS (S.2.2.2.1 (51, 6) (List.mem_of_getElem? (l := wRW) (i := 1) rfl)) (by unfold zK0; omega) (by omega) h0 h1 x
theorem wa_52 (S : St h) {i : Int} (h0 : 0 ≤ i) (h1 : i < 6) : zaI (zw h F C) (some 52) (i32 i) 0 = some (i32 (C 52 i)) := zw_aI (S.2.2.2.1 (52, 6) (List.mem_of_getElem? (l := wRW) (i := 2) rfl)) (by unfold zK0; omega) (by omega) h0 h1
theorem ws_52 (S : St h) {i : Int} (h0 : 0 ≤ i) (h1 : i < 6) (x : Int) : zaS (zw h F C) (some 52) (i32 i) (i32 x) = some (zw h F (zsC C 52 i x)) := zw_aS (S.2.2.2.1 (52, 6) (List.mem_of_getElem? (l := wRW) (i := 2) rfl)) (by unfold zK0; omega) (by omega) h0 h1 x
theorem wa_53 (S : St h) {i : Int} (h0 : 0 ≤ i) (h1 : i < 4) : zaI (zw h F C) (some 53) (i32 i) 0 = some (i32 (C 53 i)) := zw_aI (S.2.2.2.1 (53, 4) (List.mem_of_getElem? (l := wRW) (i := 3) rfl)) (by unfold zK0; omega) (by omega) h0 h1
theorem ws_53 (S : St h) {i : Int} (h0 : 0 ≤ i) (h1 : i < 4) (x : Int) : zaS (zw h F C) (some 53) (i32 i) (i32 x) = some (zw h F (zsC C 53 i x)) := zw_aS (S.2.2.2.1 (53, 4) (List.mem_of_getElem? (l := wRW) (i := 3) rfl)) (by unfold zK0; omega) (by omega) h0 h1 x
theorem wa_54 (S : St h) {i : Int} (h0 : 0 ≤ i) (h1 : i < 4) : zaI (zw h F C) (some 54) (i32 i) 0 = some (i32 (C 54 i)) := zw_aI (S.2.2.2.1 (54, 4) (List.mem_of_getElem? (l := wRW) (i := 4) rfl)) (by unfold zK0; omega) (by omega) h0 h1
theorem ws_54 (S : St h) {i : Int} (h0 : 0 ≤ i) (h1 : i < 4) (x : Int) : zaS (zw h F C) (some 54) (i32 i) (i32 x) = some (zw h F (zsC C 54 i x)) := zw_aS (S.2.2.2.1 (54, 4) (List.mem_of_getElem? (l := wRW) (i := 4) rfl)) (by unfold zK0; omega) (by omega) h0 h1 x
theorem wa_55 (S : St h) {i : Int} (h0 : 0 ≤ i) (h1 : i < 8) : zaI (zw h F C) (some 55) (i32 i) 0 = some (i32 (C 55 i)) := zw_aI (S.2.2.2.1 (55, 8) (List.mem_of_getElem? (l := wRW) (i := 5) rfl)) (by unfold zK0; omega) (by omega) h0 h1
theorem ws_55 (S : St h) {i : Int} (h0 : 0 ≤ i) (h1 : i < 8) (x : Int) : zaS (zw h F C) (some 55) (i32 i) (i32 x) = some (zw h F (zsC C 55 i x)) := zw_aS (S.2.2.2.1 (55, 8) (List.mem_of_getElem? (l := wRW) (i := 5) rfl)) (by unfold zK0; omega) (by omega) h0 h1 x
theorem wa_56 (S : St h) {i : Int} (h0 : 0 ≤ i) (h1 : i < 8) : zaI (zw h F C) (some 56) (i32 i) 0 = some (i32 (C 56 i)) := zw_aI (S.2.2.2.1 (56, 8) (List.mem_of_getElem? (l := wRW) (i := 6) rfl)) (by unfold zK0; omega) (by omega) h0 h1
theorem ws_56 (S : St h) {i : Int} (h0 : 0 ≤ i) (h1 : i < 8) (x : Int) : zaS (zw h F C) (some 56) (i32 i) (i32 x) = some (zw h F (zsC C 56 i x)) := zw_aS (S.2.2.2.1 (56, 8) (List.mem_of_getElem? (l := wRW) (i := 6) rfl)) (by unfold zK0; omega) (by omega) h0 h1 x
theorem wa_58 (S : St h) {i : Int} (h0 : 0 ≤ i) (h1 : i < 800) : zaI (zw h F C) (some 58) (i32 i) 0 = some (i32 (C 58 i)) := zw_aI (S.2.2.2.1 (58, 800) (List.mem_of_getElem? (l := wRW) (i := 7) rfl)) (by unfold zK0; omega) (by omega) h0 h1
theorem ws_58 (S : St h) {i : Int} (h0 : 0 ≤ i) (h1 : i < 800) (x : Int) : zaS (zw h F C) (some 58) (i32 i) (i32 x) = some (zw h F (zsC C 58 i x)) := zw_aS (S.2.2.2.1 (58, 800) (List.mem_of_getElem? (l := wRW) (i := 7) rfl)) (by unfold zK0; omega) (by omega) h0 h1 x
theorem wa_59 (S : St h) {i : Int} (h0 : 0 ≤ i) (h1 : i < 800) : zaI (zw h F C) (some 59) (i32 i) 0 = some (i32 (C 59 i)) := zw_aI (S.2.2.2.1 (59, 800) (List.mem_of_getElem? (l := wRW) (i := 8) rfl)) (by unfold zK0; omega) (by omega) h0 h1
theorem ws_59 (S : St h) {i : Int} (h0 : 0 ≤ i) (h1 : i < 800) (x : Int) : zaS (zw h F C) (some 59) (i32 i) (i32 x) = some (zw h F (zsC C 59 i x)) := zw_aS (S.2.2.2.1 (59, 800) (List.mem_of_getElem? (l := wRW) (i := 8) rfl)) (by unfold zK0; omega) (by omega) h0 h1 x
theorem wa_61 (S : St h) {i : Int} (h0 : 0 ≤ i) (h1 : i < 576) : zaI (zw h F C) (some 61) (i32 i) 0 = some (i32 (C 61 i)) := zw_aI (S.2.2.2.1 (61, 576) (List.mem_of_getElem? (l := wRW) (i := 9) rfl)) (by unfold zK0; omega) (by omega) h0 h1
theorem ws_61 (S : St h) {i : Int} (h0 : 0 ≤ i) (h1 : i < 576) (x : Int) : zaS (zw h F C) (some 61) (i32 i) (i32 x) = some (zw h F (zsC C 61 i x)) := zw_aS (S.2.2.2.1 (61, 576) (List.mem_of_getElem? (l := wRW) (i := 9) rfl)) (by unfold zK0; omega) (by omega) h0 h1 x
theorem wa_62 (S : St h) {i : Int} (h0 : 0 ≤ i) (h1 : i < 8) : zaI (zw h F C) (some 62) (i32 i) 0 = some (i32 (C 62 i)) := zw_aI (S.2.2.2.1 (62, 8) (List.mem_of_getElem? (l := wRW) (i := 10) rfl)) (by unfold zK0; omega) (by omega) h0 h1
theorem ws_62 (S : St h) {i : Int} (h0 : 0 ≤ i) (h1 : i < 8) (x : Int) : zaS (zw h F C) (some 62) (i32 i) (i32 x) = some (zw h F (zsC C 62 i x)) := zw_aS (S.2.2.2.1 (62, 8) (List.mem_of_getElem? (l := wRW) (i := 10) rfl)) (by unfold zK0; omega) (by omega) h0 h1 x
theorem wa_63 (S : St h) {i : Int} (h0 : 0 ≤ i) (h1 : i < 256) : zaI (zw h F C) (some 63) (i32 i) 0 = some (i32 (C 63 i)) := zw_aI (S.2.2.2.1 (63, 256) (List.mem_of_getElem? (l := wRW) (i := 11) rfl)) (by unfold zK0; omega) (by omega) h0 h1
theorem ws_63 (S : St h) {i : Int} (h0 : 0 ≤ i) (h1 : i < 256) (x : Int) : zaS (zw h F C) (some 63) (i32 i) (i32 x) = some (zw h F (zsC C 63 i x)) := zw_aS (S.2.2.2.1 (63, 256) (List.mem_of_getElem? (l := wRW) (i := 11) rfl)) (by unfold zK0; omega) (by omega) h0 h1 x
theorem wa_64 (S : St h) {i : Int} (h0 : 0 ≤ i) (h1 : i < 8) : zaI (zw h F C) (some 64) (i32 i) 0 = some (i32 (C 64 i)) := zw_aI (S.2.2.2.1 (64, 8) (List.mem_of_getElem? (l := wRW) (i := 12) rfl)) (by unfold zK0; omega) (by omega) h0 h1
theorem ws_64 (S : St h) {i : Int} (h0 : 0 ≤ i) (h1 : i < 8) (x : Int) : zaS (zw h F C) (some 64) (i32 i) (i32 x) = some (zw h F (zsC C 64 i x)) := zw_aS (S.2.2.2.1 (64, 8) (List.mem_of_getElem? (l := wRW) (i := 12) rfl)) (by unfold zK0; omega) (by omega) h0 h1 x
theorem wa_66 (S : St h) {i : Int} (h0 : 0 ≤ i) (h1 : i < 80) : zaI (zw h F C) (some 66) (i32 i) 0 = some (i32 (C 66 i)) := zw_aI (S.2.2.2.1 (66, 80) (List.mem_of_getElem? (l := wRW) (i := 13) rfl)) (by unfold zK0; omega) (by omega) h0 h1
theorem ws_66 (S : St h) {i : Int} (h0 : 0 ≤ i) (h1 : i < 80) (x : Int) : zaS (zw h F C) (some 66) (i32 i) (i32 x) = some (zw h F (zsC C 66 i x)) := zw_aS (S.2.2.2.1 (66, 80) (List.mem_of_getElem? (l := wRW) (i := 13) rfl)) (by unfold zK0; omega) (by omega) h0 h1 x
theorem wa_67 (S : St h) {i : Int} (h0 : 0 ≤ i) (h1 : i < 9) : zaI (zw h F C) (some 67) (i32 i) 0 = some (i32 (C 67 i)) := zw_aI (S.2.2.2.1 (67, 9) (List.mem_of_getElem? (l := wRW) (i := 14) rfl)) (by unfold zK0; omega) (by omega) h0 h1
theorem ws_67 (S : St h) {i : Int} (h0 : 0 ≤ i) (h1 : i < 9) (x : Int) : zaS (zw h F C) (some 67) (i32 i) (i32 x) = some (zw h F (zsC C 67 i x)) := zw_aS (S.2.2.2.1 (67, 9) (List.mem_of_getElem? (l := wRW) (i := 14) rfl)) (by unfold zK0; omega) (by omega) h0 h1 x
theorem wa_69 (S : St h) {i : Int} (h0 : 0 ≤ i) (h1 : i < 8) : zaI (zw h F C) (some 69) (i32 i) 0 = some (i32 (C 69 i)) := zw_aI (S.2.2.2.1 (69, 8) (List.mem_of_getElem? (l := wRW) (i := 15) rfl)) (by unfold zK0; omega) (by omega) h0 h1
theorem ws_69 (S : St h) {i : Int} (h0 : 0 ≤ i) (h1 : i < 8) (x : Int) : zaS (zw h F C) (some 69) (i32 i) (i32 x) = some (zw h F (zsC C 69 i x)) := zw_aS (S.2.2.2.1 (69, 8) (List.mem_of_getElem? (l := wRW) (i := 15) rfl)) (by unfold zK0; omega) (by omega) h0 h1 x
theorem wa_70 (S : St h) {i : Int} (h0 : 0 ≤ i) (h1 : i < 4) : zaI (zw h F C) (some 70) (i32 i) 0 = some (i32 (C 70 i)) := zw_aI (S.2.2.2.1 (70, 4) (List.mem_of_getElem? (l := wRW) (i := 16) rfl)) (by unfold zK0; omega) (by omega) h0 h1
theorem ws_70 (S : St h) {i : Int} (h0 : 0 ≤ i) (h1 : i < 4) (x : Int) : zaS (zw h F C) (some 70) (i32 i) (i32 x) = some (zw h F (zsC C 70 i x)) := zw_aS (S.2.2.2.1 (70, 4) (List.mem_of_getElem? (l := wRW) (i := 16) rfl)) (by unfold zK0; omega) (by omega) h0 h1 x
theorem wa_71 (S : St h) {i : Int} (h0 : 0 ≤ i) (h1 : i < 6) : zaI (zw h F C) (some 71) (i32 i) 0 = some (i32 (C 71 i)) := zw_aI (S.2.2.2.1 (71, 6) (List.mem_of_getElem? (l := wRW) (i := 17) rfl)) (by unfold zK0; omega) (by omega) h0 h1
theorem ws_71 (S : St h) {i : Int} (h0 : 0 ≤ i) (h1 : i < 6) (x : Int) : zaS (zw h F C) (some 71) (i32 i) (i32 x) = some (zw h F (zsC C 71 i x)) := zw_aS (S.2.2.2.1 (71, 6) (List.mem_of_getElem? (l := wRW) (i := 17) rfl)) (by unfold zK0; omega) (by omega) h0 h1 x
theorem wa_73 (S : St h) {i : Int} (h0 : 0 ≤ i) (h1 : i < 4920) : zaI (zw h F C) (some 73) (i32 i) 0 = some (i32 (C 73 i)) := zw_aI (S.2.2.2.1 (73, 4920) (List.mem_of_getElem? (l := wRW) (i := 18) rfl)) (by unfold zK0; omega) (by omega) h0 h1
theorem ws_73 (S : St h) {i : Int} (h0 : 0 ≤ i) (h1 : i < 4920) (x : Int) : zaS (zw h F C) (some 73) (i32 i) (i32 x) = some (zw h F (zsC C 73 i x)) := zw_aS (S.2.2.2.1 (73, 4920) (List.mem_of_getElem? (l := wRW) (i := 18) rfl)) (by unfold zK0; omega) (by omega) h0 h1 x
theorem wa_75 (S : St h) {i : Int} (h0 : 0 ≤ i) (h1 : i < 241) : zaI (zw h F C) (some 75) (i32 i) 0 = some (i32 (C 75 i)) := zw_aI (S.2.2.2.1 (75, 241) (List.mem_of_getElem? (l := wRW) (i := 19) rfl)) (by unfold zK0; omega) (by omega) h0 h1
theorem ws_75 (S : St h) {i : Int} (h0 : 0 ≤ i) (h1 : i < 241) (x : Int) : zaS (zw h F C) (some 75) (i32 i) (i32 x) = some (zw h F (zsC C 75 i x)) := zw_aS (S.2.2.2.1 (75, 241) (List.mem_of_getElem? (l := wRW) (i := 19) rfl)) (by unfold zK0; omega) (by omega) h0 h1 x
theorem wa_76 (S : St h) {i : Int} (h0 : 0 ≤ i) (h1 : i < 800) : zaI (zw h F C) (some 76) (i32 i) 0 = some (i32 (C 76 i)) := zw_aI (S.2.2.2.1 (76, 800) (List.mem_of_getElem? (l := wRW) (i := 20) rfl)) (by unfold zK0; omega) (by omega) h0 h1
theorem ws_76 (S : St h) {i : Int} (h0 : 0 ≤ i) (h1 : i < 800) (x : Int) : zaS (zw h F C) (some 76) (i32 i) (i32 x) = some (zw h F (zsC C 76 i x)) := zw_aS (S.2.2.2.1 (76, 800) (List.mem_of_getElem? (l := wRW) (i := 20) rfl)) (by unfold zK0; omega) (by omega) h0 h1 x
theorem wa_77 (S : St h) {i : Int} (h0 : 0 ≤ i) (h1 : i < 576) : zaI (zw h F C) (some 77) (i32 i) 0 = some (i32 (C 77 i)) := zw_aI (S.2.2.2.1 (77, 576) (List.mem_of_getElem? (l := wRW) (i := 21) rfl)) (by unfold zK0; omega) (by omega) h0 h1
theorem ws_77 (S : St h) {i : Int} (h0 : 0 ≤ i) (h1 : i < 576) (x : Int) : zaS (zw h F C) (some 77) (i32 i) (i32 x) = some (zw h F (zsC C 77 i x)) := zw_aS (S.2.2.2.1 (77, 576) (List.mem_of_getElem? (l := wRW) (i := 21) rfl)) (by unfold zK0; omega) (by omega) h0 h1 x
theorem wa_78 (S : St h) {i : Int} (h0 : 0 ≤ i) (h1 : i < 256) : zaI (zw h F C) (some 78) (i32 i) 0 = some (i32 (C 78 i)) := zw_aI (S.2.2.2.1 (78, 256) (List.mem_of_getElem? (l := wRW) (i := 22) rfl)) (by unfold zK0; omega) (by omega) h0 h1
theorem ws_78 (S : St h) {i : Int} (h0 : 0 ≤ i) (h1 : i < 256) (x : Int) : zaS (zw h F C) (some 78) (i32 i) (i32 x) = some (zw h F (zsC C 78 i x)) := zw_aS (S.2.2.2.1 (78, 256) (List.mem_of_getElem? (l := wRW) (i := 22) rfl)) (by unfold zK0; omega) (by omega) h0 h1 x
theorem wa_79 (S : St h) {i : Int} (h0 : 0 ≤ i) (h1 : i < 256) : zaI (zw h F C) (some 79) (i32 i) 0 = some (i32 (C 79 i)) := zw_aI (S.2.2.2.1 (79, 256) (List.mem_of_getElem? (l := wRW) (i := 23) rfl)) (by unfold zK0; omega) (by omega) h0 h1
theorem ws_79 (S : St h) {i : Int} (h0 : 0 ≤ i) (h1 : i < 256) (x : Int) : zaS (zw h F C) (some 79) (i32 i) (i32 x) = some (zw h F (zsC C 79 i x)) := zw_aS (S.2.2.2.1 (79, 256) (List.mem_of_getElem? (l := wRW) (i := 23) rfl)) (by unfold zK0; omega) (by omega) h0 h1 x
theorem wa_80 (S : St h) {i : Int} (h0 : 0 ≤ i) (h1 : i < 6) : zaI (zw h F C) (some 80) (i32 i) 0 = some (i32 (C 80 i)) := zw_aI (S.2.2.2.1 (80, 6) (List.mem_of_getElem? (l := wRW) (i := 24) rfl)) (by unfold zK0; omega) (by omega) h0 h1
theorem ws_80 (S : St h) {i : Int} (h0 : 0 ≤ i) (h1 : i < 6) (x : Int) : zaS (zw h F C) (some 80) (i32 i) (i32 x) = some (zw h F (zsC C 80 i x)) := zw_aS (S.2.2.2.1 (80, 6) (List.mem_of_getElem? (l := wRW) (i := 24) rfl)) (by unfold zK0; omega) (by omega) h0 h1 x
theorem wa_81 (S : St h) {i : Int} (h0 : 0 ≤ i) (h1 : i < 4) : zaI (zw h F C) (some 81) (i32 i) 0 = some (i32 (C 81 i)) := zw_aI (S.2.2.2.1 (81, 4) (List.mem_of_getElem? (l := wRW) (i := 25) rfl)) (by unfold zK0; omega) (by omega) h0 h1
theorem ws_81 (S : St h) {i : Int} (h0 : 0 ≤ i) (h1 : i < 4) (x : Int) : zaS (zw h F C) (some 81) (i32 i) (i32 x) = some (zw h F (zsC C 81 i x)) := zw_aS (S.2.2.2.1 (81, 4) (List.mem_of_getElem? (l := wRW) (i := 25) rfl)) (by unfold zK0; omega) (by omega) h0 h1 x
theorem wa_82 (S : St h) {i : Int} (h0 : 0 ≤ i) (h1 : i < 6) : zaI (zw h F C) (some 82) (i32 i) 0 = some (i32 (C 82 i)) := zw_aI (S.2.2.2.1 (82, 6) (List.mem_of_getElem? (l := wRW) (i := 26) rfl)) (by unfold zK0; omega) (by omega) h0 h1
theorem ws_82 (S : St h) {i : Int} (h0 : 0 ≤ i) (h1 : i < 6) (x : Int) : zaS (zw h F C) (some 82) (i32 i) (i32 x) = some (zw h F (zsC C 82 i x)) := zw_aS (S.2.2.2.1 (82, 6) (List.mem_of_getElem? (l := wRW) (i := 26) rfl)) (by unfold zK0; omega) (by omega) h0 h1 x
theorem wa_83 (S : St h) {i : Int} (h0 : 0 ≤ i) (h1 : i < 6) : zaI (zw h F C) (some 83) (i32 i) 0 = some (i32 (C 83 i)) := zw_aI (S.2.2.2.1 (83, 6) (List.mem_of_getElem? (l := wRW) (i := 27) rfl)) (by unfold zK0; omega) (by omega) h0 h1
theorem ws_83 (S : St h) {i : Int} (h0 : 0 ≤ i) (h1 : i < 6) (x : Int) : zaS (zw h F C) (some 83) (i32 i) (i32 x) = some (zw h F (zsC C 83 i x)) := zw_aS (S.2.2.2.1 (83, 6) (List.mem_of_getElem? (l := wRW) (i := 27) rfl)) (by unfold zK0; omega) (by omega) h0 h1 x
theorem wa_84 (S : St h) {i : Int} (h0 : 0 ≤ i) (h1 : i < 4) : zaI (zw h F C) (some 84) (i32 i) 0 = some (i32 (C 84 i)) := zw_aI (S.2.2.2.1 (84, 4) (List.mem_of_getElem? (l := wRW) (i := 28) rfl)) (by unfold zK0; omega) (by omega) h0 h1
theorem ws_84 (S : St h) {i : Int} (h0 : 0 ≤ i) (h1 : i < 4) (x : Int) : zaS (zw h F C) (some 84) (i32 i) (i32 x) = some (zw h F (zsC C 84 i x)) := zw_aS (S.2.2.2.1 (84, 4) (List.mem_of_getElem? (l := wRW) (i := 28) rfl)) (by unfold zK0; omega) (by omega) h0 h1 x
theorem wa_85 (S : St h) {i : Int} (h0 : 0 ≤ i) (h1 : i < 8) : zaI (zw h F C) (some 85) (i32 i) 0 = some (i32 (C 85 i)) := zw_aI (S.2.2.2.1 (85, 8) (List.mem_of_getElem? (l := wRW) (i := 29) rfl)) (by unfold zK0; omega) (by omega) h0 h1
theorem ws_85 (S : St h) {i : Int} (h0 : 0 ≤ i) (h1 : i < 8) (x : Int) : zaS (zw h F C) (some 85) (i32 i) (i32 x) = some (zw h F (zsC C 85 i x)) := zw_aS (S.2.2.2.1 (85, 8) (List.mem_of_getElem? (l := wRW) (i := 29) rfl)) (by unfold zK0; omega) (by omega) h0 h1 x
theorem wa_86 (S : St h) {i : Int} (h0 : 0 ≤ i) (h1 : i < 8) : zaI (zw h F C) (some 86) (i32 i) 0 = some (i32 (C 86 i)) := zw_aI (S.2.2.2.1 (86, 8) (List.mem_of_getElem? (l := wRW) (i := 30) rfl)) (by unfold zK0; omega) (by omega) h0 h1
theorem ws_86 (S : St h) {i : Int} (h0 : 0 ≤ i) (h1 : i < 8) (x : Int) : zaS (zw h F C) (some 86) (i32 i) (i32 x) = some (zw h F (zsC C 86 i x)) := zw_aS (S.2.2.2.1 (86, 8) (List.mem_of_getElem? (l := wRW) (i := 30) rfl)) (by unfold zK0; omega) (by omega) h0 h1 x
theorem wa_87 (S : St h) {i : Int} (h0 : 0 ≤ i) (h1 : i < 8) : zaI (zw h F C) (some 87) (i32 i) 0 = some (i32 (C 87 i)) := zw_aI (S.2.2.2.1 (87, 8) (List.mem_of_getElem? (l := wRW) (i := 31) rfl)) (by unfold zK0; omega) (by omega) h0 h1
theorem ws_87 (S : St h) {i : Int} (h0 : 0 ≤ i) (h1 : i < 8) (x : Int) : zaS (zw h F C) (some 87) (i32 i) (i32 x) = some (zw h F (zsC C 87 i x)) := zw_aS (S.2.2.2.1 (87, 8) (List.mem_of_getElem? (l := wRW) (i := 31) rfl)) (by unfold zK0; omega) (by omega) h0 h1 x
theorem wa_88 (S : St h) {i : Int} (h0 : 0 ≤ i) (h1 : i < 9) : zaI (zw h F C) (some 88) (i32 i) 0 = some (i32 (C 88 i)) := zw_aI (S.2.2.2.1 (88, 9) (List.mem_of_getElem? (l := wRW) (i := 32) rfl)) (by unfold zK0; omega) (by omega) h0 h1
theorem ws_88 (S : St h) {i : Int} (h0 : 0 ≤ i) (h1 : i < 9) (x : Int) : zaS (zw h F C) (some 88) (i32 i) (i32 x) = some (zw h F (zsC C 88 i x)) := zw_aS (S.2.2.2.1 (88, 9) (List.mem_of_getElem? (l := wRW) (i := 32) rfl)) (by unfold zK0; omega) (by omega) h0 h1 x
variable {a : Nat}
theorem dv (H : duS h a) {m : Nat} {as : List zVal} : zv 2 m (zR (some a) :: as) (zw h F C) = zc m (zR (some a) :: as) (zw h F C) := zw_v H.1
theorem dg_128 (H : duS h a) : zgI (zw h F C) (some a) 128 = some (i32 (F 128 a)) := zw_gI H.2.1.1
theorem dp_128 (H : duS h a) (x : Int) : zpI (zw h F C) (some a) 128 (i32 x) = some (zw h (zsF F 128 a x) C) := zw_pI H.2.1.1 x
theorem dg_129 (H : duS h a) : zgI (zw h F C) (some a) 129 = some (i32 (F 129 a)) := zw_gI H.2.1.2.1
theorem dp_129 (H : duS h a) (x : Int) : zpI (zw h F C) (some a) 129 (i32 x) = some (zw h (zsF F 129 a x) C) := zw_pI H.2.1.2.1 x
theorem dg_130 (H : duS h a) : zgI (zw h F C) (some a) 130 = some (i32 (F 130 a)) := zw_gI H.2.1.2.2.1
theorem dp_130 (H : duS h a) (x : Int) : zpI (zw h F C) (some a) 130 (i32 x) = some (zw h (zsF F 130 a x) C) := zw_pI H.2.1.2.2.1 x
theorem dg_131 (H : duS h a) : zgI (zw h F C) (some a) 131 = some (i32 (F 131 a)) := zw_gI H.2.1.2.2.2
theorem dp_131 (H : duS h a) (x : Int) : zpI (zw h F C) (some a) 131 (i32 x) = some (zw h (zsF F 131 a x) C) := zw_pI H.2.1.2.2.2 x
theorem dr_132 (H : duS h a) : zgR (zw h F C) (some a) 132 = some (some (a + 1)) := zw_gR H.2.2.1.1
theorem da_132 (H : duS h a) {i : Int} (h0 : 0 ≤ i) (h1 : i < 6) : zaI (zw h F C) (some (a + 1)) (i32 i) 0 = some (i32 (C (a + 1) i)) := zw_aI H.2.2.2.1.1 (by have := H.2.2.2.2; omega) (by omega) h0 h1
theorem ds_132 (H : duS h a) {i : Int} (h0 : 0 ≤ i) (h1 : i < 6) (x : Int) : zaS (zw h F C) (some (a + 1)) (i32 i) (i32 x) = some (zw h F (zsC C (a + 1) i x)) := zw_aS H.2.2.2.1.1 (by have := H.2.2.2.2; omega) (by omega) h0 h1 x
theorem dr_133 (H : duS h a) : zgR (zw h F C) (some a) 133 = some (some (a + 2)) := zw_gR H.2.2.1.2.1
theorem da_133 (H : duS h a) {i : Int} (h0 : 0 ≤ i) (h1 : i < 6) : zaI (zw h F C) (some (a + 2)) (i32 i) 0 = some (i32 (C (a + 2) i)) := zw_aI H.2.2.2.1.2.1 (by have := H.2.2.2.2; omega) (by omega) h0 h1
theorem ds_133 (H : duS h a) {i : Int} (h0 : 0 ≤ i) (h1 : i < 6) (x : Int) : zaS (zw h F C) (some (a + 2)) (i32 i) (i32 x) = some (zw h F (zsC C (a + 2) i x)) := zw_aS H.2.2.2.1.2.1 (by have := H.2.2.2.2; omega) (by omega) h0 h1 x
theorem dr_134 (H : duS h a) : zgR (zw h F C) (some a) 134 = some (some (a + 3)) := zw_gR H.2.2.1.2.2.1
theorem da_134 (H : duS h a) {i : Int} (h0 : 0 ≤ i) (h1 : i < 4) : zaI (zw h F C) (some (a + 3)) (i32 i) 0 = some (i32 (C (a + 3) i)) := zw_aI H.2.2.2.1.2.2.1 (by have := H.2.2.2.2; omega) (by omega) h0 h1
theorem ds_134 (H : duS h a) {i : Int} (h0 : 0 ≤ i) (h1 : i < 4) (x : Int) : zaS (zw h F C) (some (a + 3)) (i32 i) (i32 x) = some (zw h F (zsC C (a + 3) i x)) := zw_aS H.2.2.2.1.2.2.1 (by have := H.2.2.2.2; omega) (by omega) h0 h1 x
theorem dr_135 (H : duS h a) : zgR (zw h F C) (some a) 135 = some (some (a + 4)) := zw_gR H.2.2.1.2.2.2.1
theorem da_135 (H : duS h a) {i : Int} (h0 : 0 ≤ i) (h1 : i < 8) : zaI (zw h F C) (some (a + 4)) (i32 i) 0 = some (i32 (C (a + 4) i)) := zw_aI H.2.2.2.1.2.2.2.1 (by have := H.2.2.2.2; omega) (by omega) h0 h1
theorem ds_135 (H : duS h a) {i : Int} (h0 : 0 ≤ i) (h1 : i < 8) (x : Int) : zaS (zw h F C) (some (a + 4)) (i32 i) (i32 x) = some (zw h F (zsC C (a + 4) i x)) := zw_aS H.2.2.2.1.2.2.2.1 (by have := H.2.2.2.2; omega) (by omega) h0 h1 x
theorem dr_136 (H : duS h a) : zgR (zw h F C) (some a) 136 = some (some (a + 5)) := zw_gR H.2.2.1.2.2.2.2.1
theorem da_136 (H : duS h a) {i : Int} (h0 : 0 ≤ i) (h1 : i < 8) : zaI (zw h F C) (some (a + 5)) (i32 i) 0 = some (i32 (C (a + 5) i)) := zw_aI H.2.2.2.1.2.2.2.2.1 (by have := H.2.2.2.2; omega) (by omega) h0 h1
theorem ds_136 (H : duS h a) {i : Int} (h0 : 0 ≤ i) (h1 : i < 8) (x : Int) : zaS (zw h F C) (some (a + 5)) (i32 i) (i32 x) = some (zw h F (zsC C (a + 5) i x)) := zw_aS H.2.2.2.1.2.2.2.2.1 (by have := H.2.2.2.2; omega) (by omega) h0 h1 x
theorem dr_137 (H : duS h a) : zgR (zw h F C) (some a) 137 = some (some (a + 6)) := zw_gR H.2.2.1.2.2.2.2.2
theorem da_137 (H : duS h a) {i : Int} (h0 : 0 ≤ i) (h1 : i < 8) : zaI (zw h F C) (some (a + 6)) (i32 i) 0 = some (i32 (C (a + 6) i)) := zw_aI H.2.2.2.1.2.2.2.2.2 (by have := H.2.2.2.2; omega) (by omega) h0 h1
theorem ds_137 (H : duS h a) {i : Int} (h0 : 0 ≤ i) (h1 : i < 8) (x : Int) : zaS (zw h F C) (some (a + 6)) (i32 i) (i32 x) = some (zw h F (zsC C (a + 6) i x)) := zw_aS H.2.2.2.1.2.2.2.2.2 (by have := H.2.2.2.2; omega) (by omega) h0 h1 x
theorem yv (H : yeS h a) {m : Nat} {as : List zVal} : zv 10 m (zR (some a) :: as) (zw h F C) = zc m (zR (some a) :: as) (zw h F C) := zw_v H.1
theorem yg_640 (H : yeS h a) : zgI (zw h F C) (some a) 640 = some (i32 (F 640 a)) := zw_gI H.2.1
theorem yp_640 (H : yeS h a) (x : Int) : zpI (zw h F C) (some a) 640 (i32 x) = some (zw h (zsF F 640 a x) C) := zw_pI H.2.1 x
theorem yr_641 (H : yeS h a) : zgR (zw h F C) (some a) 641 = some (some (a + 1)) := zw_gR H.2.2.1
theorem ya_641 (H : yeS h a) {i : Int} (h0 : 0 ≤ i) (h1 : i < 240) : zaI (zw h F C) (some (a + 1)) (i32 i) 0 = some (i32 (C (a + 1) i)) := zw_aI H.2.2.2.1 H.2.2.2.2 (by omega) h0 h1
theorem ys_641 (H : yeS h a) {i : Int} (h0 : 0 ≤ i) (h1 : i < 240) (x : Int) : zaS (zw h F C) (some (a + 1)) (i32 i) (i32 x) = some (zw h F (zsC C (a + 1) i x)) := zw_aS H.2.2.2.1 H.2.2.2.2 (by omega) h0 h1 x
theorem lv (H : loS h a) {m : Nat} {as : List zVal} : zv 3 m (zR (some a) :: as) (zw h F C) = zc m (zR (some a) :: as) (zw h F C) := zw_v H.1
theorem lg_192 (H : loS h a) : zgI (zw h F C) (some a) 192 = some (i32 (F 192 a)) := zw_gI H.2.1
theorem lp_192 (H : loS h a) (x : Int) : zpI (zw h F C) (some a) 192 (i32 x) = some (zw h (zsF F 192 a x) C) := zw_pI H.2.1 x
theorem lr_193 (H : loS h a) : zgR (zw h F C) (some a) 193 = some (some (a + 1)) := zw_gR H.2.2.1.1
theorem la_193 (H : loS h a) {i : Int} (h0 : 0 ≤ i) (h1 : i < 8) : zaI (zw h F C) (some (a + 1)) (i32 i) 0 = some (i32 (C (a + 1) i)) := zw_aI H.2.2.2.1.1 (by have := H.2.2.2.2; omega) (by omega) h0 h1
theorem ls_193 (H : loS h a) {i : Int} (h0 : 0 ≤ i) (h1 : i < 8) (x : Int) : zaS (zw h F C) (some (a + 1)) (i32 i) (i32 x) = some (zw h F (zsC C (a + 1) i x)) := zw_aS H.2.2.2.1.1 (by have := H.2.2.2.2; omega) (by omega) h0 h1 x
theorem lr_194 (H : loS h a) : zgR (zw h F C) (some a) 194 = some (some (a + 2)) := zw_gR H.2.2.1.2.1
theorem la_194 (H : loS h a) {i : Int} (h0 : 0 ≤ i) (h1 : i < 8) : zaI (zw h F C) (some (a + 2)) (i32 i) 0 = some (i32 (C (a + 2) i)) := zw_aI H.2.2.2.1.2.1 (by have := H.2.2.2.2; omega) (by omega) h0 h1
theorem ls_194 (H : loS h a) {i : Int} (h0 : 0 ≤ i) (h1 : i < 8) (x : Int) : zaS (zw h F C) (some (a + 2)) (i32 i) (i32 x) = some (zw h F (zsC C (a + 2) i x)) := zw_aS H.2.2.2.1.2.1 (by have := H.2.2.2.2; omega) (by omega) h0 h1 x
theorem lr_195 (H : loS h a) : zgR (zw h F C) (some a) 195 = some (some (a + 3)) := zw_gR H.2.2.1.2.2
theorem la_195 (H : loS h a) {i : Int} (h0 : 0 ≤ i) (h1 : i < 8) : zaI (zw h F C) (some (a + 3)) (i32 i) 0 = some (i32 (C (a + 3) i)) := zw_aI H.2.2.2.1.2.2 (by have := H.2.2.2.2; omega) (by omega) h0 h1
theorem ls_195 (H : loS h a) {i : Int} (h0 : 0 ≤ i) (h1 : i < 8) (x : Int) : zaS (zw h F C) (some (a + 3)) (i32 i) (i32 x) = some (zw h F (zsC C (a + 3) i x)) := zw_aS H.2.2.2.1.2.2 (by have := H.2.2.2.2; omega) (by omega) h0 h1 x
/-! the Told that is now -/
theorem tv_1 (S : St h) {m : Nat} {as : List zVal} : zv 9 m (zR (some 1) :: as) (zw h F C) = zc m (zR (some 1) :: as) (zw h F C) := zw_v S.2.2.2.2.2.1.1
theorem tr_576 (S : St h) : zgR (zw h F C) (some 1) 576 = some (some 2) := zw_gR S.2.2.2.2.2.1.2.1.1
theorem tr_577 (S : St h) : zgR (zw h F C) (some 1) 577 = some (some 4) := zw_gR S.2.2.2.2.2.1.2.1.2.1
theorem tr_578 (S : St h) : zgR (zw h F C) (some 1) 578 = some (some 5) := zw_gR S.2.2.2.2.2.1.2.1.2.2.1
theorem tr_579 (S : St h) : zgR (zw h F C) (some 1) 579 = some (some 6) := zw_gR S.2.2.2.2.2.1.2.1.2.2.2.1
theorem tr_580 (S : St h) : zgR (zw h F C) (some 1) 580 = some (some 7) := zw_gR S.2.2.2.2.2.1.2.1.2.2.2.2
theorem ta_4 (S : St h) {i : Int} (h0 : 0 ≤ i) (h1 : i < 3) : zaI (zw h F C) (some 4) (i32 i) 0 = some (i32 (C 4 i)) := zw_aI (n := 3) S.2.2.2.2.2.1.2.2.2.2.1 (by unfold zK0; omega) (by omega) h0 h1
theorem ts_4 (S : St h) {i : Int} (h0 : 0 ≤ i) (h1 : i < 3) (x : Int) : zaS (zw h F C) (some 4) (i32 i) (i32 x) = some (zw h F (zsC C 4 i x)) := zw_aS (n := 3) S.2.2.2.2.2.1.2.2.2.2.1 (by unfold zK0; omega) (by omega) h0 h1 x
end W
