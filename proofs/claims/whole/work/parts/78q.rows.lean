/-! rows made one after another for one object -/
section CQ
variable {p : Nat} {f g g' h h' : zHeap}
def mkRows (p : Nat) : List (Nat × Nat × Nat) → zHeap → zHeap
  | [], g => g
  | q :: l, g => mkRows p l (nrow q.1 q.2.1 q.2.2 p g)
theorem mk_N : ∀ (l : List (Nat × Nat × Nat)) (g : zHeap), hN (mkRows p l g) = hN g + l.length
  | [], g => rfl
  | q :: l, g => by
    show hN (mkRows p l (nrow q.1 q.2.1 q.2.2 p g)) = _
    rw [mk_N l, nrow_N, List.length_cons]; omega
theorem mk_S : ∀ (l : List (Nat × Nat × Nat)) (g : zHeap), hS (mkRows p l g) = hS g + (l.map (fun q => q.2.1)).sum
  | [], g => rfl
  | q :: l, g => by
    show hS (mkRows p l (nrow q.1 q.2.1 q.2.2 p g)) = _
    rw [mk_S l, nrow_S, List.map_cons, List.sum_cons]; omega
theorem mk_FI : ∀ (l : List (Nat × Nat × Nat)) (g : zHeap), hFI (mkRows p l g) = hFI g
  | [], g => rfl
  | q :: l, g => by
    show hFI (mkRows p l (nrow q.1 q.2.1 q.2.2 p g)) = _
    rw [mk_FI l, nrow_FI]
theorem mk_CL : ∀ (l : List (Nat × Nat × Nat)) (g : zHeap), hCL (mkRows p l g) = hCL g
  | [], g => rfl
  | q :: l, g => by
    show hCL (mkRows p l (nrow q.1 q.2.1 q.2.2 p g)) = _
    rw [mk_CL l, nrow_CL]
theorem mk_FRn (k' : Nat) : ∀ (l : List (Nat × Nat × Nat)) (g : zHeap), (∀ q ∈ l, q.2.2 ≠ k') → hFR (mkRows p l g) k' p = hFR g k' p
  | [], g, _ => rfl
  | q :: l, g, hk => by
    show hFR (mkRows p l (nrow q.1 q.2.1 q.2.2 p g)) k' p = _
    rw [mk_FRn k' l _ (fun x hx => hk x (List.mem_cons_of_mem _ hx)), nrow_FR, if_neg (fun z => hk q (List.mem_cons_self) z.1.symm)]
theorem mk_AIo (a' : Nat) : ∀ (l : List (Nat × Nat × Nat)) (g : zHeap), a' < hN g → hAI (mkRows p l g) a' = hAI g a'
  | [], g, _ => rfl
  | q :: l, g, ha => by
    show hAI (mkRows p l (nrow q.1 q.2.1 q.2.2 p g)) a' = _
    rw [mk_AIo a' l _ (by rw [nrow_N]; omega), nrow_AI, if_neg (by omega)]
theorem mk_row : ∀ (l : List (Nat × Nat × Nat)) (g : zHeap) (i t n k : Nat), (l.map (fun q => q.2.2)).Nodup → l[i]? = some (t, n, k) → hFR (mkRows p l g) k p = some (some (hN g + i)) ∧ hAI (mkRows p l g) (hN g + i) = some (t, n, fun _ => 0)
  | [], g, i, t, n, k, _, hi => by simp at hi
  | q :: l, g, 0, t, n, k, nd, hi => by
    have e : q = (t, n, k) := by simpa using hi
    subst e
    rw [List.map_cons, List.nodup_cons] at nd
    show hFR (mkRows p l (nrow t n k p g)) k p = _ ∧ hAI (mkRows p l (nrow t n k p g)) (hN g + 0) = _
    rw [mk_FRn k l _ (fun x hx hk => nd.1 (List.mem_map.2 ⟨x, hx, hk⟩)), mk_AIo _ l _ (by rw [nrow_N]; omega), nrow_FR, nrow_AI, if_pos ⟨rfl, rfl⟩, if_pos (by omega)]
    exact ⟨rfl, rfl⟩
  | q :: l, g, i + 1, t, n, k, nd, hi => by
    rw [List.map_cons, List.nodup_cons] at nd
    have r := mk_row l (nrow q.1 q.2.1 q.2.2 p g) i t n k nd.2 (by simpa using hi)
    rw [nrow_N, show hN g + 1 + i = hN g + (i + 1) by omega] at r
    exact r
theorem mk_ext (hp : hN f ≤ p) : ∀ (l : List (Nat × Nat × Nat)) (g : zHeap), ext f g → ext f (mkRows p l g)
  | [], g, e => e
  | q :: l, g, e => mk_ext hp l _ (e.row hp)
/-- an object with its rows made -/
def made (g g' : zHeap) (c : Nat) (l : List (Nat × Nat × Nat)) : Prop := ext g g' ∧ hN g' = hN g + 1 + l.length ∧ hS g' = hS g + ((zTb[c]?).getD []).length + (l.map (fun q => q.2.1)).sum ∧ hCL g' (hN g) = some c ∧ (∀ k, k / 64 = c → zfk zTb k = 1 → hFI g' k (hN g) = some 0) ∧ (∀ i t n k, l[i]? = some (t, n, k) → hFR g' k (hN g) = some (some (hN g + 1 + i)) ∧ hAI g' (hN g + 1 + i) = some (t, n, fun _ => 0))
theorem made_mk (g : zHeap) (c : Nat) (l : List (Nat × Nat × Nat)) (nd : (l.map (fun q => q.2.2)).Nodup) : made g (mkRows (hN g) l (znO zTb c g)) c l := by
  refine ⟨mk_ext (Nat.le_refl _) l _ (ext.nO g c), by rw [mk_N, nO_N], by rw [mk_S, nO_S], by rw [mk_CL, nO_CL, if_pos rfl], fun k hk hz => ?_, fun i t n k hi => ?_⟩
  · rw [mk_FI, nO_FI, if_pos ⟨rfl, hk⟩, if_pos hz]
  · have r := mk_row (p := hN g) l (znO zTb c g) i t n k nd hi
    rw [nO_N] at r
    exact r
/-- g' is g with more behind it, but for the references in p -/
def xp (p : Nat) (g g' : zHeap) : Prop := hN g ≤ hN g' ∧ (∀ k a, a < hN g → hFI g' k a = hFI g k a ∧ (a ≠ p → hFR g' k a = hFR g k a)) ∧ (∀ a, a < hN g ∨ hN g' ≤ a → hAI g' a = hAI g a) ∧ (∀ a, a < hN g → hAR g' a = hAR g a ∧ hCL g' a = hCL g a)
theorem xp.rfl : xp p g g := ⟨Nat.le_refl _, fun _ _ _ => ⟨Eq.refl _, fun _ => Eq.refl _⟩, fun _ _ => Eq.refl _, fun _ _ => ⟨Eq.refl _, Eq.refl _⟩⟩
theorem ext.xp (e : ext g g') : xp p g g' := ⟨e.1, fun k a ha => ⟨(e.2.1 k a ha).1, fun _ => (e.2.1 k a ha).2⟩, e.2.2.1, e.2.2.2⟩
theorem xp.trans {g1 g2 : zHeap} (e : xp p g g1) (f : xp p g1 g2) : xp p g g2 := by
  have h1 := e.1
  have h2 := f.1
  exact ⟨by omega, fun k a ha => ⟨(f.2.1 k a (by omega)).1.trans (e.2.1 k a ha).1, fun hp => ((f.2.1 k a (by omega)).2 hp).trans ((e.2.1 k a ha).2 hp)⟩, fun a ha => (f.2.2.1 a (by omega)).trans (e.2.2.1 a (by omega)), fun a ha => ⟨(f.2.2.2 a (by omega)).1.trans (e.2.2.2 a ha).1, (f.2.2.2 a (by omega)).2.trans (e.2.2.2 a ha).2⟩⟩
theorem xp.sR (g : zHeap) (k p : Nat) (r : Option Nat) : xp p g (zsR g k p r) := by
  refine ⟨Nat.le_refl _, fun k' a _ => ⟨by rw [sR_FI], fun hp => ?_⟩, fun a _ => by rw [sR_AI], fun a _ => ⟨by rw [sR_AR], by rw [sR_CL]⟩⟩
  rw [sR_FR, if_neg (fun z => hp z.2)]
theorem xp.row (g : zHeap) (t n k p : Nat) : xp p g (nrow t n k p g) := by
  refine ⟨by rw [nrow_N]; omega, fun k' a _ => ⟨by rw [nrow_FI], fun hp => ?_⟩, fun a ha => ?_, fun a _ => ⟨by rw [nrow_AR], by rw [nrow_CL]⟩⟩
  · rw [nrow_FR, if_neg (fun z => hp z.2)]
  · rw [nrow_N] at ha
    rw [nrow_AI, if_neg (by omega)]
theorem xp.ref (g : zHeap) (t n k p : Nat) : xp p g (nref t n k p g) := by
  refine ⟨by rw [nref_N]; omega, fun k' a _ => ⟨by rw [nref_FI], fun hp => ?_⟩, fun a ha => by rw [nref_AI], fun a ha => ⟨?_, by rw [nref_CL]⟩⟩
  · rw [nref_FR, if_neg (fun z => hp z.2)]
  · rw [nref_AR, if_neg (by omega)]
theorem itS.xp {k a : Nat} (s : itS g k a) (e : xp p g g') (ha : a < hN g) : itS g' k a := by
  unfold itS; rw [(e.2.1 k a ha).1]; exact s
theorem rwS.xp {a t n : Nat} (s : rwS g a t n) (e : xp p g g') (ha : a < hN g) : rwS g' a t n := by
  unfold rwS; rw [e.2.2.1 a (Or.inl ha)]; exact s
theorem duS.xp {a : Nat} (s : duS g a) (e : xp p g g') (ha : p < a ∧ a + 7 ≤ hN g) : duS g' a := by
  obtain ⟨s1, ⟨s2, s3, s4, s5⟩, s6, ⟨r1, r2, r3, r4, r5, r6⟩, s7⟩ := s
  have f := fun k => (e.2.1 k a (by omega)).2 (by omega)
  refine ⟨by rw [(e.2.2.2 a (by omega)).2]; exact s1, ⟨s2.xp e (by omega), s3.xp e (by omega), s4.xp e (by omega), s5.xp e (by omega)⟩, ?_, ⟨r1.xp e (by omega), r2.xp e (by omega), r3.xp e (by omega), r4.xp e (by omega), r5.xp e (by omega), r6.xp e (by omega)⟩, s7⟩
  rw [f, f, f, f, f, f]; exact s6
theorem yeS.xp {a : Nat} (s : yeS g a) (e : xp p g g') (ha : p < a ∧ a + 2 ≤ hN g) : yeS g' a := by
  obtain ⟨s1, s2, s3, s4, s5⟩ := s
  exact ⟨by rw [(e.2.2.2 a (by omega)).2]; exact s1, s2.xp e (by omega), by rw [(e.2.1 _ a (by omega)).2 (by omega)]; exact s3, s4.xp e (by omega), s5⟩
theorem loS.xp {a : Nat} (s : loS g a) (e : xp p g g') (ha : p < a ∧ a + 4 ≤ hN g) : loS g' a := by
  obtain ⟨s1, s2, s3, ⟨r1, r2, r3⟩, s5⟩ := s
  have f := fun k => (e.2.1 k a (by omega)).2 (by omega)
  refine ⟨by rw [(e.2.2.2 a (by omega)).2]; exact s1, s2.xp e (by omega), ?_, ⟨r1.xp e (by omega), r2.xp e (by omega), r3.xp e (by omega)⟩, s5⟩
  rw [f, f, f]; exact s3
theorem taS.xp {a : Nat} (s : taS g a) (e : xp p g g') (ha : p < a ∧ a + 2 ≤ hN g) : taS g' a := by
  obtain ⟨s1, s2, s3, s4, s5⟩ := s
  exact ⟨by rw [(e.2.2.2 a (by omega)).2]; exact s1, by rw [(e.2.1 _ a (by omega)).2 (by omega)]; exact s2, s3.xp e (by omega), s4.xp e (by omega), s5⟩
theorem toS.xp {a : Nat} (s : toS g a) (e : xp p g g') (ha : p < a ∧ a + 33 ≤ hN g) : toS g' a := by
  obtain ⟨s1, s2, ⟨s3, s4⟩, s5, s6, s7, s8, s9, ⟨d1, d2, d3⟩, ⟨d4, d5, d6⟩, s10⟩ := s
  have f := fun k => (e.2.1 k a (by omega)).2 (by omega)
  have r := fun x (hx : x < hN g) => (e.2.2.2 x hx).1
  refine ⟨by rw [(e.2.2.2 a (by omega)).2]; exact s1, ?_, ⟨s3.xp e (by omega), s4.xp e (by omega)⟩, s5.xp e (by omega), s6.xp e (by omega), ?_, ?_, ?_, ⟨d1.xp e (by omega), d2.xp e (by omega), d3.xp e (by omega)⟩, ⟨d4.xp e (by omega), d5.xp e (by omega), d6.xp e (by omega)⟩, s10⟩
  · rw [f, f, f, f, f]; exact s2
  · rw [r _ (by omega)]; exact s7
  · rw [r _ (by omega)]; exact s8
  · rw [r _ (by omega)]; exact s9
theorem made.fin {c n : Nat} {l : List (Nat × Nat × Nat)} (M : made g g' c l) (X : xp 0 g' f) (hn : hN g = n) (n0 : 0 < n) : hCL f n = some c ∧ (∀ k, k / 64 = c → zfk zTb k = 1 → hFI f k n = some 0) ∧ (∀ i t m k, l[i]? = some (t, m, k) → hFR f k n = some (some (n + 1 + i)) ∧ hAI f (n + 1 + i) = some (t, m, fun _ => 0)) := by
  subst hn
  obtain ⟨M1, M2, M3, M4, M5, M6⟩ := M
  refine ⟨by rw [(X.2.2.2 _ (by omega)).2]; exact M4, fun k hk hz => by rw [(X.2.1 k _ (by omega)).1]; exact M5 k hk hz, fun i t m k hi => ?_⟩
  have hl : i < l.length := by
    have := List.getElem?_eq_some_iff.1 hi
    exact this.1
  rw [(X.2.1 k _ (by omega)).2 (by omega), X.2.2.1 _ (Or.inl (by omega))]
  exact M6 i t m k hi
theorem sR_own (h : zHeap) (k p : Nat) (r : Option Nat) (k' : Nat) : hFR (zsR h k p r) k' p = if k' = k then some r else hFR h k' p := by
  rw [sR_FR]
  by_cases c : k' = k
  · rw [if_pos ⟨c, rfl⟩, if_pos c]
  · rw [if_neg (fun z => c z.1), if_neg c]
theorem nO_own (g : zHeap) {c k : Nat} (hk : k / 64 = c) (hz : zfk zTb k = 2) : hFR (znO zTb c g) k (hN g) = some none := by
  rw [nO_FR, if_pos ⟨rfl, hk⟩, if_pos hz]
theorem nrow_own (t n k p : Nat) (g : zHeap) (k' : Nat) : hFR (nrow t n k p g) k' p = if k' = k then some (some (hN g)) else hFR g k' p := sR_own _ _ _ _ _
theorem nref_own (t n k p : Nat) (g : zHeap) (k' : Nat) : hFR (nref t n k p g) k' p = if k' = k then some (some (hN g)) else hFR g k' p := sR_own _ _ _ _ _
end CQ
section CI
theorem zl_5 : zlen (i32 5) = some 5 := by decide
theorem zl_800 : zlen (i32 800) = some 800 := by decide
theorem zl_576 : zlen (i32 576) = some 576 := by decide
theorem zl_256 : zlen (i32 256) = some 256 := by decide
theorem zl_80 : zlen (i32 80) = some 80 := by decide
theorem zl_9 : zlen (i32 9) = some 9 := by decide
theorem zl_4920 : zlen (i32 4920) = some 4920 := by decide
theorem zl_241 : zlen (i32 241) = some 241 := by decide
theorem zf_66 : zfk zTb 66 = 2 := by decide
theorem zf_67 : zfk zTb 67 = 2 := by decide
theorem zf_68 : zfk zTb 68 = 2 := by decide
theorem zf_69 : zfk zTb 69 = 2 := by decide
theorem zf_70 : zfk zTb 70 = 2 := by decide
theorem zf_71 : zfk zTb 71 = 2 := by decide
theorem zf_1 : zfk zTb 1 = 2 := by decide
theorem zf_2 : zfk zTb 2 = 2 := by decide
theorem zf_256 : zfk zTb 256 = 2 := by decide
theorem zf_257 : zfk zTb 257 = 2 := by decide
theorem zf_258 : zfk zTb 258 = 2 := by decide
theorem zf_259 : zfk zTb 259 = 2 := by decide
theorem zf_449 : zfk zTb 449 = 2 := by decide
theorem zf_450 : zfk zTb 450 = 2 := by decide
theorem zf_384 : zfk zTb 384 = 2 := by decide
theorem zf_385 : zfk zTb 385 = 2 := by decide
theorem zf_386 : zfk zTb 386 = 2 := by decide
theorem zf_768 : zfk zTb 768 = 2 := by decide
theorem zf_769 : zfk zTb 769 = 2 := by decide
theorem zf_777 : zfk zTb 777 = 2 := by decide
theorem zf_785 : zfk zTb 785 = 2 := by decide
theorem zf_786 : zfk zTb 786 = 2 := by decide
theorem zf_787 : zfk zTb 787 = 2 := by decide
theorem zf_789 : zfk zTb 789 = 2 := by decide
theorem zf_790 : zfk zTb 790 = 2 := by decide
theorem zf_791 : zfk zTb 791 = 2 := by decide
theorem zf_802 : zfk zTb 802 = 2 := by decide
theorem zf_803 : zfk zTb 803 = 2 := by decide
theorem zf_804 : zfk zTb 804 = 2 := by decide
theorem zf_805 : zfk zTb 805 = 2 := by decide
theorem zf_806 : zfk zTb 806 = 2 := by decide
theorem zf_807 : zfk zTb 807 = 2 := by decide
theorem zf_809 : zfk zTb 809 = 2 := by decide
def lCo : List (Nat × Nat × Nat) := [(0, 6, 66), (0, 6, 67), (0, 4, 68), (0, 4, 69), (0, 8, 70), (0, 8, 71)]
theorem i_Course (g : zHeap) : zv 1 11 [zR (some (hN g))] (znO zTb 1 g) = some (zI 0, mkRows (hN g) lCo (znO zTb 1 g)) := by
  rw [zv_s (by rw [nO_CL, if_pos rfl]), e_Course_init]
  simp [zl_2, zl_3, zl_4, zl_5, zl_6, zl_8, zl_9, zl_80, zl_241, zl_256, zl_576, zl_800, zl_4920, zoN_s, zoH_s, nrow_p, nrow_FR, nO_FR, zf_66, zf_67, zf_68, zf_69, zf_70, zf_71, mkRows, lCo]
def lAc : List (Nat × Nat × Nat) := [(0, 800, 1), (0, 800, 2)]
theorem i_Acts (g : zHeap) : zv 0 0 [zR (some (hN g))] (znO zTb 0 g) = some (zI 0, mkRows (hN g) lAc (znO zTb 0 g)) := by
  rw [zv_s (by rw [nO_CL, if_pos rfl]), e_Acts_init]
  simp [zl_2, zl_3, zl_4, zl_5, zl_6, zl_8, zl_9, zl_80, zl_241, zl_256, zl_576, zl_800, zl_4920, zoN_s, zoH_s, nrow_p, nrow_FR, nO_FR, zf_1, zf_2, mkRows, lAc]
def lPl : List (Nat × Nat × Nat) := [(0, 576, 256), (0, 8, 257), (0, 256, 258), (0, 8, 259)]
theorem i_Plans (g : zHeap) : zv 4 56 [zR (some (hN g))] (znO zTb 4 g) = some (zI 0, mkRows (hN g) lPl (znO zTb 4 g)) := by
  rw [zv_s (by rw [nO_CL, if_pos rfl]), e_Plans_init]
  simp [zl_2, zl_3, zl_4, zl_5, zl_6, zl_8, zl_9, zl_80, zl_241, zl_256, zl_576, zl_800, zl_4920, zoN_s, zoH_s, nrow_p, nrow_FR, nO_FR, zf_256, zf_257, zf_258, zf_259, mkRows, lPl]
def lSu : List (Nat × Nat × Nat) := [(0, 80, 449), (0, 9, 450)]
theorem i_Suspects (g : zHeap) : zv 7 123 [zR (some (hN g))] (znO zTb 7 g) = some (zI 0, mkRows (hN g) lSu (znO zTb 7 g)) := by
  rw [zv_s (by rw [nO_CL, if_pos rfl]), e_Suspects_init]
  simp [zl_2, zl_3, zl_4, zl_5, zl_6, zl_8, zl_9, zl_80, zl_241, zl_256, zl_576, zl_800, zl_4920, zoN_s, zoH_s, nrow_p, nrow_FR, nO_FR, zf_449, zf_450, mkRows, lSu]
def lSy : List (Nat × Nat × Nat) := [(0, 8, 384), (0, 4, 385), (0, 6, 386)]
theorem i_Survey (g : zHeap) : zv 6 92 [zR (some (hN g))] (znO zTb 6 g) = some (zI 0, mkRows (hN g) lSy (znO zTb 6 g)) := by
  rw [zv_s (by rw [nO_CL, if_pos rfl]), e_Survey_init]
  simp [zl_2, zl_3, zl_4, zl_5, zl_6, zl_8, zl_9, zl_80, zl_241, zl_256, zl_576, zl_800, zl_4920, zoN_s, zoH_s, nrow_p, nrow_FR, nO_FR, zf_384, zf_385, zf_386, mkRows, lSy]
def lMo : List (Nat × Nat × Nat) := [(0, 4920, 768), (2, 3, 769), (0, 241, 777), (0, 800, 785), (0, 576, 786), (0, 256, 787), (0, 256, 789), (0, 6, 790), (0, 4, 791), (0, 6, 802), (0, 6, 803), (0, 4, 804), (0, 8, 805), (0, 8, 806), (0, 8, 807), (0, 9, 809)]
theorem i_Model (g : zHeap) : zv 12 199 [zR (some (hN g))] (znO zTb 12 g) = zoH (zaS (mkRows (hN g) lMo (znO zTb 12 g)) (some (hN g + 1)) (i32 6) (i32 (-1))) fun h => some (zI 0, h) := by
  have r := ((made_mk g 12 lMo (by decide)).2.2.2.2.2 0 0 4920 768 rfl).1
  have r1 : zgR (mkRows (hN g) lMo (znO zTb 12 g)) (some (hN g)) 768 = some (some (hN g + 1)) := r
  simp only [mkRows, lMo] at r1
  rw [zv_s (by rw [nO_CL, if_pos rfl]), e_Model_init]
  simp [zl_2, zl_3, zl_4, zl_5, zl_6, zl_8, zl_9, zl_80, zl_241, zl_256, zl_576, zl_800, zl_4920, zoN_s, zoH_s, zoR_s, nrow_p, nrow_FR, nO_FR, zf_768, zf_769, zf_777, zf_785, zf_786, zf_787, zf_789, zf_790, zf_791, zf_802, zf_803, zf_804, zf_805, zf_806, zf_807, zf_809, mkRows, lMo, r1]
end CI
