/-! feed and end, both -/
section JN
variable {h : zHeap} {F F' : Nat → Nat → Int} {C C' : Nat → Int → Int} {a b : Nat} {A A' D D' : Int → Int} {L : Nat} {xs : Nat → Int32}
theorem toV.tp (V : toV F C b A) (O : aOK A) (eF : ∀ k x, b + 7 ≤ x → x < b + 33 → F' k x = F k x) (eC : ∀ x, b + 3 ≤ x → x < b + 33 → C' x = C x) (eA : ∀ j, (0 ≤ j ∧ j < 3) ∨ (610 ≤ j ∧ j < 1230) → A' j = A j) (t1 : F' 581 b = A' 5 ∧ F' 582 b = A' 6 ∧ F' 513 (b + 1) = A' 4) (t2 : ∀ i, 0 ≤ i → i < A' 4 → C' (b + 2) i = sgn (A' (10 + i))) : toV F' C' b A' := by
  obtain ⟨⟨o0, o1, o2⟩, o4, o5, o6, o7, o8, o9⟩ := O
  obtain ⟨⟨v1, v2, v3⟩, v4, v5, v6, v7, v8⟩ := V
  have e0 := eA 0 (by omega)
  have e1 := eA 1 (by omega)
  have e2 := eA 2 (by omega)
  refine ⟨t1, t2, fun i h0 h1 => ?_, fun d hd => ?_, fun d hd => ?_, fun d hd => ?_⟩
  · rw [eA i (by omega), eC (b + 3) (by omega) (by omega)]; exact v5 i h0 h1
  · rw [e0] at hd; exact ((v6 d hd).same (fun k => eF k _ (by omega) (by omega)) (fun j _ _ => eC _ (by omega) (by omega))).cg (o6 d (by omega) hd) (fun j j0 j1 => eA _ (by omega))
  · rw [e1] at hd; exact ((v7 d hd).same (fun k => eF k _ (by omega) (by omega)) (eC _ (by omega) (by omega))).cg (o7 d (by omega) hd) (fun j j0 j1 => eA _ (by omega))
  · rw [e2] at hd; exact ((v8 d hd).same (fun k => eF k _ (by omega) (by omega)) (fun j _ _ => eC _ (by omega) (by omega))).cg (o8 d (by omega) hd) (fun j j0 j1 => eA _ (by omega))
theorem aOK.tp (O : aOK A) (eA : ∀ j, (0 ≤ j ∧ j < 3) ∨ (610 ≤ j ∧ j < 1230) → A' j = A j) (t1 : 0 ≤ A' 4 ∧ A' 4 ≤ 600) (t2 : ∀ i, 0 ≤ i → i < A' 4 → 0 ≤ A' (10 + i) ∧ A' (10 + i) ≤ 255) (t3 : (0 ≤ A' 5 ∧ A' 5 ≤ 3) ∧ -1 ≤ A' 6 ∧ A' 6 ≤ 600) : aOK A' := by
  obtain ⟨⟨o0, o1, o2⟩, o4, o5, o6, o7, o8, o9⟩ := O
  have e0 := eA 0 (by omega)
  have e1 := eA 1 (by omega)
  have e2 := eA 2 (by omega)
  refine ⟨⟨by rw [e0]; exact o0, by rw [e1]; exact o1, by rw [e2]; exact o2⟩, t1, t2, fun d h0 h1 => ?_, fun d h0 h1 => ?_, fun d h0 h1 => ?_, t3⟩
  · rw [e0] at h1; exact (o6 d h0 h1).cg (fun j j0 j1 => eA _ (by omega))
  · rw [e1] at h1; exact (o7 d h0 h1).cg (fun j j0 j1 => eA _ (by omega))
  · rw [e2] at h1; exact (o8 d h0 h1).cg (fun j j0 j1 => eA _ (by omega))
theorem wOK.nw (W : wOK L xs h F C) (V : toV F' C' 1 (C' 73)) (O : aOK (C' 73)) (sz : szP F' 1) (e : ∀ x, 89 ≤ x → (∀ k, F' k x = F k x) ∧ C' x = C x) (e74 : C' 74 = C 74) (e73 : ∀ j, 1230 ≤ j → j < 4920 → C' 73 j = C 73 j) : wOK L xs h F' C' := by
  obtain ⟨Q, kn, sz0, sc, p, p1, p2, p3, p4, p5⟩ := W
  exact ⟨⟨Q.1, V, O⟩, kn, sz, sc, p, p1, p2.fr e e74 e73, p3, p4, p5⟩
/-- all of what is told but the tape stays -/
theorem wOK.tp (W : wOK L xs h F C) (eF : ∀ k x, (8 ≤ x ∧ x < 34) ∨ 89 ≤ x → F' k x = F k x) (eC : ∀ x, (4 ≤ x ∧ x < 34) ∨ x = 74 ∨ 89 ≤ x → C' x = C x) (eA : ∀ j, (0 ≤ j ∧ j < 3) ∨ (610 ≤ j ∧ j < 4920) → C' 73 j = C 73 j) (t1 : F' 581 1 = C' 73 5 ∧ F' 582 1 = C' 73 6 ∧ F' 513 2 = C' 73 4) (t2 : ∀ i, 0 ≤ i → i < C' 73 4 → C' 3 i = sgn (C' 73 (10 + i))) (t3 : 0 ≤ C' 73 4 ∧ C' 73 4 ≤ 600) (t4 : ∀ i, 0 ≤ i → i < C' 73 4 → 0 ≤ C' 73 (10 + i) ∧ C' 73 (10 + i) ≤ 255) (t5 : (0 ≤ C' 73 5 ∧ C' 73 5 ≤ 3) ∧ -1 ≤ C' 73 6 ∧ C' 73 6 ≤ 600) : wOK L xs h F' C' := by
  have Q := W.1
  have sz := W.2.2.1
  refine W.nw (Q.2.1.tp Q.2.2 (fun k x _ _ => eF k x (by omega)) (fun x _ _ => eC x (by omega)) (fun j hj => eA j (by omega)) t1 t2) (Q.2.2.tp (fun j hj => eA j (by omega)) t3 t4 t5) (fun y hy => ?_) (fun x hx => ⟨fun k => eF k x (by omega), eC x (by omega)⟩) (eC 74 (by omega)) (fun j _ _ => eA j (by omega))
  rw [eF _ _ (by omega), eF _ _ (by omega)]; exact sz y hy
theorem fdb_rng (a b c d e i : Int) : 0 ≤ fdb a b c d e i ∧ fdb a b c d e i ≤ 255 := byt_rng _ _
theorem j_feed {a b c d e : Int} (ha : inI a) (hb : inI b) (hc : inI c) (hd : inI d) (he : inI e) : jnt 150 201 [zI (i32 a), zI (i32 b), zI (i32 c), zI (i32 d), zI (i32 e)] := by
  intro L xs h F C W
  have Q := W.1
  have S := Q.1
  have o4 := Q.2.2.2.1
  have v := Q.2.1.1.2.2
  by_cases c5 : C 73 4 ≤ 580
  · refine ⟨C 73 4 + 20, _, h, zsF F 513 2 (C 73 4 + 20), _, c_feed S v o4.1 c5 ha hb hc hd he, m_feed (n := C 73 4) S rfl o4.1 c5 ha hb hc hd he, zw_is, ?_⟩
    have r73 : zsW C 3 (fdC (C 3) (C 73 4) a b c d e) 73 = C 73 := zsW_a (by omega)
    rw [r73]
    refine W.tp (fun k x hx => zsF_a (by omega)) (fun x hx => by rw [zsW_a (by omega), zsW_a (by omega)]) (fun j hj => ?_) ?_ ?_ ?_ ?_ ?_
    · rw [zsW_s]; unfold fdM; rw [if_neg (by omega), if_neg (by omega)]
    · rw [zsW_s]; unfold fdM
      rw [if_neg (by omega), if_neg (by omega), if_neg (by omega), if_neg (by omega), if_pos rfl, zsF_s, zsF_k (by omega), zsF_k (by omega)]
      exact ⟨Q.2.1.1.1, Q.2.1.1.2.1, rfl⟩
    · intro i i0 i1
      rw [zsW_s] at i1 ⊢
      rw [zsW_a (by omega), zsW_s]
      unfold fdM at i1 ⊢
      rw [if_pos rfl] at i1
      rw [if_neg (by omega)]
      unfold fdC
      by_cases ci : C 73 4 ≤ i
      · rw [if_pos (by omega), if_pos (by omega), show 10 + i - 10 - C 73 4 = i - C 73 4 by omega]
      · rw [if_neg (by omega), if_neg (by omega)]
        exact Q.2.1.2.1 i i0 (by omega)
    · rw [zsW_s]; unfold fdM; rw [if_pos rfl]; omega
    · intro i i0 i1
      rw [zsW_s] at i1 ⊢
      unfold fdM at i1 ⊢
      rw [if_pos rfl] at i1
      rw [if_neg (by omega)]
      by_cases ci : C 73 4 ≤ i
      · rw [if_pos (by omega)]; exact fdb_rng _ _ _ _ _ _
      · rw [if_neg (by omega)]; exact Q.2.2.2.2.1 i i0 (by omega)
    · rw [zsW_s]; unfold fdM
      rw [if_neg (by omega), if_neg (by omega), if_neg (by omega), if_neg (by omega)]
      exact Q.2.2.2.2.2.2.2.2
  · exact ⟨-1, _, h, F, C, c_feed0 S v (by omega) o4.2, m_feed0 S rfl (by omega) o4.2, zw_is, W⟩
theorem j_end {x : Int} (hx : inI x) : jnt 151 202 [zI (i32 x)] := by
  intro L xs h F C W
  have Q := W.1
  have S := Q.1
  have o4 := Q.2.2.2.1
  have v := Q.2.1.1.2.2
  by_cases c5 : 0 ≤ x ∧ x ≤ C 73 4
  · refine ⟨x, _, h, zsF F 513 2 x, _, c_end S v c5.1 c5.2 o4.2, m_end (n := C 73 4) S rfl c5.1 c5.2 o4.2, zw_is, ?_⟩
    refine W.tp (fun k x hx => zsF_a (by omega)) (fun x hx => by rw [zsW_a (by omega)]) (fun j hj => ?_) ?_ ?_ ?_ ?_ ?_
    · rw [zsW_s, up1_n (by omega)]
    · rw [zsW_s, up1_n (by omega), up1_n (by omega), up1_s, zsF_s, zsF_k (by omega), zsF_k (by omega)]
      exact ⟨Q.2.1.1.1, Q.2.1.1.2.1, rfl⟩
    · intro i i0 i1
      rw [zsW_s, up1_s] at i1
      rw [zsW_s, zsW_a (by omega), up1_n (by omega)]
      exact Q.2.1.2.1 i i0 (by omega)
    · rw [zsW_s, up1_s]; omega
    · intro i i0 i1
      rw [zsW_s, up1_s] at i1
      rw [zsW_s, up1_n (by omega)]
      exact Q.2.2.2.2.1 i i0 (by omega)
    · rw [zsW_s, up1_n (by omega), up1_n (by omega)]
      exact Q.2.2.2.2.2.2.2.2
  · exact ⟨-1, _, h, F, C, c_end0 S v hx o4.1 o4.2 c5, m_end0 S rfl hx o4.1 o4.2 c5, zw_is, W⟩
end JN
