/-! a heap with more behind it, seen as a world again -/
section XW
variable {g g' h : zHeap} {F : Nat → Nat → Int} {C : Nat → Int → Int} {a : Nat}
def exF (h : zHeap) (F : Nat → Nat → Int) (g : zHeap) : Nat → Nat → Int := fun k a => if a < hN h then F k a else ((hFI g k a).getD 0).toInt
def exC (h : zHeap) (C : Nat → Int → Int) (g : zHeap) : Nat → Int → Int := fun a j => if a < hN h then C a j else match hAI g a with
  | some (_, _, f) => (f j.toNat).toInt
  | none => 0
theorem i32_tI (x : Int32) : i32 x.toInt = x := Int32.ofInt_toInt x
theorem zw_ext (E : ext (zw h F C) g) : g = zw g (exF h F g) (exC h C g) := by
  refine Prod.ext ?_ (Prod.ext rfl (Prod.ext ?_ rfl))
  · funext k a
    show hFI g k a = (hFI g k a).map (fun _ => i32 (exF h F g k a))
    unfold exF
    by_cases c : a < hN h
    · rw [if_pos c, (E.2.1 k a c).1]
      show (hFI h k a).map _ = ((hFI h k a).map _).map _
      cases hFI h k a <;> rfl
    · rw [if_neg c]
      cases hFI g k a with
      | none => rfl
      | some x =>
        show some x = some (i32 x.toInt)
        rw [i32_tI]
  · funext a
    show hAI g a = if a < zK0 then (hAI g a).map (fun q => (q.1, q.2.1, fun (j : Nat) => i32 (exC h C g a (j : Int)))) else hAI g a
    by_cases z : a < zK0
    · rw [if_pos z]
      unfold exC
      by_cases c : a < hN h
      · have e : hAI g a = (if a < zK0 then (hAI h a).map (fun q => (q.1, q.2.1, fun (j : Nat) => i32 (C a (j : Int)))) else hAI h a) := E.2.2.1 a (Or.inl c)
        rw [if_pos z] at e
        simp only [if_pos c]
        rw [e]
        cases hAI h a <;> rfl
      · simp only [if_neg c]
        cases hq : hAI g a with
        | none => rfl
        | some q =>
          obtain ⟨t, n, f⟩ := q
          show some (t, n, f) = some (t, n, fun (j : Nat) => i32 ((f ((j : Int).toNat)).toInt))
          simp only [i32_tI, Int.toNat_natCast]
    · rw [if_neg z]
theorem itS.zw {k : Nat} (s : itS h k a) : itS (zw h F C) k a := by
  obtain ⟨y, hy⟩ := s
  exact ⟨i32 (F k a), by show (hFI h k a).map _ = _; rw [hy]; rfl⟩
theorem rwS.zw {t n : Nat} (s : rwS h a t n) (ha : a < zK0) : rwS (zw h F C) a t n := ⟨_, zw_AI s ha⟩
theorem duS.zw (s : duS h a) : duS (zw h F C) a := by
  obtain ⟨s1, ⟨s2, s3, s4, s5⟩, s6, ⟨r1, r2, r3, r4, r5, r6⟩, s7⟩ := s
  exact ⟨s1, ⟨s2.zw, s3.zw, s4.zw, s5.zw⟩, s6, ⟨r1.zw (by omega), r2.zw (by omega), r3.zw (by omega), r4.zw (by omega), r5.zw (by omega), r6.zw (by omega)⟩, s7⟩
theorem yeS.zw (s : yeS h a) : yeS (zw h F C) a := ⟨s.1, s.2.1.zw, s.2.2.1, s.2.2.2.1.zw s.2.2.2.2, s.2.2.2.2⟩
theorem loS.zw (s : loS h a) : loS (zw h F C) a := by
  obtain ⟨s1, s2, s3, ⟨r1, r2, r3⟩, s5⟩ := s
  exact ⟨s1, s2.zw, s3, ⟨r1.zw (by omega), r2.zw (by omega), r3.zw (by omega)⟩, s5⟩
theorem taS.zw (s : taS h a) : taS (zw h F C) a := ⟨s.1, s.2.1, s.2.2.1.zw, s.2.2.2.1.zw s.2.2.2.2, s.2.2.2.2⟩
theorem toS.zw (s : toS h a) : toS (zw h F C) a := by
  obtain ⟨s1, s2, ⟨s3, s4⟩, s5, s6, s7, s8, s9, ⟨d1, d2, d3⟩, ⟨d4, d5, d6⟩, s10⟩ := s
  exact ⟨s1, s2, ⟨s3.zw, s4.zw⟩, s5.zw, s6.zw (by omega), s7, s8, s9, ⟨d1.zw, d2.zw, d3.zw⟩, ⟨d4.zw, d5.zw, d6.zw⟩, s10⟩
theorem toS.ext (s : toS g a) (e : ext g g') (ha : a + 33 ≤ hN g) : toS g' a := by
  obtain ⟨s1, s2, ⟨s3, s4⟩, s5, s6, s7, s8, s9, ⟨d1, d2, d3⟩, ⟨d4, d5, d6⟩, s10⟩ := s
  have f := fun k => (e.2.1 k a (by omega)).2
  have r := fun x (hx : x < hN g) => (e.2.2.2 x hx).1
  refine ⟨by rw [(e.2.2.2 a (by omega)).2]; exact s1, ?_, ⟨s3.ext e (by omega), s4.ext e (by omega)⟩, s5.ext e (by omega), s6.ext e (by omega), ?_, ?_, ?_, ⟨d1.ext e (by omega), d2.ext e (by omega), d3.ext e (by omega)⟩, ⟨d4.ext e (by omega), d5.ext e (by omega), d6.ext e (by omega)⟩, s10⟩
  · rw [f, f, f, f, f]; exact s2
  · rw [r _ (by omega)]; exact s7
  · rw [r _ (by omega)]; exact s8
  · rw [r _ (by omega)]; exact s9
theorem toS.sQ {b t n : Nat} {f : Nat → Option Nat} (s : toS h a) (hb : b < a ∨ a + 33 ≤ b) : toS (zsQ h b t n f) a := by
  obtain ⟨s1, s2, s3, s5, s6, s7, s8, s9, d1, d4, s10⟩ := s
  have r : ∀ x, x ≠ b → hAR (zsQ h b t n f) x = hAR h x := fun x hx => if_neg hx
  refine ⟨s1, s2, s3, s5, s6, ?_, ?_, ?_, d1, d4, s10⟩
  · rw [r _ (by omega)]; exact s7
  · rw [r _ (by omega)]; exact s8
  · rw [r _ (by omega)]; exact s9
theorem St.zw (S : St h) : St (zw h F C) := by
  obtain ⟨s1, s2, s3, s4, s5, s6, s7, s8, s9⟩ := S
  have l4 : ∀ q ∈ wRW, q.1 < 89 := by decide
  exact ⟨s1, s2, fun q hq => (s3 q hq).zw, fun q hq => (s4 q hq).zw (Nat.lt_trans (l4 q hq) (by unfold zK0; omega)), s5.zw (by unfold zK0; omega), s6.zw, s7.zw, s8.zw, s9.zw⟩
theorem St.ext (S : St g) (e : ext g g') (hn : 89 ≤ hN g) : St g' := by
  obtain ⟨s1, s2, s3, s4, s5, s6, s7, s8, s9⟩ := S
  have l1 : ∀ q ∈ wCL, q.1 < 89 := by decide
  have l2 : ∀ q ∈ wRF, q.2.1 < 89 := by decide
  have l3 : ∀ q ∈ wIT, q.2 < 89 := by decide
  have l4 : ∀ q ∈ wRW, q.1 < 89 := by decide
  refine ⟨fun q hq => ?_, fun q hq => ?_, fun q hq => (s3 q hq).ext e (Nat.lt_of_lt_of_le (l3 q hq) hn), fun q hq => (s4 q hq).ext e (Nat.lt_of_lt_of_le (l4 q hq) hn), s5.ext e (by omega), s6.ext e (by omega), s7.ext e (by omega), s8.ext e (by omega), s9.ext e (by omega)⟩
  · rw [(e.2.2.2 q.1 (Nat.lt_of_lt_of_le (l1 q hq) hn)).2]; exact s1 q hq
  · rw [(e.2.1 q.1 q.2.1 (Nat.lt_of_lt_of_le (l2 q hq) hn)).2]; exact s2 q hq
theorem St.sQ {t n : Nat} {f : Nat → Option Nat} (S : St h) : St (zsQ h 34 t n f) := by
  obtain ⟨s1, s2, s3, s4, s5, s6, s7⟩ := S
  exact ⟨s1, s2, s3, s4, s5, s6.sQ (by omega), s7⟩
end XW
