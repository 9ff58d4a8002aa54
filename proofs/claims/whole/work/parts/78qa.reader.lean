/-! the reader made -/
section CR
theorem i_Reader (g : zHeap) (t : Nat) (hb : hN g + 60 < zK0) : ∃ g', zv 5 74 [zR (some (hN g)), zR (some t)] (znO zTb 5 g) = some (zI 0, g') ∧ ext g g' ∧ hN g' = hN g + 15 ∧ hS g' = hS g + 336 ∧ hCL g' (hN g) = some 5 ∧ (hFR g' 320 (hN g) = some (some (hN g + 1)) ∧ hFR g' 321 (hN g) = some (some (hN g + 8)) ∧ hFR g' 322 (hN g) = some (some (hN g + 10)) ∧ hFR g' 325 (hN g) = some (some t) ∧ hFR g' 326 (hN g) = some (some (hN g + 14))) ∧ (∀ k, k / 64 = 5 → zfk zTb k = 1 → hFI g' k (hN g) = some 0) ∧ (duS g' (hN g + 1) ∧ yeS g' (hN g + 8) ∧ loS g' (hN g + 10)) ∧ rwS g' (hN g + 14) 0 5 := by
  have O := fun k (hk : k / 64 = 5) (hz : zfk zTb k = 2) => nO_own g hk hz
  obtain ⟨g1, q1⟩ : ∃ y, y = zsR (znO zTb 5 g) 325 (hN g) (some t) := ⟨_, rfl⟩
  have n1 : hN g1 = hN g + 1 := by rw [q1, sR_N, nO_N]
  have s1 : hS g1 = hS g + 11 := by rw [q1, sR_S, nO_S]; rfl
  have f1 : ∀ k, hFR g1 k (hN g) = if k = 325 then some (some t) else hFR (znO zTb 5 g) k (hN g) := fun k => by rw [q1, sR_own]
  have i1 : ∀ k, hFI g1 k (hN g) = hFI (znO zTb 5 g) k (hN g) := fun k => by rw [q1, sR_FI]
  have c1 : hCL g1 (hN g) = some 5 := by rw [q1, sR_CL, nO_CL, if_pos rfl]
  have p1 : zpR (znO zTb 5 g) (some (hN g)) 325 (some t) = some g1 := by rw [q1]; exact zpR_s _ (O 325 rfl (by decide))
  have E1 : ext g g1 := by rw [q1]; exact (ext.nO g 5).sR (Nat.le_refl _)
  obtain ⟨g2, e2, x2, n2, s2, D2⟩ := i_Duchy g1 (by omega)
  have f2 : ∀ k, hFR g2 k (hN g) = hFR g1 k (hN g) := fun k => (x2.2.1 k (hN g) (by omega)).2
  obtain ⟨g3, q3⟩ : ∃ y, y = zsR g2 320 (hN g) (some (hN g1)) := ⟨_, rfl⟩
  have p3 : zpR g2 (some (hN g)) 320 (some (hN g1)) = some g3 := by rw [q3]; exact zpR_s (y := none) _ (by rw [f2, f1, if_neg (by omega)]; exact O 320 rfl (by decide))
  have n3 : hN g3 = hN g2 := by rw [q3, sR_N]
  have s3 : hS g3 = hS g2 := by rw [q3, sR_S]
  have f3 : ∀ k, hFR g3 k (hN g) = if k = 320 then some (some (hN g1)) else hFR g2 k (hN g) := fun k => by rw [q3, sR_own]
  have Y3 : xp (hN g) g2 g3 := by rw [q3]; exact xp.sR _ _ _ _
  have X3 : xp (hN g) g1 g3 := x2.xp.trans Y3
  have E3 : ext g g3 := by rw [q3]; exact (E1.trans x2).sR (by omega)
  obtain ⟨g4, e4, x4, n4, s4, D4, D4'⟩ := i_Year g3 (by omega)
  have f4 : ∀ k, hFR g4 k (hN g) = hFR g3 k (hN g) := fun k => (x4.2.1 k (hN g) (by omega)).2
  obtain ⟨g5, q5⟩ : ∃ y, y = zsR g4 321 (hN g) (some (hN g3)) := ⟨_, rfl⟩
  have p5 : zpR g4 (some (hN g)) 321 (some (hN g3)) = some g5 := by rw [q5]; exact zpR_s (y := none) _ (by rw [f4, f3, if_neg (by omega), f2, f1, if_neg (by omega)]; exact O 321 rfl (by decide))
  have n5 : hN g5 = hN g4 := by rw [q5, sR_N]
  have s5 : hS g5 = hS g4 := by rw [q5, sR_S]
  have f5 : ∀ k, hFR g5 k (hN g) = if k = 321 then some (some (hN g3)) else hFR g4 k (hN g) := fun k => by rw [q5, sR_own]
  have Y5 : xp (hN g) g4 g5 := by rw [q5]; exact xp.sR _ _ _ _
  have X5 : xp (hN g) g3 g5 := x4.xp.trans Y5
  have E5 : ext g g5 := by rw [q5]; exact (E3.trans x4).sR (by omega)
  obtain ⟨g6, e6, x6, n6, s6, D6, D6'⟩ := i_Log g5 (by omega)
  have f6 : ∀ k, hFR g6 k (hN g) = hFR g5 k (hN g) := fun k => (x6.2.1 k (hN g) (by omega)).2
  obtain ⟨g7, q7⟩ : ∃ y, y = zsR g6 322 (hN g) (some (hN g5)) := ⟨_, rfl⟩
  have p7 : zpR g6 (some (hN g)) 322 (some (hN g5)) = some g7 := by rw [q7]; exact zpR_s (y := none) _ (by rw [f6, f5, if_neg (by omega), f4, f3, if_neg (by omega), f2, f1, if_neg (by omega)]; exact O 322 rfl (by decide))
  have n7 : hN g7 = hN g6 := by rw [q7, sR_N]
  have s7 : hS g7 = hS g6 := by rw [q7, sR_S]
  have f7 : ∀ k, hFR g7 k (hN g) = if k = 322 then some (some (hN g5)) else hFR g6 k (hN g) := fun k => by rw [q7, sR_own]
  have Y7 : xp (hN g) g6 g7 := by rw [q7]; exact xp.sR _ _ _ _
  have X7 : xp (hN g) g5 g7 := x6.xp.trans Y7
  have E7 : ext g g7 := by rw [q7]; exact (E5.trans x6).sR (by omega)
  obtain ⟨g8, q8⟩ : ∃ y, y = nrow 0 5 326 (hN g) g7 := ⟨_, rfl⟩
  have p8 : zpR (znA 0 5 g7) (some (hN g)) 326 (some (hN g7)) = some g8 := by rw [q8]; exact zpR_s (y := none) _ (by show hFR g7 326 (hN g) = _; rw [f7, if_neg (by omega), f6, f5, if_neg (by omega), f4, f3, if_neg (by omega), f2, f1, if_neg (by omega)]; exact O 326 rfl (by decide))
  have n8 : hN g8 = hN g7 + 1 := by rw [q8, nrow_N]
  have s8 : hS g8 = hS g7 + 5 := by rw [q8, nrow_S]
  have f8 : ∀ k, hFR g8 k (hN g) = if k = 326 then some (some (hN g7)) else hFR g7 k (hN g) := fun k => by rw [q8, nrow_own]
  have Y8 : xp (hN g) g7 g8 := by rw [q8]; exact xp.row _ _ _ _ _
  have E8 : ext g g8 := by rw [q8]; exact E7.row (Nat.le_refl _)
  have A8 : hAI g8 (hN g7) = some (0, 5, fun _ => 0) := by rw [q8, nrow_AI, if_pos rfl]
  have X18 : xp (hN g) g1 g8 := ((X3.trans X5).trans X7).trans Y8
  have a2 : hN g1 = hN g + 1 := n1
  have a4 : hN g3 = hN g + 8 := by omega
  have a6 : hN g5 = hN g + 10 := by omega
  have a8 : hN g7 = hN g + 14 := by omega
  refine ⟨g8, ?_, E8, by omega, by omega, ?_, ⟨?_, ?_, ?_, ?_, ?_⟩, fun k hk hz => ?_, ⟨?_, ?_, ?_⟩, ?_⟩
  · rw [zv_s (by rw [nO_CL, if_pos rfl]), e_Reader_init, p1, zoH_s, e2, zbV_s, p3, zoH_s, e4, zbV_s, p5, zoH_s, e6, zbV_s, p7, zoH_s, zl_5, zoN_s, p8, zoH_s]
  · rw [(X18.2.2.2 _ (by omega)).2]; exact c1
  · rw [f8, if_neg (by omega), f7, if_neg (by omega), f6, f5, if_neg (by omega), f4, f3, if_pos rfl, a2]
  · rw [f8, if_neg (by omega), f7, if_neg (by omega), f6, f5, if_pos rfl, a4]
  · rw [f8, if_neg (by omega), f7, if_pos rfl, a6]
  · rw [f8, if_neg (by omega), f7, if_neg (by omega), f6, f5, if_neg (by omega), f4, f3, if_neg (by omega), f2, f1, if_pos rfl]
  · rw [f8, if_pos rfl, a8]
  · rw [(X18.2.1 k _ (by omega)).1, i1, nO_FI, if_pos ⟨rfl, hk⟩, if_pos hz]
  · rw [← a2]; exact D2.xp (((Y3.trans X5).trans X7).trans Y8) (by omega)
  · rw [← a4]; exact D4.xp ((Y5.trans X7).trans Y8) (by omega)
  · rw [← a6]; exact D6.xp (Y7.trans Y8) (by omega)
  · rw [← a8]; exact ⟨_, A8⟩
end CR
