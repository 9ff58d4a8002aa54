/-! the small objects made -/
section IN
theorem zl_6 : zlen (i32 6) = some 6 := by decide
theorem zl_4 : zlen (i32 4) = some 4 := by decide
theorem zl_8 : zlen (i32 8) = some 8 := by decide
theorem zl_3 : zlen (i32 3) = some 3 := by decide
theorem zl_2 : zlen (i32 2) = some 2 := by decide
theorem zl_240 : zlen (i32 240) = some 240 := by decide
theorem zl_600 : zlen (i32 600) = some 600 := by decide
theorem zf_128 : zfk zTb 128 = 1 := by decide
theorem zf_129 : zfk zTb 129 = 1 := by decide
theorem zf_130 : zfk zTb 130 = 1 := by decide
theorem zf_131 : zfk zTb 131 = 1 := by decide
theorem zf_132 : zfk zTb 132 = 2 := by decide
theorem zf_133 : zfk zTb 133 = 2 := by decide
theorem zf_134 : zfk zTb 134 = 2 := by decide
theorem zf_135 : zfk zTb 135 = 2 := by decide
theorem zf_136 : zfk zTb 136 = 2 := by decide
theorem zf_137 : zfk zTb 137 = 2 := by decide
theorem zs_2 : ((zTb[2]?).getD []).length = 10 := by decide
theorem zf_192 : zfk zTb 192 = 1 := by decide
theorem zf_193 : zfk zTb 193 = 2 := by decide
theorem zf_194 : zfk zTb 194 = 2 := by decide
theorem zf_195 : zfk zTb 195 = 2 := by decide
theorem zs_3 : ((zTb[3]?).getD []).length = 4 := by decide
theorem zf_512 : zfk zTb 512 = 2 := by decide
theorem zf_513 : zfk zTb 513 = 1 := by decide
theorem zs_8 : ((zTb[8]?).getD []).length = 2 := by decide
theorem zf_640 : zfk zTb 640 = 1 := by decide
theorem zf_641 : zfk zTb 641 = 2 := by decide
theorem zs_10 : ((zTb[10]?).getD []).length = 2 := by decide
theorem zf_576 : zfk zTb 576 = 2 := by decide
theorem zf_577 : zfk zTb 577 = 2 := by decide
theorem zf_578 : zfk zTb 578 = 2 := by decide
theorem zf_579 : zfk zTb 579 = 2 := by decide
theorem zf_580 : zfk zTb 580 = 2 := by decide
theorem zf_581 : zfk zTb 581 = 1 := by decide
theorem zf_582 : zfk zTb 582 = 1 := by decide
theorem zs_9 : ((zTb[9]?).getD []).length = 7 := by decide
theorem i_Duchy (g : zHeap) (hb : hN g + 7 < zK0) : ∃ g', zv 2 33 [zR (some (hN g))] (znO zTb 2 g) = some (zI 0, g') ∧ ext g g' ∧ hN g' = hN g + 7 ∧ hS g' = hS g + 50 ∧ duS g' (hN g) := by
  refine ⟨(nrow 0 8 137 (hN g) (nrow 0 8 136 (hN g) (nrow 0 8 135 (hN g) (nrow 0 4 134 (hN g) (nrow 0 6 133 (hN g) (nrow 0 6 132 (hN g) (znO zTb 2 g))))))), ?_, (((((((ext.nO g 2).row (Nat.le_refl _)).row (Nat.le_refl _)).row (Nat.le_refl _)).row (Nat.le_refl _)).row (Nat.le_refl _)).row (Nat.le_refl _)), ?_, ?_, ?_⟩
  · rw [zv_s (by rw [nO_CL, if_pos rfl]), e_Duchy_init]
    simp [zl_6, zl_4, zl_8, zl_240, zl_600, zoN_s, zoH_s, nrow_p, nrow_FR, nO_FR, zf_128, zf_129, zf_130, zf_131, zf_132, zf_133, zf_134, zf_135, zf_136, zf_137]
  · simp only [nrow_N, nO_N]
  · simp only [nrow_S, nO_S, zs_2]
  · unfold duS itS rwS
    simp [nrow_N, nrow_S, nrow_FI, nrow_FR, nrow_AI, nrow_AR, nrow_CL, nO_N, nO_S, nO_FI, nO_FR, nO_AI, nO_AR, nO_CL, zf_128, zf_129, zf_130, zf_131, zf_132, zf_133, zf_134, zf_135, zf_136, zf_137, zs_2]
    omega
theorem i_Year (g : zHeap) (hb : hN g + 2 < zK0) : ∃ g', zv 10 144 [zR (some (hN g))] (znO zTb 10 g) = some (zI 0, g') ∧ ext g g' ∧ hN g' = hN g + 2 ∧ hS g' = hS g + 242 ∧ yeS g' (hN g) ∧ hFI g' 640 (hN g) = some 0 := by
  refine ⟨(nrow 0 240 641 (hN g) (znO zTb 10 g)), ?_, ((ext.nO g 10).row (Nat.le_refl _)), ?_, ?_, ?_, ?_⟩
  · rw [zv_s (by rw [nO_CL, if_pos rfl]), e_Year_init]
    simp [zl_6, zl_4, zl_8, zl_240, zl_600, zoN_s, zoH_s, nrow_p, nrow_FR, nO_FR, zf_640, zf_641]
  · simp only [nrow_N, nO_N]
  · simp only [nrow_S, nO_S, zs_10]
  · unfold yeS itS rwS
    simp [nrow_N, nrow_S, nrow_FI, nrow_FR, nrow_AI, nrow_AR, nrow_CL, nO_N, nO_S, nO_FI, nO_FR, nO_AI, nO_AR, nO_CL, zf_640, zf_641, zs_10]
    omega
  · simp [nrow_N, nrow_S, nrow_FI, nrow_FR, nrow_AI, nrow_AR, nrow_CL, nO_N, nO_S, nO_FI, nO_FR, nO_AI, nO_AR, nO_CL, zf_640, zf_641, zs_10]
theorem i_Log (g : zHeap) (hb : hN g + 4 < zK0) : ∃ g', zv 3 52 [zR (some (hN g))] (znO zTb 3 g) = some (zI 0, g') ∧ ext g g' ∧ hN g' = hN g + 4 ∧ hS g' = hS g + 28 ∧ loS g' (hN g) ∧ hFI g' 192 (hN g) = some 0 := by
  refine ⟨(nrow 0 8 195 (hN g) (nrow 0 8 194 (hN g) (nrow 0 8 193 (hN g) (znO zTb 3 g)))), ?_, ((((ext.nO g 3).row (Nat.le_refl _)).row (Nat.le_refl _)).row (Nat.le_refl _)), ?_, ?_, ?_, ?_⟩
  · rw [zv_s (by rw [nO_CL, if_pos rfl]), e_Log_init]
    simp [zl_6, zl_4, zl_8, zl_240, zl_600, zoN_s, zoH_s, nrow_p, nrow_FR, nO_FR, zf_192, zf_193, zf_194, zf_195]
  · simp only [nrow_N, nO_N]
  · simp only [nrow_S, nO_S, zs_3]
  · unfold loS itS rwS
    simp [nrow_N, nrow_S, nrow_FI, nrow_FR, nrow_AI, nrow_AR, nrow_CL, nO_N, nO_S, nO_FI, nO_FR, nO_AI, nO_AR, nO_CL, zf_192, zf_193, zf_194, zf_195, zs_3]
    omega
  · simp [nrow_N, nrow_S, nrow_FI, nrow_FR, nrow_AI, nrow_AR, nrow_CL, nO_N, nO_S, nO_FI, nO_FR, nO_AI, nO_AR, nO_CL, zf_192, zf_193, zf_194, zf_195, zs_3]
theorem i_Tape (g : zHeap) (hb : hN g + 2 < zK0) : ∃ g', zv 8 134 [zR (some (hN g))] (znO zTb 8 g) = some (zI 0, g') ∧ ext g g' ∧ hN g' = hN g + 2 ∧ hS g' = hS g + 602 ∧ taS g' (hN g) ∧ hFI g' 513 (hN g) = some 0 := by
  refine ⟨(nrow 1 600 512 (hN g) (znO zTb 8 g)), ?_, ((ext.nO g 8).row (Nat.le_refl _)), ?_, ?_, ?_, ?_⟩
  · rw [zv_s (by rw [nO_CL, if_pos rfl]), e_Tape_init]
    simp [zl_6, zl_4, zl_8, zl_240, zl_600, zoN_s, zoH_s, nrow_p, nrow_FR, nO_FR, zf_512, zf_513]
  · simp only [nrow_N, nO_N]
  · simp only [nrow_S, nO_S, zs_8]
  · unfold taS itS rwS
    simp [nrow_N, nrow_S, nrow_FI, nrow_FR, nrow_AI, nrow_AR, nrow_CL, nO_N, nO_S, nO_FI, nO_FR, nO_AI, nO_AR, nO_CL, zf_512, zf_513, zs_8]
    omega
  · simp [nrow_N, nrow_S, nrow_FI, nrow_FR, nrow_AI, nrow_AR, nrow_CL, nO_N, nO_S, nO_FI, nO_FR, nO_AI, nO_AR, nO_CL, zf_512, zf_513, zs_8]
end IN
