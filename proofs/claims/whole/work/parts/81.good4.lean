set_option maxRecDepth 100000 in
theorem en_0_3 : zE2 zFn "ReedOracles$Acts" 0 3 (9, 0, 0, 0, 0, 0) := ⟨⟨wd_432, wd_146, wd_147⟩, fun _ => trivial⟩
set_option maxRecDepth 100000 in
theorem en_0_11 : zE2 zFn "ReedOracles$Acts" 0 11 (1, 1, 0, 0, 0, 0) := ⟨⟨RX0, TX0, 4, rfl, inT0, by decide, wd_435⟩, fun mn h => ⟨RX0, TX0, 4, tyX0, (.array .int), rfl, inT0, by decide, wd_435, tyX0_ok, nmX0, by decide +kernel, fun h => absurd h (by decide), fun h => absurd h (by decide), fun _ => Or.inr ⟨_, rfl⟩, fun _ => ⟨(h (by decide)).1, rfl⟩⟩⟩
set_option maxRecDepth 100000 in
theorem en_0_15 : zE2 zFn "ReedOracles$Acts" 0 15 (1, 2, 0, 0, 0, 0) := ⟨⟨RX0, TX0, 4, rfl, inT0, by decide, wd_436⟩, fun mn h => ⟨RX0, TX0, 4, tyX0, (.array .int), rfl, inT0, by decide, wd_436, tyX0_ok, nmX0, by decide +kernel, fun h => absurd h (by decide), fun h => absurd h (by decide), fun _ => Or.inr ⟨_, rfl⟩, fun _ => ⟨(h (by decide)).1, rfl⟩⟩⟩
set_option maxRecDepth 100000 in
theorem en_0_18 : zE2 zFn "ReedOracles$Acts" 0 18 (0, 0, 0, 0, 0, 0) := ⟨⟨RX0, TX0, 4, rfl, inT0, by decide, wd_433⟩, fun mn h => ⟨RX0, TX0, 4, tyX0, .int, rfl, inT0, by decide, wd_433, tyX0_ok, nmX0, by decide +kernel, fun _ => rfl, fun h => absurd h (by decide), fun h => absurd h (by decide), fun h2 => absurd h2 (by decide)⟩⟩
set_option maxRecDepth 100000 in
theorem en_0_22 : zE2 zFn "ReedOracles$Acts" 0 22 (3, 2, 4, 1, 0, 6) := ⟨⟨mt_2, rfl, rfl, wd_908, wd_127, ⟨by decide, by decide⟩, fun h => absurd h (by decide), fun _ => rfl, ⟨wd_907, by decide +kernel, Or.inl wd_906⟩⟩, fun _ => trivial⟩
set_option maxRecDepth 100000 in
theorem en_0_26 : zE2 zFn "ReedOracles$Acts" 0 26 (3, 324, 2, 0, 0, 4) := ⟨⟨mt_324, rfl, rfl, wd_823, wd_138, ⟨by decide, by decide⟩, fun _ => rfl, fun h => absurd rfl h, ⟨wd_822, by decide +kernel, Or.inl wd_910⟩⟩, fun _ => trivial⟩
set_option maxRecDepth 100000 in
theorem en_0_32 : zE2 zFn "ReedOracles$Acts" 0 32 (1, 132, 0, 0, 0, 0) := ⟨⟨RX2, TX2, 10, rfl, inT2, by decide, wd_208⟩, fun mn h => ⟨RX2, TX2, 10, tyX2, (.array .int), rfl, inT2, by decide, wd_208, tyX2_ok, nmX2, by decide +kernel, fun h => absurd h (by decide), fun h => absurd h (by decide), fun _ => Or.inr ⟨_, rfl⟩, fun _ => absurd (h (by decide)).2 (by decide)⟩⟩
set_option maxRecDepth 100000 in
theorem en_0_37 : zE2 zFn "ReedOracles$Acts" 0 37 (1, 133, 0, 0, 0, 0) := ⟨⟨RX2, TX2, 10, rfl, inT2, by decide, wd_213⟩, fun mn h => ⟨RX2, TX2, 10, tyX2, (.array .int), rfl, inT2, by decide, wd_213, tyX2_ok, nmX2, by decide +kernel, fun h => absurd h (by decide), fun h => absurd h (by decide), fun _ => Or.inr ⟨_, rfl⟩, fun _ => absurd (h (by decide)).2 (by decide)⟩⟩
set_option maxRecDepth 100000 in
theorem en_0_40 : zE2 zFn "ReedOracles$Acts" 0 40 (0, 131, 0, 0, 0, 0) := ⟨⟨RX2, TX2, 10, rfl, inT2, by decide, wd_201⟩, fun mn h => ⟨RX2, TX2, 10, tyX2, .int, rfl, inT2, by decide, wd_201, tyX2_ok, nmX2, by decide +kernel, fun _ => rfl, fun h => absurd h (by decide), fun h => absurd h (by decide), fun h2 => absurd h2 (by decide)⟩⟩
set_option maxRecDepth 100000 in
theorem en_0_43 : zE2 zFn "ReedOracles$Acts" 0 43 (3, 7, 3, 1, 0, 3) := ⟨⟨mt_7, rfl, rfl, wd_913, wd_127, ⟨by decide, by decide⟩, fun h => absurd h (by decide), fun _ => rfl, ⟨wd_912, by decide +kernel, Or.inl wd_911⟩⟩, fun _ => trivial⟩
set_option maxRecDepth 100000 in
theorem en_0_47 : zE2 zFn "ReedOracles$Acts" 0 47 (3, 8, 1, 1, 0, 1) := ⟨⟨mt_8, rfl, rfl, wd_916, wd_127, ⟨by decide, by decide⟩, fun h => absurd h (by decide), fun _ => rfl, ⟨wd_915, by decide +kernel, Or.inl wd_914⟩⟩, fun _ => trivial⟩
set_option maxRecDepth 100000 in
theorem en_0_51 : zE2 zFn "ReedOracles$Acts" 0 51 (3, 9, 1, 1, 0, 1) := ⟨⟨mt_9, rfl, rfl, wd_919, wd_127, ⟨by decide, by decide⟩, fun h => absurd h (by decide), fun _ => rfl, ⟨wd_918, by decide +kernel, Or.inl wd_917⟩⟩, fun _ => trivial⟩
set_option maxRecDepth 100000 in
theorem en_0_54 : zE2 zFn "ReedOracles$Acts" 0 54 (3, 10, 1, 1, 0, 1) := ⟨⟨mt_10, rfl, rfl, wd_922, wd_127, ⟨by decide, by decide⟩, fun h => absurd h (by decide), fun _ => rfl, ⟨wd_921, by decide +kernel, Or.inl wd_920⟩⟩, fun _ => trivial⟩
set_option maxRecDepth 100000 in
theorem en_0_57 : zE2 zFn "ReedOracles$Acts" 0 57 (3, 47, 6, 1, 3, 7) := ⟨⟨mt_47, rfl, rfl, wd_783, wd_122, ⟨by decide, by decide⟩, fun h => absurd h (by decide), fun _ => rfl, zite_neg (by decide) ⟨TX2, 10, rfl, wd_923, wd_781, wd_782, by decide +kernel, by decide⟩⟩, fun _ => trivial⟩
set_option maxRecDepth 100000 in
theorem en_0_61 : zE2 zFn "ReedOracles$Acts" 0 61 (3, 50, 2, 1, 3, 2) := ⟨⟨mt_50, rfl, rfl, wd_791, wd_122, ⟨by decide, by decide⟩, fun h => absurd h (by decide), fun _ => rfl, zite_neg (by decide) ⟨TX2, 10, rfl, wd_924, wd_789, wd_790, by decide +kernel, by decide⟩⟩, fun _ => trivial⟩
set_option maxRecDepth 100000 in
theorem en_0_64 : zE2 zFn "ReedOracles$Acts" 0 64 (0, 3, 0, 0, 0, 0) := ⟨⟨RX0, TX0, 4, rfl, inT0, by decide, wd_437⟩, fun mn h => ⟨RX0, TX0, 4, tyX0, .int, rfl, inT0, by decide, wd_437, tyX0_ok, nmX0, by decide +kernel, fun _ => rfl, fun h => absurd h (by decide), fun h => absurd h (by decide), fun h2 => absurd h2 (by decide)⟩⟩
set_option maxRecDepth 100000 in
theorem en_0_67 : zE2 zFn "ReedOracles$Acts" 0 67 (3, 5, 2, 1, 1, 4) := ⟨⟨mt_5, rfl, rfl, wd_928, wd_127, ⟨by decide, by decide⟩, fun h => absurd h (by decide), fun _ => rfl, zite_neg (by decide) ⟨TX0, 4, rfl, wd_925, wd_927, wd_28, by decide +kernel, by decide⟩⟩, fun _ => trivial⟩
set_option maxRecDepth 100000 in
theorem en_0_70 : zE2 zFn "ReedOracles$Acts" 0 70 (3, 3, 3, 1, 1, 6) := ⟨⟨mt_3, rfl, rfl, wd_932, wd_127, ⟨by decide, by decide⟩, fun h => absurd h (by decide), fun _ => rfl, zite_neg (by decide) ⟨TX0, 4, rfl, wd_929, wd_931, wd_29, by decide +kernel, by decide⟩⟩, fun _ => trivial⟩
set_option maxRecDepth 100000 in
theorem en_0_74 : zE2 zFn "ReedOracles$Acts" 0 74 (1, 137, 0, 0, 0, 0) := ⟨⟨RX2, TX2, 10, rfl, inT2, by decide, wd_222⟩, fun mn h => ⟨RX2, TX2, 10, tyX2, (.array .int), rfl, inT2, by decide, wd_222, tyX2_ok, nmX2, by decide +kernel, fun h => absurd h (by decide), fun h => absurd h (by decide), fun _ => Or.inr ⟨_, rfl⟩, fun _ => absurd (h (by decide)).2 (by decide)⟩⟩
set_option maxRecDepth 100000 in
theorem en_0_77 : zE2 zFn "ReedOracles$Acts" 0 77 (3, 46, 4, 1, 3, 4) := ⟨⟨mt_46, rfl, rfl, wd_787, wd_122, ⟨by decide, by decide⟩, fun h => absurd h (by decide), fun _ => rfl, zite_neg (by decide) ⟨TX2, 10, rfl, wd_909, wd_785, wd_786, by decide +kernel, by decide⟩⟩, fun _ => trivial⟩
set_option maxRecDepth 100000 in
theorem en_0_81 : zE2 zFn "ReedOracles$Acts" 0 81 (3, 4, 2, 1, 0, 5) := ⟨⟨mt_4, rfl, rfl, wd_935, wd_127, ⟨by decide, by decide⟩, fun h => absurd h (by decide), fun _ => rfl, ⟨wd_934, by decide +kernel, Or.inl wd_933⟩⟩, fun _ => trivial⟩
set_option maxRecDepth 100000 in
theorem en_0_84 : zE2 zFn "ReedOracles$Acts" 0 84 (3, 194, 1, 1, 0, 1) := ⟨⟨mt_194, rfl, rfl, wd_871, wd_119, ⟨by decide, by decide⟩, fun h => absurd h (by decide), fun _ => rfl, ⟨wd_870, by decide +kernel, Or.inr ⟨"ReedOracles", by decide⟩⟩⟩, fun _ => trivial⟩
set_option maxRecDepth 100000 in
theorem en_0_87 : zE2 zFn "ReedOracles$Acts" 0 87 (3, 193, 2, 1, 0, 2) := ⟨⟨mt_193, rfl, rfl, wd_851, wd_119, ⟨by decide, by decide⟩, fun h => absurd h (by decide), fun _ => rfl, ⟨wd_850, by decide +kernel, Or.inr ⟨"ReedOracles", by decide⟩⟩⟩, fun _ => trivial⟩
set_option maxRecDepth 100000 in
theorem en_0_90 : zE2 zFn "ReedOracles$Acts" 0 90 (11, 0, 0, 0, 0, 0) := ⟨⟨wd_938, wd_734, wd_137, wd_735⟩, fun _ => trivial⟩
set_option maxRecDepth 100000 in
theorem en_0_95 : zE2 zFn "ReedOracles$Acts" 0 95 (12, 0, 0, 0, 0, 0) := ⟨⟨wd_939, wd_873, wd_137, wd_874⟩, fun _ => trivial⟩
set_option maxRecDepth 100000 in
theorem pf_0 : ∀ q ∈ zPl_0, zE2 zFn "ReedOracles$Acts" 0 q.1 q.2 := List.forall_mem_cons.mpr ⟨en_0_3, List.forall_mem_cons.mpr ⟨en_0_11, List.forall_mem_cons.mpr ⟨en_0_15, List.forall_mem_cons.mpr ⟨en_0_18, List.forall_mem_cons.mpr ⟨en_0_22, List.forall_mem_cons.mpr ⟨en_0_26, List.forall_mem_cons.mpr ⟨en_0_32, List.forall_mem_cons.mpr ⟨en_0_37, List.forall_mem_cons.mpr ⟨en_0_40, List.forall_mem_cons.mpr ⟨en_0_43, List.forall_mem_cons.mpr ⟨en_0_47, List.forall_mem_cons.mpr ⟨en_0_51, List.forall_mem_cons.mpr ⟨en_0_54, List.forall_mem_cons.mpr ⟨en_0_57, List.forall_mem_cons.mpr ⟨en_0_61, List.forall_mem_cons.mpr ⟨en_0_64, List.forall_mem_cons.mpr ⟨en_0_67, List.forall_mem_cons.mpr ⟨en_0_70, List.forall_mem_cons.mpr ⟨en_0_74, List.forall_mem_cons.mpr ⟨en_0_77, List.forall_mem_cons.mpr ⟨en_0_81, List.forall_mem_cons.mpr ⟨en_0_84, List.forall_mem_cons.mpr ⟨en_0_87, List.forall_mem_cons.mpr ⟨en_0_90, List.forall_mem_cons.mpr ⟨en_0_95, (fun _ h => absurd h List.not_mem_nil)⟩⟩⟩⟩⟩⟩⟩⟩⟩⟩⟩⟩⟩⟩⟩⟩⟩⟩⟩⟩⟩⟩⟩⟩⟩
set_option maxRecDepth 100000 in
theorem pk_0 : ∀ idx e, zlk zPl_0 idx = some e → zE2 zFn "ReedOracles$Acts" 0 idx e := fun idx e h => pf_0 _ (zlk_mem _ _ _ h)
set_option maxRecDepth 100000 in
theorem en_1_3 : zE2 zFn "ReedOracles$Course" 1 3 (9, 0, 0, 0, 0, 0) := ⟨⟨wd_372, wd_146, wd_147⟩, fun _ => trivial⟩
set_option maxRecDepth 100000 in
theorem en_1_9 : zE2 zFn "ReedOracles$Course" 1 9 (1, 66, 0, 0, 0, 0) := ⟨⟨RX1, TX1, 17, rfl, inT1, by decide, wd_377⟩, fun mn h => ⟨RX1, TX1, 17, tyX1, (.array .int), rfl, inT1, by decide, wd_377, tyX1_ok, nmX1, by decide +kernel, fun h => absurd h (by decide), fun h => absurd h (by decide), fun _ => Or.inr ⟨_, rfl⟩, fun _ => ⟨(h (by decide)).1, rfl⟩⟩⟩
set_option maxRecDepth 100000 in
theorem en_1_15 : zE2 zFn "ReedOracles$Course" 1 15 (1, 67, 0, 0, 0, 0) := ⟨⟨RX1, TX1, 17, rfl, inT1, by decide, wd_378⟩, fun mn h => ⟨RX1, TX1, 17, tyX1, (.array .int), rfl, inT1, by decide, wd_378, tyX1_ok, nmX1, by decide +kernel, fun h => absurd h (by decide), fun h => absurd h (by decide), fun _ => Or.inr ⟨_, rfl⟩, fun _ => ⟨(h (by decide)).1, rfl⟩⟩⟩
set_option maxRecDepth 100000 in
theorem en_1_18 : zE2 zFn "ReedOracles$Course" 1 18 (1, 68, 0, 0, 0, 0) := ⟨⟨RX1, TX1, 17, rfl, inT1, by decide, wd_379⟩, fun mn h => ⟨RX1, TX1, 17, tyX1, (.array .int), rfl, inT1, by decide, wd_379, tyX1_ok, nmX1, by decide +kernel, fun h => absurd h (by decide), fun h => absurd h (by decide), fun _ => Or.inr ⟨_, rfl⟩, fun _ => ⟨(h (by decide)).1, rfl⟩⟩⟩
set_option maxRecDepth 100000 in
theorem en_1_21 : zE2 zFn "ReedOracles$Course" 1 21 (1, 69, 0, 0, 0, 0) := ⟨⟨RX1, TX1, 17, rfl, inT1, by decide, wd_380⟩, fun mn h => ⟨RX1, TX1, 17, tyX1, (.array .int), rfl, inT1, by decide, wd_380, tyX1_ok, nmX1, by decide +kernel, fun h => absurd h (by decide), fun h => absurd h (by decide), fun _ => Or.inr ⟨_, rfl⟩, fun _ => ⟨(h (by decide)).1, rfl⟩⟩⟩
set_option maxRecDepth 100000 in
theorem en_1_24 : zE2 zFn "ReedOracles$Course" 1 24 (1, 70, 0, 0, 0, 0) := ⟨⟨RX1, TX1, 17, rfl, inT1, by decide, wd_381⟩, fun mn h => ⟨RX1, TX1, 17, tyX1, (.array .int), rfl, inT1, by decide, wd_381, tyX1_ok, nmX1, by decide +kernel, fun h => absurd h (by decide), fun h => absurd h (by decide), fun _ => Or.inr ⟨_, rfl⟩, fun _ => ⟨(h (by decide)).1, rfl⟩⟩⟩
set_option maxRecDepth 100000 in
theorem en_1_27 : zE2 zFn "ReedOracles$Course" 1 27 (1, 71, 0, 0, 0, 0) := ⟨⟨RX1, TX1, 17, rfl, inT1, by decide, wd_382⟩, fun mn h => ⟨RX1, TX1, 17, tyX1, (.array .int), rfl, inT1, by decide, wd_382, tyX1_ok, nmX1, by decide +kernel, fun h => absurd h (by decide), fun h => absurd h (by decide), fun _ => Or.inr ⟨_, rfl⟩, fun _ => ⟨(h (by decide)).1, rfl⟩⟩⟩
set_option maxRecDepth 100000 in
theorem en_1_30 : zE2 zFn "ReedOracles$Course" 1 30 (1, 132, 0, 0, 0, 0) := ⟨⟨RX2, TX2, 10, rfl, inT2, by decide, wd_207⟩, fun mn h => ⟨RX2, TX2, 10, tyX2, (.array .int), rfl, inT2, by decide, wd_207, tyX2_ok, nmX2, by decide +kernel, fun h => absurd h (by decide), fun h => absurd h (by decide), fun _ => Or.inr ⟨_, rfl⟩, fun _ => absurd (h (by decide)).2 (by decide)⟩⟩
set_option maxRecDepth 100000 in
theorem en_1_33 : zE2 zFn "ReedOracles$Course" 1 33 (10, 0, 0, 0, 0, 0) := ⟨⟨wd_820, wd_722, wd_721, wd_136⟩, fun _ => trivial⟩
set_option maxRecDepth 100000 in
theorem en_1_39 : zE2 zFn "ReedOracles$Course" 1 39 (1, 133, 0, 0, 0, 0) := ⟨⟨RX2, TX2, 10, rfl, inT2, by decide, wd_212⟩, fun mn h => ⟨RX2, TX2, 10, tyX2, (.array .int), rfl, inT2, by decide, wd_212, tyX2_ok, nmX2, by decide +kernel, fun h => absurd h (by decide), fun h => absurd h (by decide), fun _ => Or.inr ⟨_, rfl⟩, fun _ => absurd (h (by decide)).2 (by decide)⟩⟩
set_option maxRecDepth 100000 in
theorem en_1_40 : zE2 zFn "ReedOracles$Course" 1 40 (3, 324, 2, 0, 0, 4) := ⟨⟨mt_324, rfl, rfl, wd_823, wd_138, ⟨by decide, by decide⟩, fun _ => rfl, fun h => absurd rfl h, ⟨wd_822, by decide +kernel, Or.inl wd_821⟩⟩, fun _ => trivial⟩
set_option maxRecDepth 100000 in
theorem en_1_46 : zE2 zFn "ReedOracles$Course" 1 46 (0, 64, 0, 0, 0, 0) := ⟨⟨RX1, TX1, 17, rfl, inT1, by decide, wd_373⟩, fun mn h => ⟨RX1, TX1, 17, tyX1, .int, rfl, inT1, by decide, wd_373, tyX1_ok, nmX1, by decide +kernel, fun _ => rfl, fun h => absurd h (by decide), fun h => absurd h (by decide), fun h2 => absurd h2 (by decide)⟩⟩
set_option maxRecDepth 100000 in
theorem en_1_50 : zE2 zFn "ReedOracles$Course" 1 50 (0, 65, 0, 0, 0, 0) := ⟨⟨RX1, TX1, 17, rfl, inT1, by decide, wd_375⟩, fun mn h => ⟨RX1, TX1, 17, tyX1, .int, rfl, inT1, by decide, wd_375, tyX1_ok, nmX1, by decide +kernel, fun _ => rfl, fun h => absurd h (by decide), fun h => absurd h (by decide), fun h2 => absurd h2 (by decide)⟩⟩
set_option maxRecDepth 100000 in
theorem en_1_53 : zE2 zFn "ReedOracles$Course" 1 53 (0, 72, 0, 0, 0, 0) := ⟨⟨RX1, TX1, 17, rfl, inT1, by decide, wd_383⟩, fun mn h => ⟨RX1, TX1, 17, tyX1, .int, rfl, inT1, by decide, wd_383, tyX1_ok, nmX1, by decide +kernel, fun _ => rfl, fun h => absurd h (by decide), fun h => absurd h (by decide), fun h2 => absurd h2 (by decide)⟩⟩
set_option maxRecDepth 100000 in
theorem en_1_56 : zE2 zFn "ReedOracles$Course" 1 56 (0, 73, 0, 0, 0, 0) := ⟨⟨RX1, TX1, 17, rfl, inT1, by decide, wd_384⟩, fun mn h => ⟨RX1, TX1, 17, tyX1, .int, rfl, inT1, by decide, wd_384, tyX1_ok, nmX1, by decide +kernel, fun _ => rfl, fun h => absurd h (by decide), fun h => absurd h (by decide), fun h2 => absurd h2 (by decide)⟩⟩
set_option maxRecDepth 100000 in
theorem en_1_59 : zE2 zFn "ReedOracles$Course" 1 59 (0, 74, 0, 0, 0, 0) := ⟨⟨RX1, TX1, 17, rfl, inT1, by decide, wd_385⟩, fun mn h => ⟨RX1, TX1, 17, tyX1, .int, rfl, inT1, by decide, wd_385, tyX1_ok, nmX1, by decide +kernel, fun _ => rfl, fun h => absurd h (by decide), fun h => absurd h (by decide), fun h2 => absurd h2 (by decide)⟩⟩
set_option maxRecDepth 100000 in
theorem en_1_62 : zE2 zFn "ReedOracles$Course" 1 62 (0, 75, 0, 0, 0, 0) := ⟨⟨RX1, TX1, 17, rfl, inT1, by decide, wd_386⟩, fun mn h => ⟨RX1, TX1, 17, tyX1, .int, rfl, inT1, by decide, wd_386, tyX1_ok, nmX1, by decide +kernel, fun _ => rfl, fun h => absurd h (by decide), fun h => absurd h (by decide), fun h2 => absurd h2 (by decide)⟩⟩
set_option maxRecDepth 100000 in
theorem en_1_65 : zE2 zFn "ReedOracles$Course" 1 65 (0, 76, 0, 0, 0, 0) := ⟨⟨RX1, TX1, 17, rfl, inT1, by decide, wd_387⟩, fun mn h => ⟨RX1, TX1, 17, tyX1, .int, rfl, inT1, by decide, wd_387, tyX1_ok, nmX1, by decide +kernel, fun _ => rfl, fun h => absurd h (by decide), fun h => absurd h (by decide), fun h2 => absurd h2 (by decide)⟩⟩
set_option maxRecDepth 100000 in
theorem en_1_68 : zE2 zFn "ReedOracles$Course" 1 68 (0, 77, 0, 0, 0, 0) := ⟨⟨RX1, TX1, 17, rfl, inT1, by decide, wd_388⟩, fun mn h => ⟨RX1, TX1, 17, tyX1, .int, rfl, inT1, by decide, wd_388, tyX1_ok, nmX1, by decide +kernel, fun _ => rfl, fun h => absurd h (by decide), fun h => absurd h (by decide), fun h2 => absurd h2 (by decide)⟩⟩
set_option maxRecDepth 100000 in
theorem en_1_71 : zE2 zFn "ReedOracles$Course" 1 71 (0, 131, 0, 0, 0, 0) := ⟨⟨RX2, TX2, 10, rfl, inT2, by decide, wd_202⟩, fun mn h => ⟨RX2, TX2, 10, tyX2, .int, rfl, inT2, by decide, wd_202, tyX2_ok, nmX2, by decide +kernel, fun _ => rfl, fun h => absurd h (by decide), fun h => absurd h (by decide), fun h2 => absurd h2 (by decide)⟩⟩
set_option maxRecDepth 100000 in
theorem en_1_74 : zE2 zFn "ReedOracles$Course" 1 74 (0, 78, 0, 0, 0, 0) := ⟨⟨RX1, TX1, 17, rfl, inT1, by decide, wd_389⟩, fun mn h => ⟨RX1, TX1, 17, tyX1, .int, rfl, inT1, by decide, wd_389, tyX1_ok, nmX1, by decide +kernel, fun _ => rfl, fun h => absurd h (by decide), fun h => absurd h (by decide), fun h2 => absurd h2 (by decide)⟩⟩
set_option maxRecDepth 100000 in
theorem en_1_75 : zE2 zFn "ReedOracles$Course" 1 75 (0, 79, 0, 0, 0, 0) := ⟨⟨RX1, TX1, 17, rfl, inT1, by decide, wd_390⟩, fun mn h => ⟨RX1, TX1, 17, tyX1, .int, rfl, inT1, by decide, wd_390, tyX1_ok, nmX1, by decide +kernel, fun _ => rfl, fun h => absurd h (by decide), fun h => absurd h (by decide), fun h2 => absurd h2 (by decide)⟩⟩
set_option maxRecDepth 100000 in
theorem en_1_78 : zE2 zFn "ReedOracles$Course" 1 78 (3, 12, 2, 0, 2, 2) := ⟨⟨mt_12, rfl, rfl, wd_819, wd_126, ⟨by decide, by decide⟩, fun _ => rfl, fun h => absurd rfl h, zite_neg (by decide) ⟨TX1, 17, rfl, wd_816, wd_818, wd_16, by decide +kernel, by decide⟩⟩, fun _ => trivial⟩
set_option maxRecDepth 100000 in
theorem en_1_82 : zE2 zFn "ReedOracles$Course" 1 82 (0, 640, 0, 0, 0, 0) := ⟨⟨RX10, TX10, 2, rfl, inT10, by decide, wd_254⟩, fun mn h => ⟨RX10, TX10, 2, tyX10, .int, rfl, inT10, by decide, wd_254, tyX10_ok, nmX10, by decide +kernel, fun _ => rfl, fun h => absurd h (by decide), fun h => absurd h (by decide), fun h2 => absurd h2 (by decide)⟩⟩
set_option maxRecDepth 100000 in
theorem en_1_87 : zE2 zFn "ReedOracles$Course" 1 87 (3, 14, 4, 1, 2, 7) := ⟨⟨mt_14, rfl, rfl, wd_827, wd_126, ⟨by decide, by decide⟩, fun h => absurd h (by decide), fun _ => rfl, zite_neg (by decide) ⟨TX1, 17, rfl, wd_824, wd_826, wd_17, by decide +kernel, by decide⟩⟩, fun _ => trivial⟩
set_option maxRecDepth 100000 in
theorem en_1_91 : zE2 zFn "ReedOracles$Course" 1 91 (3, 147, 3, 1, 11, 3) := ⟨⟨mt_147, rfl, rfl, wd_807, wd_123, ⟨by decide, by decide⟩, fun h => absurd h (by decide), fun _ => rfl, zite_neg (by decide) ⟨TX10, 2, rfl, wd_828, wd_805, wd_806, by decide +kernel, by decide⟩⟩, fun _ => trivial⟩
set_option maxRecDepth 100000 in
theorem en_1_95 : zE2 zFn "ReedOracles$Course" 1 95 (3, 17, 5, 1, 2, 6) := ⟨⟨mt_17, rfl, rfl, wd_832, wd_126, ⟨by decide, by decide⟩, fun h => absurd h (by decide), fun _ => rfl, zite_neg (by decide) ⟨TX1, 17, rfl, wd_829, wd_831, wd_18, by decide +kernel, by decide⟩⟩, fun _ => trivial⟩
set_option maxRecDepth 100000 in
theorem en_1_99 : zE2 zFn "ReedOracles$Course" 1 99 (3, 18, 4, 1, 2, 11) := ⟨⟨mt_18, rfl, rfl, wd_864, wd_126, ⟨by decide, by decide⟩, fun h => absurd h (by decide), fun _ => rfl, zite_neg (by decide) ⟨TX1, 17, rfl, wd_861, wd_863, wd_23, by decide +kernel, by decide⟩⟩, fun _ => trivial⟩
set_option maxRecDepth 100000 in
theorem en_1_102 : zE2 zFn "ReedOracles$Course" 1 102 (3, 21, 3, 1, 2, 3) := ⟨⟨mt_21, rfl, rfl, wd_868, wd_126, ⟨by decide, by decide⟩, fun h => absurd h (by decide), fun _ => rfl, zite_neg (by decide) ⟨TX1, 17, rfl, wd_865, wd_867, wd_24, by decide +kernel, by decide⟩⟩, fun _ => trivial⟩
set_option maxRecDepth 100000 in
theorem en_1_106 : zE2 zFn "ReedOracles$Course" 1 106 (3, 22, 3, 1, 2, 3) := ⟨⟨mt_22, rfl, rfl, wd_878, wd_126, ⟨by decide, by decide⟩, fun h => absurd h (by decide), fun _ => rfl, zite_neg (by decide) ⟨TX1, 17, rfl, wd_875, wd_877, wd_25, by decide +kernel, by decide⟩⟩, fun _ => trivial⟩
set_option maxRecDepth 100000 in
theorem en_1_109 : zE2 zFn "ReedOracles$Course" 1 109 (3, 23, 2, 0, 2, 3) := ⟨⟨mt_23, rfl, rfl, wd_882, wd_126, ⟨by decide, by decide⟩, fun _ => rfl, fun h => absurd rfl h, zite_neg (by decide) ⟨TX1, 17, rfl, wd_879, wd_881, wd_26, by decide +kernel, by decide⟩⟩, fun _ => trivial⟩
set_option maxRecDepth 100000 in
theorem en_1_112 : zE2 zFn "ReedOracles$Course" 1 112 (3, 39, 2, 1, 3, 2) := ⟨⟨mt_39, rfl, rfl, wd_759, wd_122, ⟨by decide, by decide⟩, fun h => absurd h (by decide), fun _ => rfl, zite_neg (by decide) ⟨TX2, 10, rfl, wd_837, wd_757, wd_758, by decide +kernel, by decide⟩⟩, fun _ => trivial⟩
set_option maxRecDepth 100000 in
theorem en_1_116 : zE2 zFn "ReedOracles$Course" 1 116 (3, 40, 2, 1, 3, 2) := ⟨⟨mt_40, rfl, rfl, wd_763, wd_122, ⟨by decide, by decide⟩, fun h => absurd h (by decide), fun _ => rfl, zite_neg (by decide) ⟨TX2, 10, rfl, wd_842, wd_761, wd_762, by decide +kernel, by decide⟩⟩, fun _ => trivial⟩
set_option maxRecDepth 100000 in
theorem en_1_119 : zE2 zFn "ReedOracles$Course" 1 119 (3, 15, 3, 1, 2, 3) := ⟨⟨mt_15, rfl, rfl, wd_836, wd_126, ⟨by decide, by decide⟩, fun h => absurd h (by decide), fun _ => rfl, zite_neg (by decide) ⟨TX1, 17, rfl, wd_833, wd_835, wd_19, by decide +kernel, by decide⟩⟩, fun _ => trivial⟩
set_option maxRecDepth 100000 in
theorem en_1_122 : zE2 zFn "ReedOracles$Course" 1 122 (3, 16, 3, 1, 2, 3) := ⟨⟨mt_16, rfl, rfl, wd_841, wd_126, ⟨by decide, by decide⟩, fun h => absurd h (by decide), fun _ => rfl, zite_neg (by decide) ⟨TX1, 17, rfl, wd_838, wd_840, wd_20, by decide +kernel, by decide⟩⟩, fun _ => trivial⟩
set_option maxRecDepth 100000 in
theorem en_1_125 : zE2 zFn "ReedOracles$Course" 1 125 (3, 41, 2, 1, 3, 2) := ⟨⟨mt_41, rfl, rfl, wd_767, wd_122, ⟨by decide, by decide⟩, fun h => absurd h (by decide), fun _ => rfl, zite_neg (by decide) ⟨TX2, 10, rfl, wd_843, wd_765, wd_766, by decide +kernel, by decide⟩⟩, fun _ => trivial⟩
set_option maxRecDepth 100000 in
theorem en_1_128 : zE2 zFn "ReedOracles$Course" 1 128 (3, 19, 5, 1, 2, 6) := ⟨⟨mt_19, rfl, rfl, wd_847, wd_126, ⟨by decide, by decide⟩, fun h => absurd h (by decide), fun _ => rfl, zite_neg (by decide) ⟨TX1, 17, rfl, wd_844, wd_846, wd_21, by decide +kernel, by decide⟩⟩, fun _ => trivial⟩
set_option maxRecDepth 100000 in
theorem en_1_132 : zE2 zFn "ReedOracles$Course" 1 132 (3, 50, 2, 1, 3, 2) := ⟨⟨mt_50, rfl, rfl, wd_791, wd_122, ⟨by decide, by decide⟩, fun h => absurd h (by decide), fun _ => rfl, zite_neg (by decide) ⟨TX2, 10, rfl, wd_853, wd_789, wd_790, by decide +kernel, by decide⟩⟩, fun _ => trivial⟩
set_option maxRecDepth 100000 in
theorem en_1_136 : zE2 zFn "ReedOracles$Course" 1 136 (3, 195, 2, 1, 0, 2) := ⟨⟨mt_195, rfl, rfl, wd_856, wd_119, ⟨by decide, by decide⟩, fun h => absurd h (by decide), fun _ => rfl, ⟨wd_855, by decide +kernel, Or.inr ⟨"ReedOracles", by decide⟩⟩⟩, fun _ => trivial⟩
set_option maxRecDepth 100000 in
theorem en_1_140 : zE2 zFn "ReedOracles$Course" 1 140 (3, 20, 2, 0, 2, 2) := ⟨⟨mt_20, rfl, rfl, wd_860, wd_126, ⟨by decide, by decide⟩, fun _ => rfl, fun h => absurd rfl h, zite_neg (by decide) ⟨TX1, 17, rfl, wd_857, wd_859, wd_22, by decide +kernel, by decide⟩⟩, fun _ => trivial⟩
set_option maxRecDepth 100000 in
theorem en_1_144 : zE2 zFn "ReedOracles$Course" 1 144 (3, 47, 6, 1, 3, 7) := ⟨⟨mt_47, rfl, rfl, wd_783, wd_122, ⟨by decide, by decide⟩, fun h => absurd h (by decide), fun _ => rfl, zite_neg (by decide) ⟨TX2, 10, rfl, wd_848, wd_781, wd_782, by decide +kernel, by decide⟩⟩, fun _ => trivial⟩
set_option maxRecDepth 100000 in
theorem en_1_148 : zE2 zFn "ReedOracles$Course" 1 148 (3, 193, 2, 1, 0, 2) := ⟨⟨mt_193, rfl, rfl, wd_851, wd_119, ⟨by decide, by decide⟩, fun h => absurd h (by decide), fun _ => rfl, ⟨wd_850, by decide +kernel, Or.inr ⟨"ReedOracles", by decide⟩⟩⟩, fun _ => trivial⟩
set_option maxRecDepth 100000 in
theorem en_1_151 : zE2 zFn "ReedOracles$Course" 1 151 (3, 194, 1, 1, 0, 1) := ⟨⟨mt_194, rfl, rfl, wd_871, wd_119, ⟨by decide, by decide⟩, fun h => absurd h (by decide), fun _ => rfl, ⟨wd_870, by decide +kernel, Or.inr ⟨"ReedOracles", by decide⟩⟩⟩, fun _ => trivial⟩
set_option maxRecDepth 100000 in
theorem en_1_154 : zE2 zFn "ReedOracles$Course" 1 154 (0, 128, 0, 0, 0, 0) := ⟨⟨RX2, TX2, 10, rfl, inT2, by decide, wd_188⟩, fun mn h => ⟨RX2, TX2, 10, tyX2, .int, rfl, inT2, by decide, wd_188, tyX2_ok, nmX2, by decide +kernel, fun _ => rfl, fun h => absurd h (by decide), fun h => absurd h (by decide), fun h2 => absurd h2 (by decide)⟩⟩
set_option maxRecDepth 100000 in
theorem en_1_157 : zE2 zFn "ReedOracles$Course" 1 157 (0, 80, 0, 0, 0, 0) := ⟨⟨RX1, TX1, 17, rfl, inT1, by decide, wd_391⟩, fun mn h => ⟨RX1, TX1, 17, tyX1, .int, rfl, inT1, by decide, wd_391, tyX1_ok, nmX1, by decide +kernel, fun _ => rfl, fun h => absurd h (by decide), fun h => absurd h (by decide), fun h2 => absurd h2 (by decide)⟩⟩
set_option maxRecDepth 100000 in
theorem en_1_160 : zE2 zFn "ReedOracles$Course" 1 160 (3, 25, 2, 0, 2, 5) := ⟨⟨mt_25, rfl, rfl, wd_1149, wd_126, ⟨by decide, by decide⟩, fun _ => rfl, fun h => absurd rfl h, zite_neg (by decide) ⟨TX1, 17, rfl, wd_1146, wd_1148, wd_39, by decide +kernel, by decide⟩⟩, fun _ => trivial⟩
set_option maxRecDepth 100000 in
theorem en_1_163 : zE2 zFn "ReedOracles$Course" 1 163 (3, 26, 2, 1, 2, 2) := ⟨⟨mt_26, rfl, rfl, wd_1153, wd_126, ⟨by decide, by decide⟩, fun h => absurd h (by decide), fun _ => rfl, zite_neg (by decide) ⟨TX1, 17, rfl, wd_1150, wd_1152, wd_40, by decide +kernel, by decide⟩⟩, fun _ => trivial⟩
set_option maxRecDepth 100000 in
theorem en_1_166 : zE2 zFn "ReedOracles$Course" 1 166 (0, 129, 0, 0, 0, 0) := ⟨⟨RX2, TX2, 10, rfl, inT2, by decide, wd_193⟩, fun mn h => ⟨RX2, TX2, 10, tyX2, .int, rfl, inT2, by decide, wd_193, tyX2_ok, nmX2, by decide +kernel, fun _ => rfl, fun h => absurd h (by decide), fun h => absurd h (by decide), fun h2 => absurd h2 (by decide)⟩⟩
set_option maxRecDepth 100000 in
theorem en_1_169 : zE2 zFn "ReedOracles$Course" 1 169 (0, 130, 0, 0, 0, 0) := ⟨⟨RX2, TX2, 10, rfl, inT2, by decide, wd_199⟩, fun mn h => ⟨RX2, TX2, 10, tyX2, .int, rfl, inT2, by decide, wd_199, tyX2_ok, nmX2, by decide +kernel, fun _ => rfl, fun h => absurd h (by decide), fun h => absurd h (by decide), fun h2 => absurd h2 (by decide)⟩⟩
set_option maxRecDepth 100000 in
theorem en_1_172 : zE2 zFn "ReedOracles$Course" 1 172 (5, 0, 0, 0, 0, 1103515245) := ⟨wd_1154, fun _ => trivial⟩
set_option maxRecDepth 100000 in
theorem en_1_173 : zE2 zFn "ReedOracles$Course" 1 173 (3, 28, 2, 1, 2, 2) := ⟨⟨mt_28, rfl, rfl, wd_894, wd_126, ⟨by decide, by decide⟩, fun h => absurd h (by decide), fun _ => rfl, zite_neg (by decide) ⟨TX1, 17, rfl, wd_891, wd_893, wd_27, by decide +kernel, by decide⟩⟩, fun _ => trivial⟩
set_option maxRecDepth 100000 in
theorem en_1_176 : zE2 zFn "ReedOracles$Course" 1 176 (3, 31, 1, 1, 0, 4) := ⟨⟨mt_31, rfl, rfl, wd_1305, wd_126, ⟨by decide, by decide⟩, fun h => absurd h (by decide), fun _ => rfl, ⟨wd_1304, by decide +kernel, Or.inl wd_1303⟩⟩, fun _ => trivial⟩
set_option maxRecDepth 100000 in
theorem pf_1 : ∀ q ∈ zPl_1, zE2 zFn "ReedOracles$Course" 1 q.1 q.2 := List.forall_mem_cons.mpr ⟨en_1_3, List.forall_mem_cons.mpr ⟨en_1_9, List.forall_mem_cons.mpr ⟨en_1_15, List.forall_mem_cons.mpr ⟨en_1_18, List.forall_mem_cons.mpr ⟨en_1_21, List.forall_mem_cons.mpr ⟨en_1_24, List.forall_mem_cons.mpr ⟨en_1_27, List.forall_mem_cons.mpr ⟨en_1_30, List.forall_mem_cons.mpr ⟨en_1_33, List.forall_mem_cons.mpr ⟨en_1_39, List.forall_mem_cons.mpr ⟨en_1_40, List.forall_mem_cons.mpr ⟨en_1_46, List.forall_mem_cons.mpr ⟨en_1_50, List.forall_mem_cons.mpr ⟨en_1_53, List.forall_mem_cons.mpr ⟨en_1_56, List.forall_mem_cons.mpr ⟨en_1_59, List.forall_mem_cons.mpr ⟨en_1_62, List.forall_mem_cons.mpr ⟨en_1_65, List.forall_mem_cons.mpr ⟨en_1_68, List.forall_mem_cons.mpr ⟨en_1_71, List.forall_mem_cons.mpr ⟨en_1_74, List.forall_mem_cons.mpr ⟨en_1_75, List.forall_mem_cons.mpr ⟨en_1_78, List.forall_mem_cons.mpr ⟨en_1_82, List.forall_mem_cons.mpr ⟨en_1_87, List.forall_mem_cons.mpr ⟨en_1_91, List.forall_mem_cons.mpr ⟨en_1_95, List.forall_mem_cons.mpr ⟨en_1_99, List.forall_mem_cons.mpr ⟨en_1_102, List.forall_mem_cons.mpr ⟨en_1_106, List.forall_mem_cons.mpr ⟨en_1_109, List.forall_mem_cons.mpr ⟨en_1_112, List.forall_mem_cons.mpr ⟨en_1_116, List.forall_mem_cons.mpr ⟨en_1_119, List.forall_mem_cons.mpr ⟨en_1_122, List.forall_mem_cons.mpr ⟨en_1_125, List.forall_mem_cons.mpr ⟨en_1_128, List.forall_mem_cons.mpr ⟨en_1_132, List.forall_mem_cons.mpr ⟨en_1_136, List.forall_mem_cons.mpr ⟨en_1_140, List.forall_mem_cons.mpr ⟨en_1_144, List.forall_mem_cons.mpr ⟨en_1_148, List.forall_mem_cons.mpr ⟨en_1_151, List.forall_mem_cons.mpr ⟨en_1_154, List.forall_mem_cons.mpr ⟨en_1_157, List.forall_mem_cons.mpr ⟨en_1_160, List.forall_mem_cons.mpr ⟨en_1_163, List.forall_mem_cons.mpr ⟨en_1_166, List.forall_mem_cons.mpr ⟨en_1_169, List.forall_mem_cons.mpr ⟨en_1_172, List.forall_mem_cons.mpr ⟨en_1_173, List.forall_mem_cons.mpr ⟨en_1_176, (fun _ h => absurd h List.not_mem_nil)⟩⟩⟩⟩⟩⟩⟩⟩⟩⟩⟩⟩⟩⟩⟩⟩⟩⟩⟩⟩⟩⟩⟩⟩⟩⟩⟩⟩⟩⟩⟩⟩⟩⟩⟩⟩⟩⟩⟩⟩⟩⟩⟩⟩⟩⟩⟩⟩⟩⟩⟩⟩
set_option maxRecDepth 100000 in
theorem pk_1 : ∀ idx e, zlk zPl_1 idx = some e → zE2 zFn "ReedOracles$Course" 1 idx e := fun idx e h => pf_1 _ (zlk_mem _ _ _ h)
set_option maxRecDepth 100000 in
theorem en_2_3 : zE2 zFn "ReedOracles$Duchy" 2 3 (9, 0, 0, 0, 0, 0) := ⟨⟨wd_182, wd_146, wd_147⟩, fun _ => trivial⟩
set_option maxRecDepth 100000 in
theorem en_2_9 : zE2 zFn "ReedOracles$Duchy" 2 9 (1, 132, 0, 0, 0, 0) := ⟨⟨RX2, TX2, 10, rfl, inT2, by decide, wd_206⟩, fun mn h => ⟨RX2, TX2, 10, tyX2, (.array .int), rfl, inT2, by decide, wd_206, tyX2_ok, nmX2, by decide +kernel, fun h => absurd h (by decide), fun h => absurd h (by decide), fun _ => Or.inr ⟨_, rfl⟩, fun _ => ⟨(h (by decide)).1, rfl⟩⟩⟩
set_option maxRecDepth 100000 in
theorem en_2_15 : zE2 zFn "ReedOracles$Duchy" 2 15 (1, 133, 0, 0, 0, 0) := ⟨⟨RX2, TX2, 10, rfl, inT2, by decide, wd_211⟩, fun mn h => ⟨RX2, TX2, 10, tyX2, (.array .int), rfl, inT2, by decide, wd_211, tyX2_ok, nmX2, by decide +kernel, fun h => absurd h (by decide), fun h => absurd h (by decide), fun _ => Or.inr ⟨_, rfl⟩, fun _ => ⟨(h (by decide)).1, rfl⟩⟩⟩
set_option maxRecDepth 100000 in
theorem en_2_18 : zE2 zFn "ReedOracles$Duchy" 2 18 (1, 134, 0, 0, 0, 0) := ⟨⟨RX2, TX2, 10, rfl, inT2, by decide, wd_216⟩, fun mn h => ⟨RX2, TX2, 10, tyX2, (.array .int), rfl, inT2, by decide, wd_216, tyX2_ok, nmX2, by decide +kernel, fun h => absurd h (by decide), fun h => absurd h (by decide), fun _ => Or.inr ⟨_, rfl⟩, fun _ => ⟨(h (by decide)).1, rfl⟩⟩⟩
set_option maxRecDepth 100000 in
theorem en_2_21 : zE2 zFn "ReedOracles$Duchy" 2 21 (1, 135, 0, 0, 0, 0) := ⟨⟨RX2, TX2, 10, rfl, inT2, by decide, wd_218⟩, fun mn h => ⟨RX2, TX2, 10, tyX2, (.array .int), rfl, inT2, by decide, wd_218, tyX2_ok, nmX2, by decide +kernel, fun h => absurd h (by decide), fun h => absurd h (by decide), fun _ => Or.inr ⟨_, rfl⟩, fun _ => ⟨(h (by decide)).1, rfl⟩⟩⟩
set_option maxRecDepth 100000 in
theorem en_2_24 : zE2 zFn "ReedOracles$Duchy" 2 24 (1, 136, 0, 0, 0, 0) := ⟨⟨RX2, TX2, 10, rfl, inT2, by decide, wd_220⟩, fun mn h => ⟨RX2, TX2, 10, tyX2, (.array .int), rfl, inT2, by decide, wd_220, tyX2_ok, nmX2, by decide +kernel, fun h => absurd h (by decide), fun h => absurd h (by decide), fun _ => Or.inr ⟨_, rfl⟩, fun _ => ⟨(h (by decide)).1, rfl⟩⟩⟩
set_option maxRecDepth 100000 in
theorem en_2_27 : zE2 zFn "ReedOracles$Duchy" 2 27 (1, 137, 0, 0, 0, 0) := ⟨⟨RX2, TX2, 10, rfl, inT2, by decide, wd_221⟩, fun mn h => ⟨RX2, TX2, 10, tyX2, (.array .int), rfl, inT2, by decide, wd_221, tyX2_ok, nmX2, by decide +kernel, fun h => absurd h (by decide), fun h => absurd h (by decide), fun _ => Or.inr ⟨_, rfl⟩, fun _ => ⟨(h (by decide)).1, rfl⟩⟩⟩
set_option maxRecDepth 100000 in
theorem en_2_30 : zE2 zFn "ReedOracles$Duchy" 2 30 (0, 128, 0, 0, 0, 0) := ⟨⟨RX2, TX2, 10, rfl, inT2, by decide, wd_183⟩, fun mn h => ⟨RX2, TX2, 10, tyX2, .int, rfl, inT2, by decide, wd_183, tyX2_ok, nmX2, by decide +kernel, fun _ => rfl, fun h => absurd h (by decide), fun h => absurd h (by decide), fun h2 => absurd h2 (by decide)⟩⟩
set_option maxRecDepth 100000 in
theorem en_2_34 : zE2 zFn "ReedOracles$Duchy" 2 34 (0, 129, 0, 0, 0, 0) := ⟨⟨RX2, TX2, 10, rfl, inT2, by decide, wd_189⟩, fun mn h => ⟨RX2, TX2, 10, tyX2, .int, rfl, inT2, by decide, wd_189, tyX2_ok, nmX2, by decide +kernel, fun _ => rfl, fun h => absurd h (by decide), fun h => absurd h (by decide), fun h2 => absurd h2 (by decide)⟩⟩
set_option maxRecDepth 100000 in
theorem en_2_37 : zE2 zFn "ReedOracles$Duchy" 2 37 (0, 130, 0, 0, 0, 0) := ⟨⟨RX2, TX2, 10, rfl, inT2, by decide, wd_194⟩, fun mn h => ⟨RX2, TX2, 10, tyX2, .int, rfl, inT2, by decide, wd_194, tyX2_ok, nmX2, by decide +kernel, fun _ => rfl, fun h => absurd h (by decide), fun h => absurd h (by decide), fun h2 => absurd h2 (by decide)⟩⟩
set_option maxRecDepth 100000 in
theorem en_2_40 : zE2 zFn "ReedOracles$Duchy" 2 40 (0, 131, 0, 0, 0, 0) := ⟨⟨RX2, TX2, 10, rfl, inT2, by decide, wd_200⟩, fun mn h => ⟨RX2, TX2, 10, tyX2, .int, rfl, inT2, by decide, wd_200, tyX2_ok, nmX2, by decide +kernel, fun _ => rfl, fun h => absurd h (by decide), fun h => absurd h (by decide), fun h2 => absurd h2 (by decide)⟩⟩
set_option maxRecDepth 100000 in
theorem en_2_43 : zE2 zFn "ReedOracles$Duchy" 2 43 (10, 0, 0, 0, 0, 0) := ⟨⟨wd_720, wd_722, wd_721, wd_136⟩, fun _ => trivial⟩
set_option maxRecDepth 100000 in
theorem en_2_49 : zE2 zFn "ReedOracles$Duchy" 2 49 (3, 39, 2, 1, 3, 2) := ⟨⟨mt_39, rfl, rfl, wd_759, wd_122, ⟨by decide, by decide⟩, fun h => absurd h (by decide), fun _ => rfl, zite_neg (by decide) ⟨TX2, 10, rfl, wd_756, wd_757, wd_758, by decide +kernel, by decide⟩⟩, fun _ => trivial⟩
set_option maxRecDepth 100000 in
theorem en_2_53 : zE2 zFn "ReedOracles$Duchy" 2 53 (3, 40, 2, 1, 3, 2) := ⟨⟨mt_40, rfl, rfl, wd_763, wd_122, ⟨by decide, by decide⟩, fun h => absurd h (by decide), fun _ => rfl, zite_neg (by decide) ⟨TX2, 10, rfl, wd_760, wd_761, wd_762, by decide +kernel, by decide⟩⟩, fun _ => trivial⟩
set_option maxRecDepth 100000 in
theorem en_2_56 : zE2 zFn "ReedOracles$Duchy" 2 56 (3, 41, 2, 1, 3, 2) := ⟨⟨mt_41, rfl, rfl, wd_767, wd_122, ⟨by decide, by decide⟩, fun h => absurd h (by decide), fun _ => rfl, zite_neg (by decide) ⟨TX2, 10, rfl, wd_764, wd_765, wd_766, by decide +kernel, by decide⟩⟩, fun _ => trivial⟩
set_option maxRecDepth 100000 in
theorem en_2_59 : zE2 zFn "ReedOracles$Duchy" 2 59 (0, 192, 0, 0, 0, 0) := ⟨⟨RX3, TX3, 4, rfl, inT3, by decide, wd_270⟩, fun mn h => ⟨RX3, TX3, 4, tyX3, .int, rfl, inT3, by decide, wd_270, tyX3_ok, nmX3, by decide +kernel, fun _ => rfl, fun h => absurd h (by decide), fun h => absurd h (by decide), fun h2 => absurd h2 (by decide)⟩⟩
set_option maxRecDepth 100000 in
theorem en_2_64 : zE2 zFn "ReedOracles$Duchy" 2 64 (1, 193, 0, 0, 0, 0) := ⟨⟨RX3, TX3, 4, rfl, inT3, by decide, wd_274⟩, fun mn h => ⟨RX3, TX3, 4, tyX3, (.array .int), rfl, inT3, by decide, wd_274, tyX3_ok, nmX3, by decide +kernel, fun h => absurd h (by decide), fun h => absurd h (by decide), fun _ => Or.inr ⟨_, rfl⟩, fun _ => absurd (h (by decide)).2 (by decide)⟩⟩
set_option maxRecDepth 100000 in
theorem en_2_67 : zE2 zFn "ReedOracles$Duchy" 2 67 (1, 194, 0, 0, 0, 0) := ⟨⟨RX3, TX3, 4, rfl, inT3, by decide, wd_277⟩, fun mn h => ⟨RX3, TX3, 4, tyX3, (.array .int), rfl, inT3, by decide, wd_277, tyX3_ok, nmX3, by decide +kernel, fun h => absurd h (by decide), fun h => absurd h (by decide), fun _ => Or.inr ⟨_, rfl⟩, fun _ => absurd (h (by decide)).2 (by decide)⟩⟩
set_option maxRecDepth 100000 in
theorem en_2_70 : zE2 zFn "ReedOracles$Duchy" 2 70 (3, 45, 2, 1, 3, 2) := ⟨⟨mt_45, rfl, rfl, wd_755, wd_122, ⟨by decide, by decide⟩, fun h => absurd h (by decide), fun _ => rfl, zite_neg (by decide) ⟨TX2, 10, rfl, wd_752, wd_754, wd_15, by decide +kernel, by decide⟩⟩, fun _ => trivial⟩
set_option maxRecDepth 100000 in
theorem en_2_74 : zE2 zFn "ReedOracles$Duchy" 2 74 (3, 46, 4, 1, 3, 4) := ⟨⟨mt_46, rfl, rfl, wd_787, wd_122, ⟨by decide, by decide⟩, fun h => absurd h (by decide), fun _ => rfl, zite_neg (by decide) ⟨TX2, 10, rfl, wd_784, wd_785, wd_786, by decide +kernel, by decide⟩⟩, fun _ => trivial⟩
set_option maxRecDepth 100000 in
theorem en_2_78 : zE2 zFn "ReedOracles$Duchy" 2 78 (3, 47, 6, 1, 3, 7) := ⟨⟨mt_47, rfl, rfl, wd_783, wd_122, ⟨by decide, by decide⟩, fun h => absurd h (by decide), fun _ => rfl, zite_neg (by decide) ⟨TX2, 10, rfl, wd_780, wd_781, wd_782, by decide +kernel, by decide⟩⟩, fun _ => trivial⟩
set_option maxRecDepth 100000 in
theorem en_2_82 : zE2 zFn "ReedOracles$Duchy" 2 82 (3, 193, 2, 1, 0, 2) := ⟨⟨mt_193, rfl, rfl, wd_851, wd_119, ⟨by decide, by decide⟩, fun h => absurd h (by decide), fun _ => rfl, ⟨wd_850, by decide +kernel, Or.inr ⟨"ReedOracles", by decide⟩⟩⟩, fun _ => trivial⟩
set_option maxRecDepth 100000 in
theorem en_2_86 : zE2 zFn "ReedOracles$Duchy" 2 86 (3, 48, 4, 1, 3, 4) := ⟨⟨mt_48, rfl, rfl, wd_779, wd_122, ⟨by decide, by decide⟩, fun h => absurd h (by decide), fun _ => rfl, zite_neg (by decide) ⟨TX2, 10, rfl, wd_958, wd_777, wd_778, by decide +kernel, by decide⟩⟩, fun _ => trivial⟩
set_option maxRecDepth 100000 in
theorem en_2_90 : zE2 zFn "ReedOracles$Duchy" 2 90 (3, 50, 2, 1, 3, 2) := ⟨⟨mt_50, rfl, rfl, wd_791, wd_122, ⟨by decide, by decide⟩, fun h => absurd h (by decide), fun _ => rfl, zite_neg (by decide) ⟨TX2, 10, rfl, wd_959, wd_789, wd_790, by decide +kernel, by decide⟩⟩, fun _ => trivial⟩
set_option maxRecDepth 100000 in
theorem pf_2 : ∀ q ∈ zPl_2, zE2 zFn "ReedOracles$Duchy" 2 q.1 q.2 := List.forall_mem_cons.mpr ⟨en_2_3, List.forall_mem_cons.mpr ⟨en_2_9, List.forall_mem_cons.mpr ⟨en_2_15, List.forall_mem_cons.mpr ⟨en_2_18, List.forall_mem_cons.mpr ⟨en_2_21, List.forall_mem_cons.mpr ⟨en_2_24, List.forall_mem_cons.mpr ⟨en_2_27, List.forall_mem_cons.mpr ⟨en_2_30, List.forall_mem_cons.mpr ⟨en_2_34, List.forall_mem_cons.mpr ⟨en_2_37, List.forall_mem_cons.mpr ⟨en_2_40, List.forall_mem_cons.mpr ⟨en_2_43, List.forall_mem_cons.mpr ⟨en_2_49, List.forall_mem_cons.mpr ⟨en_2_53, List.forall_mem_cons.mpr ⟨en_2_56, List.forall_mem_cons.mpr ⟨en_2_59, List.forall_mem_cons.mpr ⟨en_2_64, List.forall_mem_cons.mpr ⟨en_2_67, List.forall_mem_cons.mpr ⟨en_2_70, List.forall_mem_cons.mpr ⟨en_2_74, List.forall_mem_cons.mpr ⟨en_2_78, List.forall_mem_cons.mpr ⟨en_2_82, List.forall_mem_cons.mpr ⟨en_2_86, List.forall_mem_cons.mpr ⟨en_2_90, (fun _ h => absurd h List.not_mem_nil)⟩⟩⟩⟩⟩⟩⟩⟩⟩⟩⟩⟩⟩⟩⟩⟩⟩⟩⟩⟩⟩⟩⟩⟩
set_option maxRecDepth 100000 in
theorem pk_2 : ∀ idx e, zlk zPl_2 idx = some e → zE2 zFn "ReedOracles$Duchy" 2 idx e := fun idx e h => pf_2 _ (zlk_mem _ _ _ h)
set_option maxRecDepth 100000 in
theorem en_3_3 : zE2 zFn "ReedOracles$Log" 3 3 (9, 0, 0, 0, 0, 0) := ⟨⟨wd_266, wd_146, wd_147⟩, fun _ => trivial⟩
set_option maxRecDepth 100000 in
theorem en_3_9 : zE2 zFn "ReedOracles$Log" 3 9 (1, 193, 0, 0, 0, 0) := ⟨⟨RX3, TX3, 4, rfl, inT3, by decide, wd_272⟩, fun mn h => ⟨RX3, TX3, 4, tyX3, (.array .int), rfl, inT3, by decide, wd_272, tyX3_ok, nmX3, by decide +kernel, fun h => absurd h (by decide), fun h => absurd h (by decide), fun _ => Or.inr ⟨_, rfl⟩, fun _ => ⟨(h (by decide)).1, rfl⟩⟩⟩
set_option maxRecDepth 100000 in
theorem en_3_15 : zE2 zFn "ReedOracles$Log" 3 15 (1, 194, 0, 0, 0, 0) := ⟨⟨RX3, TX3, 4, rfl, inT3, by decide, wd_275⟩, fun mn h => ⟨RX3, TX3, 4, tyX3, (.array .int), rfl, inT3, by decide, wd_275, tyX3_ok, nmX3, by decide +kernel, fun h => absurd h (by decide), fun h => absurd h (by decide), fun _ => Or.inr ⟨_, rfl⟩, fun _ => ⟨(h (by decide)).1, rfl⟩⟩⟩
set_option maxRecDepth 100000 in
theorem en_3_18 : zE2 zFn "ReedOracles$Log" 3 18 (1, 195, 0, 0, 0, 0) := ⟨⟨RX3, TX3, 4, rfl, inT3, by decide, wd_278⟩, fun mn h => ⟨RX3, TX3, 4, tyX3, (.array .int), rfl, inT3, by decide, wd_278, tyX3_ok, nmX3, by decide +kernel, fun h => absurd h (by decide), fun h => absurd h (by decide), fun _ => Or.inr ⟨_, rfl⟩, fun _ => ⟨(h (by decide)).1, rfl⟩⟩⟩
set_option maxRecDepth 100000 in
theorem en_3_21 : zE2 zFn "ReedOracles$Log" 3 21 (0, 192, 0, 0, 0, 0) := ⟨⟨RX3, TX3, 4, rfl, inT3, by decide, wd_267⟩, fun mn h => ⟨RX3, TX3, 4, tyX3, .int, rfl, inT3, by decide, wd_267, tyX3_ok, nmX3, by decide +kernel, fun _ => rfl, fun h => absurd h (by decide), fun h => absurd h (by decide), fun h2 => absurd h2 (by decide)⟩⟩
set_option maxRecDepth 100000 in
theorem en_3_25 : zE2 zFn "ReedOracles$Log" 3 25 (10, 0, 0, 0, 0, 0) := ⟨⟨wd_732, wd_722, wd_721, wd_136⟩, fun _ => trivial⟩
set_option maxRecDepth 100000 in
theorem pf_3 : ∀ q ∈ zPl_3, zE2 zFn "ReedOracles$Log" 3 q.1 q.2 := List.forall_mem_cons.mpr ⟨en_3_3, List.forall_mem_cons.mpr ⟨en_3_9, List.forall_mem_cons.mpr ⟨en_3_15, List.forall_mem_cons.mpr ⟨en_3_18, List.forall_mem_cons.mpr ⟨en_3_21, List.forall_mem_cons.mpr ⟨en_3_25, (fun _ h => absurd h List.not_mem_nil)⟩⟩⟩⟩⟩⟩
set_option maxRecDepth 100000 in
theorem pk_3 : ∀ idx e, zlk zPl_3 idx = some e → zE2 zFn "ReedOracles$Log" 3 idx e := fun idx e h => pf_3 _ (zlk_mem _ _ _ h)
set_option maxRecDepth 100000 in
theorem en_4_3 : zE2 zFn "ReedOracles$Plans" 4 3 (9, 0, 0, 0, 0, 0) := ⟨⟨wd_452, wd_146, wd_147⟩, fun _ => trivial⟩
set_option maxRecDepth 100000 in
theorem en_4_11 : zE2 zFn "ReedOracles$Plans" 4 11 (1, 256, 0, 0, 0, 0) := ⟨⟨RX4, TX4, 4, rfl, inT4, by decide, wd_453⟩, fun mn h => ⟨RX4, TX4, 4, tyX4, (.array .int), rfl, inT4, by decide, wd_453, tyX4_ok, nmX4, by decide +kernel, fun h => absurd h (by decide), fun h => absurd h (by decide), fun _ => Or.inr ⟨_, rfl⟩, fun _ => ⟨(h (by decide)).1, rfl⟩⟩⟩
set_option maxRecDepth 100000 in
theorem en_4_15 : zE2 zFn "ReedOracles$Plans" 4 15 (1, 257, 0, 0, 0, 0) := ⟨⟨RX4, TX4, 4, rfl, inT4, by decide, wd_454⟩, fun mn h => ⟨RX4, TX4, 4, tyX4, (.array .int), rfl, inT4, by decide, wd_454, tyX4_ok, nmX4, by decide +kernel, fun h => absurd h (by decide), fun h => absurd h (by decide), fun _ => Or.inr ⟨_, rfl⟩, fun _ => ⟨(h (by decide)).1, rfl⟩⟩⟩
set_option maxRecDepth 100000 in
theorem en_4_18 : zE2 zFn "ReedOracles$Plans" 4 18 (1, 258, 0, 0, 0, 0) := ⟨⟨RX4, TX4, 4, rfl, inT4, by decide, wd_455⟩, fun mn h => ⟨RX4, TX4, 4, tyX4, (.array .int), rfl, inT4, by decide, wd_455, tyX4_ok, nmX4, by decide +kernel, fun h => absurd h (by decide), fun h => absurd h (by decide), fun _ => Or.inr ⟨_, rfl⟩, fun _ => ⟨(h (by decide)).1, rfl⟩⟩⟩
set_option maxRecDepth 100000 in
theorem en_4_21 : zE2 zFn "ReedOracles$Plans" 4 21 (1, 259, 0, 0, 0, 0) := ⟨⟨RX4, TX4, 4, rfl, inT4, by decide, wd_456⟩, fun mn h => ⟨RX4, TX4, 4, tyX4, (.array .int), rfl, inT4, by decide, wd_456, tyX4_ok, nmX4, by decide +kernel, fun h => absurd h (by decide), fun h => absurd h (by decide), fun _ => Or.inr ⟨_, rfl⟩, fun _ => ⟨(h (by decide)).1, rfl⟩⟩⟩
set_option maxRecDepth 100000 in
theorem en_4_24 : zE2 zFn "ReedOracles$Plans" 4 24 (0, 128, 0, 0, 0, 0) := ⟨⟨RX2, TX2, 10, rfl, inT2, by decide, wd_184⟩, fun mn h => ⟨RX2, TX2, 10, tyX2, .int, rfl, inT2, by decide, wd_184, tyX2_ok, nmX2, by decide +kernel, fun _ => rfl, fun h => absurd h (by decide), fun h => absurd h (by decide), fun h2 => absurd h2 (by decide)⟩⟩
set_option maxRecDepth 100000 in
theorem en_4_30 : zE2 zFn "ReedOracles$Plans" 4 30 (0, 130, 0, 0, 0, 0) := ⟨⟨RX2, TX2, 10, rfl, inT2, by decide, wd_196⟩, fun mn h => ⟨RX2, TX2, 10, tyX2, .int, rfl, inT2, by decide, wd_196, tyX2_ok, nmX2, by decide +kernel, fun _ => rfl, fun h => absurd h (by decide), fun h => absurd h (by decide), fun h2 => absurd h2 (by decide)⟩⟩
set_option maxRecDepth 100000 in
theorem en_4_33 : zE2 zFn "ReedOracles$Plans" 4 33 (3, 51, 4, 1, 3, 4) := ⟨⟨mt_51, rfl, rfl, wd_957, wd_122, ⟨by decide, by decide⟩, fun h => absurd h (by decide), fun _ => rfl, zite_neg (by decide) ⟨TX2, 10, rfl, wd_954, wd_955, wd_956, by decide +kernel, by decide⟩⟩, fun _ => trivial⟩
set_option maxRecDepth 100000 in
theorem en_4_37 : zE2 zFn "ReedOracles$Plans" 4 37 (3, 58, 3, 1, 5, 6) := ⟨⟨mt_58, rfl, rfl, wd_963, wd_128, ⟨by decide, by decide⟩, fun h => absurd h (by decide), fun _ => rfl, zite_neg (by decide) ⟨TX4, 4, rfl, wd_960, wd_962, wd_30, by decide +kernel, by decide⟩⟩, fun _ => trivial⟩
set_option maxRecDepth 100000 in
theorem en_4_41 : zE2 zFn "ReedOracles$Plans" 4 41 (3, 59, 4, 1, 5, 5) := ⟨⟨mt_59, rfl, rfl, wd_967, wd_128, ⟨by decide, by decide⟩, fun h => absurd h (by decide), fun _ => rfl, zite_neg (by decide) ⟨TX4, 4, rfl, wd_964, wd_966, wd_31, by decide +kernel, by decide⟩⟩, fun _ => trivial⟩
set_option maxRecDepth 100000 in
theorem en_4_44 : zE2 zFn "ReedOracles$Plans" 4 44 (11, 0, 0, 0, 0, 0) := ⟨⟨wd_968, wd_734, wd_137, wd_735⟩, fun _ => trivial⟩
set_option maxRecDepth 100000 in
theorem en_4_49 : zE2 zFn "ReedOracles$Plans" 4 49 (3, 62, 4, 1, 5, 6) := ⟨⟨mt_62, rfl, rfl, wd_980, wd_128, ⟨by decide, by decide⟩, fun h => absurd h (by decide), fun _ => rfl, zite_neg (by decide) ⟨TX4, 4, rfl, wd_977, wd_979, wd_32, by decide +kernel, by decide⟩⟩, fun _ => trivial⟩
set_option maxRecDepth 100000 in
theorem en_4_53 : zE2 zFn "ReedOracles$Plans" 4 53 (3, 49, 5, 1, 3, 5) := ⟨⟨mt_49, rfl, rfl, wd_997, wd_122, ⟨by decide, by decide⟩, fun h => absurd h (by decide), fun _ => rfl, zite_neg (by decide) ⟨TX2, 10, rfl, wd_994, wd_995, wd_996, by decide +kernel, by decide⟩⟩, fun _ => trivial⟩
set_option maxRecDepth 100000 in
theorem en_4_57 : zE2 zFn "ReedOracles$Plans" 4 57 (3, 325, 1, 1, 0, 1) := ⟨⟨mt_325, rfl, rfl, wd_1009, wd_139, ⟨by decide, by decide⟩, fun h => absurd h (by decide), fun _ => rfl, ⟨wd_1008, by decide +kernel, Or.inl wd_1007⟩⟩, fun _ => trivial⟩
set_option maxRecDepth 100000 in
theorem en_4_63 : zE2 zFn "ReedOracles$Plans" 4 63 (3, 63, 4, 0, 5, 6) := ⟨⟨mt_63, rfl, rfl, wd_993, wd_128, ⟨by decide, by decide⟩, fun _ => rfl, fun h => absurd rfl h, zite_neg (by decide) ⟨TX4, 4, rfl, wd_990, wd_992, wd_33, by decide +kernel, by decide⟩⟩, fun _ => trivial⟩
set_option maxRecDepth 100000 in
theorem en_4_67 : zE2 zFn "ReedOracles$Plans" 4 67 (3, 66, 3, 1, 5, 3) := ⟨⟨mt_66, rfl, rfl, wd_1002, wd_128, ⟨by decide, by decide⟩, fun h => absurd h (by decide), fun _ => rfl, zite_neg (by decide) ⟨TX4, 4, rfl, wd_999, wd_1001, wd_34, by decide +kernel, by decide⟩⟩, fun _ => trivial⟩
set_option maxRecDepth 100000 in
theorem en_4_70 : zE2 zFn "ReedOracles$Plans" 4 70 (3, 64, 3, 1, 5, 4) := ⟨⟨mt_64, rfl, rfl, wd_1006, wd_128, ⟨by decide, by decide⟩, fun h => absurd h (by decide), fun _ => rfl, zite_neg (by decide) ⟨TX4, 4, rfl, wd_1003, wd_1005, wd_35, by decide +kernel, by decide⟩⟩, fun _ => trivial⟩
set_option maxRecDepth 100000 in
theorem en_4_74 : zE2 zFn "ReedOracles$Plans" 4 74 (3, 70, 3, 1, 5, 3) := ⟨⟨mt_70, rfl, rfl, wd_1189, wd_128, ⟨by decide, by decide⟩, fun h => absurd h (by decide), fun _ => rfl, zite_neg (by decide) ⟨TX4, 4, rfl, wd_1186, wd_1188, wd_41, by decide +kernel, by decide⟩⟩, fun _ => trivial⟩
set_option maxRecDepth 100000 in
theorem en_4_77 : zE2 zFn "ReedOracles$Plans" 4 77 (3, 73, 3, 1, 5, 4) := ⟨⟨mt_73, rfl, rfl, wd_1201, wd_128, ⟨by decide, by decide⟩, fun h => absurd h (by decide), fun _ => rfl, zite_neg (by decide) ⟨TX4, 4, rfl, wd_1198, wd_1200, wd_42, by decide +kernel, by decide⟩⟩, fun _ => trivial⟩
set_option maxRecDepth 100000 in
theorem pf_4 : ∀ q ∈ zPl_4, zE2 zFn "ReedOracles$Plans" 4 q.1 q.2 := List.forall_mem_cons.mpr ⟨en_4_3, List.forall_mem_cons.mpr ⟨en_4_11, List.forall_mem_cons.mpr ⟨en_4_15, List.forall_mem_cons.mpr ⟨en_4_18, List.forall_mem_cons.mpr ⟨en_4_21, List.forall_mem_cons.mpr ⟨en_4_24, List.forall_mem_cons.mpr ⟨en_4_30, List.forall_mem_cons.mpr ⟨en_4_33, List.forall_mem_cons.mpr ⟨en_4_37, List.forall_mem_cons.mpr ⟨en_4_41, List.forall_mem_cons.mpr ⟨en_4_44, List.forall_mem_cons.mpr ⟨en_4_49, List.forall_mem_cons.mpr ⟨en_4_53, List.forall_mem_cons.mpr ⟨en_4_57, List.forall_mem_cons.mpr ⟨en_4_63, List.forall_mem_cons.mpr ⟨en_4_67, List.forall_mem_cons.mpr ⟨en_4_70, List.forall_mem_cons.mpr ⟨en_4_74, List.forall_mem_cons.mpr ⟨en_4_77, (fun _ h => absurd h List.not_mem_nil)⟩⟩⟩⟩⟩⟩⟩⟩⟩⟩⟩⟩⟩⟩⟩⟩⟩⟩⟩
set_option maxRecDepth 100000 in
theorem pk_4 : ∀ idx e, zlk zPl_4 idx = some e → zE2 zFn "ReedOracles$Plans" 4 idx e := fun idx e h => pf_4 _ (zlk_mem _ _ _ h)
set_option maxRecDepth 100000 in
theorem en_5_3 : zE2 zFn "ReedOracles$Reader" 5 3 (9, 0, 0, 0, 0, 0) := ⟨⟨wd_321, wd_146, wd_147⟩, fun _ => trivial⟩
set_option maxRecDepth 100000 in
theorem en_5_9 : zE2 zFn "ReedOracles$Reader" 5 9 (1, 325, 0, 0, 0, 0) := ⟨⟨RX5, TX5, 11, rfl, inT5, by decide, wd_338⟩, fun mn h => ⟨RX5, TX5, 11, tyX5, (.object "ReedOracles$Tape"), rfl, inT5, by decide, wd_338, tyX5_ok, nmX5, by decide +kernel, fun h => absurd h (by decide), fun h => absurd h (by decide), fun _ => Or.inl ⟨_, rfl⟩, fun _ => ⟨(h (by decide)).1, rfl⟩⟩⟩
set_option maxRecDepth 100000 in
theorem en_5_15 : zE2 zFn "ReedOracles$Reader" 5 15 (4, 2, 0, 0, 0, 0) := ⟨⟨RX2, TX2, 10, tyX2, rfl, inT2, tyX2_ok, wd_322, wd_178, wd_122, by decide +kernel, rfl⟩, fun _ => trivial⟩
set_option maxRecDepth 100000 in
theorem en_5_17 : zE2 zFn "ReedOracles$Reader" 5 17 (3, 33, 1, 0, 3, 1) := ⟨⟨mt_33, rfl, rfl, wd_181, wd_122, ⟨by decide, by decide⟩, fun _ => rfl, fun h => absurd rfl h, zite_pos (by decide) ⟨wd_323, wd_180, by decide +kernel, by decide, rfl⟩⟩, fun _ => trivial⟩
set_option maxRecDepth 100000 in
theorem en_5_18 : zE2 zFn "ReedOracles$Reader" 5 18 (1, 320, 0, 0, 0, 0) := ⟨⟨RX5, TX5, 11, rfl, inT5, by decide, wd_328⟩, fun mn h => ⟨RX5, TX5, 11, tyX5, (.object "ReedOracles$Duchy"), rfl, inT5, by decide, wd_328, tyX5_ok, nmX5, by decide +kernel, fun h => absurd h (by decide), fun h => absurd h (by decide), fun _ => Or.inl ⟨_, rfl⟩, fun _ => ⟨(h (by decide)).1, rfl⟩⟩⟩
set_option maxRecDepth 100000 in
theorem en_5_22 : zE2 zFn "ReedOracles$Reader" 5 22 (4, 10, 0, 0, 0, 0) := ⟨⟨RX10, TX10, 2, tyX10, rfl, inT10, tyX10_ok, wd_324, wd_247, wd_123, by decide +kernel, rfl⟩, fun _ => trivial⟩
set_option maxRecDepth 100000 in
theorem en_5_24 : zE2 zFn "ReedOracles$Reader" 5 24 (3, 144, 1, 0, 11, 1) := ⟨⟨mt_144, rfl, rfl, wd_250, wd_123, ⟨by decide, by decide⟩, fun _ => rfl, fun h => absurd rfl h, zite_pos (by decide) ⟨wd_325, wd_249, by decide +kernel, by decide, rfl⟩⟩, fun _ => trivial⟩
set_option maxRecDepth 100000 in
theorem en_5_25 : zE2 zFn "ReedOracles$Reader" 5 25 (1, 321, 0, 0, 0, 0) := ⟨⟨RX5, TX5, 11, rfl, inT5, by decide, wd_330⟩, fun mn h => ⟨RX5, TX5, 11, tyX5, (.object "ReedOracles$Year"), rfl, inT5, by decide, wd_330, tyX5_ok, nmX5, by decide +kernel, fun h => absurd h (by decide), fun h => absurd h (by decide), fun _ => Or.inl ⟨_, rfl⟩, fun _ => ⟨(h (by decide)).1, rfl⟩⟩⟩
set_option maxRecDepth 100000 in
theorem en_5_29 : zE2 zFn "ReedOracles$Reader" 5 29 (4, 3, 0, 0, 0, 0) := ⟨⟨RX3, TX3, 4, tyX3, rfl, inT3, tyX3_ok, wd_326, wd_262, wd_124, by decide +kernel, rfl⟩, fun _ => trivial⟩
set_option maxRecDepth 100000 in
theorem en_5_31 : zE2 zFn "ReedOracles$Reader" 5 31 (3, 52, 1, 0, 4, 1) := ⟨⟨mt_52, rfl, rfl, wd_265, wd_124, ⟨by decide, by decide⟩, fun _ => rfl, fun h => absurd rfl h, zite_pos (by decide) ⟨wd_327, wd_264, by decide +kernel, by decide, rfl⟩⟩, fun _ => trivial⟩
set_option maxRecDepth 100000 in
theorem en_5_32 : zE2 zFn "ReedOracles$Reader" 5 32 (1, 322, 0, 0, 0, 0) := ⟨⟨RX5, TX5, 11, rfl, inT5, by decide, wd_332⟩, fun mn h => ⟨RX5, TX5, 11, tyX5, (.object "ReedOracles$Log"), rfl, inT5, by decide, wd_332, tyX5_ok, nmX5, by decide +kernel, fun h => absurd h (by decide), fun h => absurd h (by decide), fun _ => Or.inl ⟨_, rfl⟩, fun _ => ⟨(h (by decide)).1, rfl⟩⟩⟩
set_option maxRecDepth 100000 in
theorem en_5_36 : zE2 zFn "ReedOracles$Reader" 5 36 (1, 326, 0, 0, 0, 0) := ⟨⟨RX5, TX5, 11, rfl, inT5, by decide, wd_339⟩, fun mn h => ⟨RX5, TX5, 11, tyX5, (.array .int), rfl, inT5, by decide, wd_339, tyX5_ok, nmX5, by decide +kernel, fun h => absurd h (by decide), fun h => absurd h (by decide), fun _ => Or.inr ⟨_, rfl⟩, fun _ => ⟨(h (by decide)).1, rfl⟩⟩⟩
set_option maxRecDepth 100000 in
theorem en_5_40 : zE2 zFn "ReedOracles$Reader" 5 40 (3, 34, 1, 0, 3, 2) := ⟨⟨mt_34, rfl, rfl, wd_560, wd_122, ⟨by decide, by decide⟩, fun _ => rfl, fun h => absurd rfl h, zite_neg (by decide) ⟨TX2, 10, rfl, wd_557, wd_558, wd_559, by decide +kernel, by decide⟩⟩, fun _ => trivial⟩
set_option maxRecDepth 100000 in
theorem en_5_43 : zE2 zFn "ReedOracles$Reader" 5 43 (0, 640, 0, 0, 0, 0) := ⟨⟨RX10, TX10, 2, rfl, inT10, by decide, wd_253⟩, fun mn h => ⟨RX10, TX10, 2, tyX10, .int, rfl, inT10, by decide, wd_253, tyX10_ok, nmX10, by decide +kernel, fun _ => rfl, fun h => absurd h (by decide), fun h => absurd h (by decide), fun h2 => absurd h2 (by decide)⟩⟩
set_option maxRecDepth 100000 in
theorem en_5_47 : zE2 zFn "ReedOracles$Reader" 5 47 (0, 192, 0, 0, 0, 0) := ⟨⟨RX3, TX3, 4, rfl, inT3, by decide, wd_268⟩, fun mn h => ⟨RX3, TX3, 4, tyX3, .int, rfl, inT3, by decide, wd_268, tyX3_ok, nmX3, by decide +kernel, fun _ => rfl, fun h => absurd h (by decide), fun h => absurd h (by decide), fun h2 => absurd h2 (by decide)⟩⟩
set_option maxRecDepth 100000 in
theorem en_5_48 : zE2 zFn "ReedOracles$Reader" 5 48 (0, 323, 0, 0, 0, 0) := ⟨⟨RX5, TX5, 11, rfl, inT5, by decide, wd_334⟩, fun mn h => ⟨RX5, TX5, 11, tyX5, .int, rfl, inT5, by decide, wd_334, tyX5_ok, nmX5, by decide +kernel, fun _ => rfl, fun h => absurd h (by decide), fun h => absurd h (by decide), fun h2 => absurd h2 (by decide)⟩⟩
set_option maxRecDepth 100000 in
theorem en_5_51 : zE2 zFn "ReedOracles$Reader" 5 51 (0, 324, 0, 0, 0, 0) := ⟨⟨RX5, TX5, 11, rfl, inT5, by decide, wd_336⟩, fun mn h => ⟨RX5, TX5, 11, tyX5, .int, rfl, inT5, by decide, wd_336, tyX5_ok, nmX5, by decide +kernel, fun _ => rfl, fun h => absurd h (by decide), fun h => absurd h (by decide), fun h2 => absurd h2 (by decide)⟩⟩
set_option maxRecDepth 100000 in
theorem en_5_54 : zE2 zFn "ReedOracles$Reader" 5 54 (0, 327, 0, 0, 0, 0) := ⟨⟨RX5, TX5, 11, rfl, inT5, by decide, wd_340⟩, fun mn h => ⟨RX5, TX5, 11, tyX5, .int, rfl, inT5, by decide, wd_340, tyX5_ok, nmX5, by decide +kernel, fun _ => rfl, fun h => absurd h (by decide), fun h => absurd h (by decide), fun h2 => absurd h2 (by decide)⟩⟩
set_option maxRecDepth 100000 in
theorem en_5_57 : zE2 zFn "ReedOracles$Reader" 5 57 (3, 87, 1, 0, 6, 1) := ⟨⟨mt_87, rfl, rfl, wd_564, wd_125, ⟨by decide, by decide⟩, fun _ => rfl, fun h => absurd rfl h, zite_neg (by decide) ⟨TX5, 11, rfl, wd_561, wd_563, wd_1, by decide +kernel, by decide⟩⟩, fun _ => trivial⟩
set_option maxRecDepth 100000 in
theorem en_5_60 : zE2 zFn "ReedOracles$Reader" 5 60 (0, 329, 0, 0, 0, 0) := ⟨⟨RX5, TX5, 11, rfl, inT5, by decide, wd_342⟩, fun mn h => ⟨RX5, TX5, 11, tyX5, .int, rfl, inT5, by decide, wd_342, tyX5_ok, nmX5, by decide +kernel, fun _ => rfl, fun h => absurd h (by decide), fun h => absurd h (by decide), fun h2 => absurd h2 (by decide)⟩⟩
set_option maxRecDepth 100000 in
theorem en_5_63 : zE2 zFn "ReedOracles$Reader" 5 63 (3, 76, 2, 1, 6, 4) := ⟨⟨mt_76, rfl, rfl, wd_582, wd_125, ⟨by decide, by decide⟩, fun h => absurd h (by decide), fun _ => rfl, zite_neg (by decide) ⟨TX5, 11, rfl, wd_579, wd_581, wd_4, by decide +kernel, by decide⟩⟩, fun _ => trivial⟩
set_option maxRecDepth 100000 in
theorem en_5_67 : zE2 zFn "ReedOracles$Reader" 5 67 (0, 328, 0, 0, 0, 0) := ⟨⟨RX5, TX5, 11, rfl, inT5, by decide, wd_341⟩, fun mn h => ⟨RX5, TX5, 11, tyX5, .int, rfl, inT5, by decide, wd_341, tyX5_ok, nmX5, by decide +kernel, fun _ => rfl, fun h => absurd h (by decide), fun h => absurd h (by decide), fun h2 => absurd h2 (by decide)⟩⟩
set_option maxRecDepth 100000 in
theorem en_5_70 : zE2 zFn "ReedOracles$Reader" 5 70 (3, 81, 2, 1, 6, 2) := ⟨⟨mt_81, rfl, rfl, wd_586, wd_125, ⟨by decide, by decide⟩, fun h => absurd h (by decide), fun _ => rfl, zite_neg (by decide) ⟨TX5, 11, rfl, wd_583, wd_585, wd_5, by decide +kernel, by decide⟩⟩, fun _ => trivial⟩
set_option maxRecDepth 100000 in
theorem en_5_74 : zE2 zFn "ReedOracles$Reader" 5 74 (3, 78, 2, 1, 6, 2) := ⟨⟨mt_78, rfl, rfl, wd_666, wd_125, ⟨by decide, by decide⟩, fun h => absurd h (by decide), fun _ => rfl, zite_neg (by decide) ⟨TX5, 11, rfl, wd_663, wd_665, wd_10, by decide +kernel, by decide⟩⟩, fun _ => trivial⟩
set_option maxRecDepth 100000 in
theorem en_5_77 : zE2 zFn "ReedOracles$Reader" 5 77 (3, 77, 2, 0, 6, 2) := ⟨⟨mt_77, rfl, rfl, wd_670, wd_125, ⟨by decide, by decide⟩, fun _ => rfl, fun h => absurd rfl h, zite_neg (by decide) ⟨TX5, 11, rfl, wd_667, wd_669, wd_11, by decide +kernel, by decide⟩⟩, fun _ => trivial⟩
set_option maxRecDepth 100000 in
theorem en_5_81 : zE2 zFn "ReedOracles$Reader" 5 81 (8, 1000002, 0, 0, 0, 0) := ⟨⟨0, _, rfl, rfl, wd_671⟩, fun _ => trivial⟩
set_option maxRecDepth 100000 in
theorem en_5_84 : zE2 zFn "ReedOracles$Reader" 5 84 (0, 330, 0, 0, 0, 0) := ⟨⟨RX5, TX5, 11, rfl, inT5, by decide, wd_343⟩, fun mn h => ⟨RX5, TX5, 11, tyX5, .int, rfl, inT5, by decide, wd_343, tyX5_ok, nmX5, by decide +kernel, fun _ => rfl, fun h => absurd h (by decide), fun h => absurd h (by decide), fun h2 => absurd h2 (by decide)⟩⟩
set_option maxRecDepth 100000 in
theorem en_5_87 : zE2 zFn "ReedOracles$Reader" 5 87 (3, 79, 3, 1, 6, 5) := ⟨⟨mt_79, rfl, rfl, wd_676, wd_125, ⟨by decide, by decide⟩, fun h => absurd h (by decide), fun _ => rfl, zite_neg (by decide) ⟨TX5, 11, rfl, wd_673, wd_675, wd_12, by decide +kernel, by decide⟩⟩, fun _ => trivial⟩
set_option maxRecDepth 100000 in
theorem en_5_91 : zE2 zFn "ReedOracles$Reader" 5 91 (3, 85, 1, 1, 6, 1) := ⟨⟨mt_85, rfl, rfl, wd_684, wd_125, ⟨by decide, by decide⟩, fun h => absurd h (by decide), fun _ => rfl, zite_neg (by decide) ⟨TX5, 11, rfl, wd_681, wd_683, wd_13, by decide +kernel, by decide⟩⟩, fun _ => trivial⟩
set_option maxRecDepth 100000 in
theorem en_5_95 : zE2 zFn "ReedOracles$Reader" 5 95 (3, 80, 3, 0, 6, 3) := ⟨⟨mt_80, rfl, rfl, wd_691, wd_125, ⟨by decide, by decide⟩, fun _ => rfl, fun h => absurd rfl h, zite_neg (by decide) ⟨TX5, 11, rfl, wd_688, wd_690, wd_14, by decide +kernel, by decide⟩⟩, fun _ => trivial⟩
set_option maxRecDepth 100000 in
theorem en_5_99 : zE2 zFn "ReedOracles$Reader" 5 99 (0, 128, 0, 0, 0, 0) := ⟨⟨RX2, TX2, 10, rfl, inT2, by decide, wd_186⟩, fun mn h => ⟨RX2, TX2, 10, tyX2, .int, rfl, inT2, by decide, wd_186, tyX2_ok, nmX2, by decide +kernel, fun _ => rfl, fun h => absurd h (by decide), fun h => absurd h (by decide), fun h2 => absurd h2 (by decide)⟩⟩
set_option maxRecDepth 100000 in
theorem en_5_102 : zE2 zFn "ReedOracles$Reader" 5 102 (0, 129, 0, 0, 0, 0) := ⟨⟨RX2, TX2, 10, rfl, inT2, by decide, wd_191⟩, fun mn h => ⟨RX2, TX2, 10, tyX2, .int, rfl, inT2, by decide, wd_191, tyX2_ok, nmX2, by decide +kernel, fun _ => rfl, fun h => absurd h (by decide), fun h => absurd h (by decide), fun h2 => absurd h2 (by decide)⟩⟩
set_option maxRecDepth 100000 in
theorem en_5_105 : zE2 zFn "ReedOracles$Reader" 5 105 (0, 130, 0, 0, 0, 0) := ⟨⟨RX2, TX2, 10, rfl, inT2, by decide, wd_197⟩, fun mn h => ⟨RX2, TX2, 10, tyX2, .int, rfl, inT2, by decide, wd_197, tyX2_ok, nmX2, by decide +kernel, fun _ => rfl, fun h => absurd h (by decide), fun h => absurd h (by decide), fun h2 => absurd h2 (by decide)⟩⟩
set_option maxRecDepth 100000 in
theorem en_5_108 : zE2 zFn "ReedOracles$Reader" 5 108 (8, 1000003, 0, 0, 0, 0) := ⟨⟨1, _, rfl, rfl, wd_677⟩, fun _ => trivial⟩
set_option maxRecDepth 100000 in
theorem en_5_111 : zE2 zFn "ReedOracles$Reader" 5 111 (8, 1000004, 0, 0, 0, 0) := ⟨⟨2, _, rfl, rfl, wd_679⟩, fun _ => trivial⟩
set_option maxRecDepth 100000 in
theorem en_5_114 : zE2 zFn "ReedOracles$Reader" 5 114 (3, 36, 3, 0, 3, 3) := ⟨⟨mt_36, rfl, rfl, wd_695, wd_122, ⟨by decide, by decide⟩, fun _ => rfl, fun h => absurd rfl h, zite_neg (by decide) ⟨TX2, 10, rfl, wd_692, wd_693, wd_694, by decide +kernel, by decide⟩⟩, fun _ => trivial⟩
set_option maxRecDepth 100000 in
theorem en_5_117 : zE2 zFn "ReedOracles$Reader" 5 117 (3, 37, 2, 0, 3, 2) := ⟨⟨mt_37, rfl, rfl, wd_699, wd_122, ⟨by decide, by decide⟩, fun _ => rfl, fun h => absurd rfl h, zite_neg (by decide) ⟨TX2, 10, rfl, wd_696, wd_697, wd_698, by decide +kernel, by decide⟩⟩, fun _ => trivial⟩
set_option maxRecDepth 100000 in
theorem en_5_120 : zE2 zFn "ReedOracles$Reader" 5 120 (3, 38, 3, 0, 3, 3) := ⟨⟨mt_38, rfl, rfl, wd_703, wd_122, ⟨by decide, by decide⟩, fun _ => rfl, fun h => absurd rfl h, zite_neg (by decide) ⟨TX2, 10, rfl, wd_700, wd_701, wd_702, by decide +kernel, by decide⟩⟩, fun _ => trivial⟩
set_option maxRecDepth 100000 in
theorem en_5_123 : zE2 zFn "ReedOracles$Reader" 5 123 (0, 131, 0, 0, 0, 0) := ⟨⟨RX2, TX2, 10, rfl, inT2, by decide, wd_204⟩, fun mn h => ⟨RX2, TX2, 10, tyX2, .int, rfl, inT2, by decide, wd_204, tyX2_ok, nmX2, by decide +kernel, fun _ => rfl, fun h => absurd h (by decide), fun h => absurd h (by decide), fun h2 => absurd h2 (by decide)⟩⟩
set_option maxRecDepth 100000 in
theorem en_5_126 : zE2 zFn "ReedOracles$Reader" 5 126 (1, 137, 0, 0, 0, 0) := ⟨⟨RX2, TX2, 10, rfl, inT2, by decide, wd_223⟩, fun mn h => ⟨RX2, TX2, 10, tyX2, (.array .int), rfl, inT2, by decide, wd_223, tyX2_ok, nmX2, by decide +kernel, fun h => absurd h (by decide), fun h => absurd h (by decide), fun _ => Or.inr ⟨_, rfl⟩, fun _ => absurd (h (by decide)).2 (by decide)⟩⟩
set_option maxRecDepth 100000 in
theorem en_5_129 : zE2 zFn "ReedOracles$Reader" 5 129 (3, 54, 4, 0, 4, 4) := ⟨⟨mt_54, rfl, rfl, wd_707, wd_124, ⟨by decide, by decide⟩, fun _ => rfl, fun h => absurd rfl h, zite_neg (by decide) ⟨TX3, 4, rfl, wd_704, wd_705, wd_706, by decide +kernel, by decide⟩⟩, fun _ => trivial⟩
set_option maxRecDepth 100000 in
theorem en_5_133 : zE2 zFn "ReedOracles$Reader" 5 133 (3, 146, 4, 0, 11, 6) := ⟨⟨mt_146, rfl, rfl, wd_711, wd_123, ⟨by decide, by decide⟩, fun _ => rfl, fun h => absurd rfl h, zite_neg (by decide) ⟨TX10, 2, rfl, wd_708, wd_709, wd_710, by decide +kernel, by decide⟩⟩, fun _ => trivial⟩
set_option maxRecDepth 100000 in
theorem en_5_136 : zE2 zFn "ReedOracles$Reader" 5 136 (3, 82, 1, 1, 6, 1) := ⟨⟨mt_82, rfl, rfl, wd_590, wd_125, ⟨by decide, by decide⟩, fun h => absurd h (by decide), fun _ => rfl, zite_neg (by decide) ⟨TX5, 11, rfl, wd_587, wd_589, wd_6, by decide +kernel, by decide⟩⟩, fun _ => trivial⟩
set_option maxRecDepth 100000 in
theorem en_5_139 : zE2 zFn "ReedOracles$Reader" 5 139 (3, 83, 1, 1, 6, 1) := ⟨⟨mt_83, rfl, rfl, wd_651, wd_125, ⟨by decide, by decide⟩, fun h => absurd h (by decide), fun _ => rfl, zite_neg (by decide) ⟨TX5, 11, rfl, wd_648, wd_650, wd_8, by decide +kernel, by decide⟩⟩, fun _ => trivial⟩
set_option maxRecDepth 100000 in
theorem en_5_142 : zE2 zFn "ReedOracles$Reader" 5 142 (3, 84, 1, 1, 6, 1) := ⟨⟨mt_84, rfl, rfl, wd_660, wd_125, ⟨by decide, by decide⟩, fun h => absurd h (by decide), fun _ => rfl, zite_neg (by decide) ⟨TX5, 11, rfl, wd_657, wd_659, wd_9, by decide +kernel, by decide⟩⟩, fun _ => trivial⟩
set_option maxRecDepth 100000 in
theorem en_5_145 : zE2 zFn "ReedOracles$Reader" 5 145 (7, 1000100, 0, 0, 0, 0) := ⟨⟨rfl, 0, _, rfl, rfl, rfl⟩, fun _ => trivial⟩
set_option maxRecDepth 100000 in
theorem en_5_147 : zE2 zFn "ReedOracles$Reader" 5 147 (3, 86, 2, 1, 6, 3) := ⟨⟨mt_86, rfl, rfl, wd_595, wd_125, ⟨by decide, by decide⟩, fun h => absurd h (by decide), fun _ => rfl, zite_neg (by decide) ⟨TX5, 11, rfl, wd_592, wd_594, wd_7, by decide +kernel, by decide⟩⟩, fun _ => trivial⟩
set_option maxRecDepth 100000 in
theorem en_5_151 : zE2 zFn "ReedOracles$Reader" 5 151 (7, 1000101, 0, 0, 0, 0) := ⟨⟨rfl, 1, _, rfl, rfl, rfl⟩, fun _ => trivial⟩
set_option maxRecDepth 100000 in
theorem en_5_153 : zE2 zFn "ReedOracles$Reader" 5 153 (7, 1000102, 0, 0, 0, 0) := ⟨⟨rfl, 2, _, rfl, rfl, rfl⟩, fun _ => trivial⟩
set_option maxRecDepth 100000 in
theorem en_5_155 : zE2 zFn "ReedOracles$Reader" 5 155 (7, 1000104, 0, 0, 0, 0) := ⟨⟨rfl, 4, _, rfl, rfl, rfl⟩, fun _ => trivial⟩
set_option maxRecDepth 100000 in
theorem en_5_156 : zE2 zFn "ReedOracles$Reader" 5 156 (7, 1000103, 0, 0, 0, 0) := ⟨⟨rfl, 3, _, rfl, rfl, rfl⟩, fun _ => trivial⟩
set_option maxRecDepth 100000 in
theorem en_5_157 : zE2 zFn "ReedOracles$Reader" 5 157 (7, 1000105, 0, 0, 0, 0) := ⟨⟨rfl, 5, _, rfl, rfl, rfl⟩, fun _ => trivial⟩
set_option maxRecDepth 100000 in
theorem en_5_159 : zE2 zFn "ReedOracles$Reader" 5 159 (7, 1000106, 0, 0, 0, 0) := ⟨⟨rfl, 6, _, rfl, rfl, rfl⟩, fun _ => trivial⟩
set_option maxRecDepth 100000 in
theorem en_5_161 : zE2 zFn "ReedOracles$Reader" 5 161 (7, 1000107, 0, 0, 0, 0) := ⟨⟨rfl, 7, _, rfl, rfl, rfl⟩, fun _ => trivial⟩
set_option maxRecDepth 100000 in
theorem en_5_163 : zE2 zFn "ReedOracles$Reader" 5 163 (7, 1000108, 0, 0, 0, 0) := ⟨⟨rfl, 8, _, rfl, rfl, rfl⟩, fun _ => trivial⟩
set_option maxRecDepth 100000 in
theorem en_5_165 : zE2 zFn "ReedOracles$Reader" 5 165 (7, 1000109, 0, 0, 0, 0) := ⟨⟨rfl, 9, _, rfl, rfl, rfl⟩, fun _ => trivial⟩
set_option maxRecDepth 100000 in
theorem en_5_167 : zE2 zFn "ReedOracles$Reader" 5 167 (7, 1000110, 0, 0, 0, 0) := ⟨⟨rfl, 10, _, rfl, rfl, rfl⟩, fun _ => trivial⟩
set_option maxRecDepth 100000 in
theorem en_5_169 : zE2 zFn "ReedOracles$Reader" 5 169 (7, 1000111, 0, 0, 0, 0) := ⟨⟨rfl, 11, _, rfl, rfl, rfl⟩, fun _ => trivial⟩
set_option maxRecDepth 100000 in
theorem en_5_171 : zE2 zFn "ReedOracles$Reader" 5 171 (7, 1000112, 0, 0, 0, 0) := ⟨⟨rfl, 12, _, rfl, rfl, rfl⟩, fun _ => trivial⟩
set_option maxRecDepth 100000 in
theorem en_5_173 : zE2 zFn "ReedOracles$Reader" 5 173 (7, 1000113, 0, 0, 0, 0) := ⟨⟨rfl, 13, _, rfl, rfl, rfl⟩, fun _ => trivial⟩
set_option maxRecDepth 100000 in
theorem en_5_175 : zE2 zFn "ReedOracles$Reader" 5 175 (7, 1000114, 0, 0, 0, 0) := ⟨⟨rfl, 14, _, rfl, rfl, rfl⟩, fun _ => trivial⟩
set_option maxRecDepth 100000 in
theorem en_5_177 : zE2 zFn "ReedOracles$Reader" 5 177 (13, 0, 0, 0, 0, 0) := ⟨wd_596, fun _ => trivial⟩
set_option maxRecDepth 100000 in
theorem en_5_182 : zE2 zFn "ReedOracles$Reader" 5 182 (1, 512, 0, 0, 0, 0) := ⟨⟨RX8, TX8, 2, rfl, inT8, by decide, wd_161⟩, fun mn h => ⟨RX8, TX8, 2, tyX8, (.array .byte), rfl, inT8, by decide, wd_161, tyX8_ok, nmX8, by decide +kernel, fun h => absurd h (by decide), fun h => absurd h (by decide), fun _ => Or.inr ⟨_, rfl⟩, fun _ => absurd (h (by decide)).2 (by decide)⟩⟩
set_option maxRecDepth 100000 in
theorem en_5_188 : zE2 zFn "ReedOracles$Reader" 5 188 (14, 0, 0, 0, 0, 0) := ⟨wd_606, fun _ => trivial⟩
set_option maxRecDepth 100000 in
theorem en_5_192 : zE2 zFn "ReedOracles$Reader" 5 192 (0, 513, 0, 0, 0, 0) := ⟨⟨RX8, TX8, 2, rfl, inT8, by decide, wd_165⟩, fun mn h => ⟨RX8, TX8, 2, tyX8, .int, rfl, inT8, by decide, wd_165, tyX8_ok, nmX8, by decide +kernel, fun _ => rfl, fun h => absurd h (by decide), fun h => absurd h (by decide), fun h2 => absurd h2 (by decide)⟩⟩
set_option maxRecDepth 100000 in
theorem en_5_193 : zE2 zFn "ReedOracles$Reader" 5 193 (3, 90, 1, 1, 0, 1) := ⟨⟨mt_90, rfl, rfl, wd_567, wd_125, ⟨by decide, by decide⟩, fun h => absurd h (by decide), fun _ => rfl, ⟨wd_566, by decide +kernel, Or.inl wd_565⟩⟩, fun _ => trivial⟩
set_option maxRecDepth 100000 in
theorem en_5_197 : zE2 zFn "ReedOracles$Reader" 5 197 (3, 88, 1, 0, 6, 1) := ⟨⟨mt_88, rfl, rfl, wd_571, wd_125, ⟨by decide, by decide⟩, fun _ => rfl, fun h => absurd rfl h, zite_neg (by decide) ⟨TX5, 11, rfl, wd_568, wd_570, wd_2, by decide +kernel, by decide⟩⟩, fun _ => trivial⟩
set_option maxRecDepth 100000 in
theorem en_5_200 : zE2 zFn "ReedOracles$Reader" 5 200 (3, 91, 1, 1, 0, 1) := ⟨⟨mt_91, rfl, rfl, wd_574, wd_125, ⟨by decide, by decide⟩, fun h => absurd h (by decide), fun _ => rfl, ⟨wd_573, by decide +kernel, Or.inl wd_572⟩⟩, fun _ => trivial⟩
set_option maxRecDepth 100000 in
theorem en_5_203 : zE2 zFn "ReedOracles$Reader" 5 203 (3, 89, 1, 0, 6, 1) := ⟨⟨mt_89, rfl, rfl, wd_578, wd_125, ⟨by decide, by decide⟩, fun _ => rfl, fun h => absurd rfl h, zite_neg (by decide) ⟨TX5, 11, rfl, wd_575, wd_577, wd_3, by decide +kernel, by decide⟩⟩, fun _ => trivial⟩
set_option maxRecDepth 100000 in
theorem pf_5 : ∀ q ∈ zPl_5, zE2 zFn "ReedOracles$Reader" 5 q.1 q.2 := List.forall_mem_cons.mpr ⟨en_5_3, List.forall_mem_cons.mpr ⟨en_5_9, List.forall_mem_cons.mpr ⟨en_5_15, List.forall_mem_cons.mpr ⟨en_5_17, List.forall_mem_cons.mpr ⟨en_5_18, List.forall_mem_cons.mpr ⟨en_5_22, List.forall_mem_cons.mpr ⟨en_5_24, List.forall_mem_cons.mpr ⟨en_5_25, List.forall_mem_cons.mpr ⟨en_5_29, List.forall_mem_cons.mpr ⟨en_5_31, List.forall_mem_cons.mpr ⟨en_5_32, List.forall_mem_cons.mpr ⟨en_5_36, List.forall_mem_cons.mpr ⟨en_5_40, List.forall_mem_cons.mpr ⟨en_5_43, List.forall_mem_cons.mpr ⟨en_5_47, List.forall_mem_cons.mpr ⟨en_5_48, List.forall_mem_cons.mpr ⟨en_5_51, List.forall_mem_cons.mpr ⟨en_5_54, List.forall_mem_cons.mpr ⟨en_5_57, List.forall_mem_cons.mpr ⟨en_5_60, List.forall_mem_cons.mpr ⟨en_5_63, List.forall_mem_cons.mpr ⟨en_5_67, List.forall_mem_cons.mpr ⟨en_5_70, List.forall_mem_cons.mpr ⟨en_5_74, List.forall_mem_cons.mpr ⟨en_5_77, List.forall_mem_cons.mpr ⟨en_5_81, List.forall_mem_cons.mpr ⟨en_5_84, List.forall_mem_cons.mpr ⟨en_5_87, List.forall_mem_cons.mpr ⟨en_5_91, List.forall_mem_cons.mpr ⟨en_5_95, List.forall_mem_cons.mpr ⟨en_5_99, List.forall_mem_cons.mpr ⟨en_5_102, List.forall_mem_cons.mpr ⟨en_5_105, List.forall_mem_cons.mpr ⟨en_5_108, List.forall_mem_cons.mpr ⟨en_5_111, List.forall_mem_cons.mpr ⟨en_5_114, List.forall_mem_cons.mpr ⟨en_5_117, List.forall_mem_cons.mpr ⟨en_5_120, List.forall_mem_cons.mpr ⟨en_5_123, List.forall_mem_cons.mpr ⟨en_5_126, List.forall_mem_cons.mpr ⟨en_5_129, List.forall_mem_cons.mpr ⟨en_5_133, List.forall_mem_cons.mpr ⟨en_5_136, List.forall_mem_cons.mpr ⟨en_5_139, List.forall_mem_cons.mpr ⟨en_5_142, List.forall_mem_cons.mpr ⟨en_5_145, List.forall_mem_cons.mpr ⟨en_5_147, List.forall_mem_cons.mpr ⟨en_5_151, List.forall_mem_cons.mpr ⟨en_5_153, List.forall_mem_cons.mpr ⟨en_5_155, List.forall_mem_cons.mpr ⟨en_5_156, List.forall_mem_cons.mpr ⟨en_5_157, List.forall_mem_cons.mpr ⟨en_5_159, List.forall_mem_cons.mpr ⟨en_5_161, List.forall_mem_cons.mpr ⟨en_5_163, List.forall_mem_cons.mpr ⟨en_5_165, List.forall_mem_cons.mpr ⟨en_5_167, List.forall_mem_cons.mpr ⟨en_5_169, List.forall_mem_cons.mpr ⟨en_5_171, List.forall_mem_cons.mpr ⟨en_5_173, List.forall_mem_cons.mpr ⟨en_5_175, List.forall_mem_cons.mpr ⟨en_5_177, List.forall_mem_cons.mpr ⟨en_5_182, List.forall_mem_cons.mpr ⟨en_5_188, List.forall_mem_cons.mpr ⟨en_5_192, List.forall_mem_cons.mpr ⟨en_5_193, List.forall_mem_cons.mpr ⟨en_5_197, List.forall_mem_cons.mpr ⟨en_5_200, List.forall_mem_cons.mpr ⟨en_5_203, (fun _ h => absurd h List.not_mem_nil)⟩⟩⟩⟩⟩⟩⟩⟩⟩⟩⟩⟩⟩⟩⟩⟩⟩⟩⟩⟩⟩⟩⟩⟩⟩⟩⟩⟩⟩⟩⟩⟩⟩⟩⟩⟩⟩⟩⟩⟩⟩⟩⟩⟩⟩⟩⟩⟩⟩⟩⟩⟩⟩⟩⟩⟩⟩⟩⟩⟩⟩⟩⟩⟩⟩⟩⟩⟩⟩
set_option maxRecDepth 100000 in
theorem pk_5 : ∀ idx e, zlk zPl_5 idx = some e → zE2 zFn "ReedOracles$Reader" 5 idx e := fun idx e h => pf_5 _ (zlk_mem _ _ _ h)
set_option maxRecDepth 100000 in
theorem en_6_3 : zE2 zFn "ReedOracles$Survey" 6 3 (9, 0, 0, 0, 0, 0) := ⟨⟨wd_488, wd_146, wd_147⟩, fun _ => trivial⟩
set_option maxRecDepth 100000 in
theorem en_6_9 : zE2 zFn "ReedOracles$Survey" 6 9 (1, 384, 0, 0, 0, 0) := ⟨⟨RX6, TX6, 3, rfl, inT6, by decide, wd_489⟩, fun mn h => ⟨RX6, TX6, 3, tyX6, (.array .int), rfl, inT6, by decide, wd_489, tyX6_ok, nmX6, by decide +kernel, fun h => absurd h (by decide), fun h => absurd h (by decide), fun _ => Or.inr ⟨_, rfl⟩, fun _ => ⟨(h (by decide)).1, rfl⟩⟩⟩
set_option maxRecDepth 100000 in
theorem en_6_15 : zE2 zFn "ReedOracles$Survey" 6 15 (1, 385, 0, 0, 0, 0) := ⟨⟨RX6, TX6, 3, rfl, inT6, by decide, wd_491⟩, fun mn h => ⟨RX6, TX6, 3, tyX6, (.array .int), rfl, inT6, by decide, wd_491, tyX6_ok, nmX6, by decide +kernel, fun h => absurd h (by decide), fun h => absurd h (by decide), fun _ => Or.inr ⟨_, rfl⟩, fun _ => ⟨(h (by decide)).1, rfl⟩⟩⟩
set_option maxRecDepth 100000 in
theorem en_6_18 : zE2 zFn "ReedOracles$Survey" 6 18 (1, 386, 0, 0, 0, 0) := ⟨⟨RX6, TX6, 3, rfl, inT6, by decide, wd_493⟩, fun mn h => ⟨RX6, TX6, 3, tyX6, (.array .int), rfl, inT6, by decide, wd_493, tyX6_ok, nmX6, by decide +kernel, fun h => absurd h (by decide), fun h => absurd h (by decide), fun _ => Or.inr ⟨_, rfl⟩, fun _ => ⟨(h (by decide)).1, rfl⟩⟩⟩
set_option maxRecDepth 100000 in
theorem en_6_21 : zE2 zFn "ReedOracles$Survey" 6 21 (0, 129, 0, 0, 0, 0) := ⟨⟨RX2, TX2, 10, rfl, inT2, by decide, wd_190⟩, fun mn h => ⟨RX2, TX2, 10, tyX2, .int, rfl, inT2, by decide, wd_190, tyX2_ok, nmX2, by decide +kernel, fun _ => rfl, fun h => absurd h (by decide), fun h => absurd h (by decide), fun h2 => absurd h2 (by decide)⟩⟩
set_option maxRecDepth 100000 in
theorem en_6_27 : zE2 zFn "ReedOracles$Survey" 6 27 (0, 130, 0, 0, 0, 0) := ⟨⟨RX2, TX2, 10, rfl, inT2, by decide, wd_195⟩, fun mn h => ⟨RX2, TX2, 10, tyX2, .int, rfl, inT2, by decide, wd_195, tyX2_ok, nmX2, by decide +kernel, fun _ => rfl, fun h => absurd h (by decide), fun h => absurd h (by decide), fun h2 => absurd h2 (by decide)⟩⟩
set_option maxRecDepth 100000 in
theorem en_6_30 : zE2 zFn "ReedOracles$Survey" 6 30 (3, 51, 4, 1, 3, 4) := ⟨⟨mt_51, rfl, rfl, wd_957, wd_122, ⟨by decide, by decide⟩, fun h => absurd h (by decide), fun _ => rfl, zite_neg (by decide) ⟨TX2, 10, rfl, wd_1029, wd_955, wd_956, by decide +kernel, by decide⟩⟩, fun _ => trivial⟩
set_option maxRecDepth 100000 in
theorem en_6_34 : zE2 zFn "ReedOracles$Survey" 6 34 (3, 324, 2, 0, 0, 4) := ⟨⟨mt_324, rfl, rfl, wd_823, wd_138, ⟨by decide, by decide⟩, fun _ => rfl, fun h => absurd rfl h, ⟨wd_822, by decide +kernel, Or.inl wd_1038⟩⟩, fun _ => trivial⟩
set_option maxRecDepth 100000 in
theorem en_6_40 : zE2 zFn "ReedOracles$Survey" 6 40 (0, 128, 0, 0, 0, 0) := ⟨⟨RX2, TX2, 10, rfl, inT2, by decide, wd_185⟩, fun mn h => ⟨RX2, TX2, 10, tyX2, .int, rfl, inT2, by decide, wd_185, tyX2_ok, nmX2, by decide +kernel, fun _ => rfl, fun h => absurd h (by decide), fun h => absurd h (by decide), fun h2 => absurd h2 (by decide)⟩⟩
set_option maxRecDepth 100000 in
theorem en_6_43 : zE2 zFn "ReedOracles$Survey" 6 43 (1, 132, 0, 0, 0, 0) := ⟨⟨RX2, TX2, 10, rfl, inT2, by decide, wd_209⟩, fun mn h => ⟨RX2, TX2, 10, tyX2, (.array .int), rfl, inT2, by decide, wd_209, tyX2_ok, nmX2, by decide +kernel, fun h => absurd h (by decide), fun h => absurd h (by decide), fun _ => Or.inr ⟨_, rfl⟩, fun _ => absurd (h (by decide)).2 (by decide)⟩⟩
set_option maxRecDepth 100000 in
theorem en_6_46 : zE2 zFn "ReedOracles$Survey" 6 46 (1, 133, 0, 0, 0, 0) := ⟨⟨RX2, TX2, 10, rfl, inT2, by decide, wd_214⟩, fun mn h => ⟨RX2, TX2, 10, tyX2, (.array .int), rfl, inT2, by decide, wd_214, tyX2_ok, nmX2, by decide +kernel, fun h => absurd h (by decide), fun h => absurd h (by decide), fun _ => Or.inr ⟨_, rfl⟩, fun _ => absurd (h (by decide)).2 (by decide)⟩⟩
set_option maxRecDepth 100000 in
theorem en_6_49 : zE2 zFn "ReedOracles$Survey" 6 49 (3, 47, 6, 1, 3, 7) := ⟨⟨mt_47, rfl, rfl, wd_783, wd_122, ⟨by decide, by decide⟩, fun h => absurd h (by decide), fun _ => rfl, zite_neg (by decide) ⟨TX2, 10, rfl, wd_1039, wd_781, wd_782, by decide +kernel, by decide⟩⟩, fun _ => trivial⟩
set_option maxRecDepth 100000 in
theorem en_6_53 : zE2 zFn "ReedOracles$Survey" 6 53 (3, 95, 2, 0, 7, 2) := ⟨⟨mt_95, rfl, rfl, wd_1043, wd_130, ⟨by decide, by decide⟩, fun _ => rfl, fun h => absurd rfl h, zite_neg (by decide) ⟨TX6, 3, rfl, wd_1040, wd_1042, wd_36, by decide +kernel, by decide⟩⟩, fun _ => trivial⟩
set_option maxRecDepth 100000 in
theorem en_6_57 : zE2 zFn "ReedOracles$Survey" 6 57 (3, 50, 2, 1, 3, 2) := ⟨⟨mt_50, rfl, rfl, wd_791, wd_122, ⟨by decide, by decide⟩, fun h => absurd h (by decide), fun _ => rfl, zite_neg (by decide) ⟨TX2, 10, rfl, wd_1060, wd_789, wd_790, by decide +kernel, by decide⟩⟩, fun _ => trivial⟩
set_option maxRecDepth 100000 in
theorem en_6_61 : zE2 zFn "ReedOracles$Survey" 6 61 (3, 49, 5, 1, 3, 5) := ⟨⟨mt_49, rfl, rfl, wd_997, wd_122, ⟨by decide, by decide⟩, fun h => absurd h (by decide), fun _ => rfl, zite_neg (by decide) ⟨TX2, 10, rfl, wd_1168, wd_995, wd_996, by decide +kernel, by decide⟩⟩, fun _ => trivial⟩
set_option maxRecDepth 100000 in
theorem en_6_65 : zE2 zFn "ReedOracles$Survey" 6 65 (3, 46, 4, 1, 3, 4) := ⟨⟨mt_46, rfl, rfl, wd_787, wd_122, ⟨by decide, by decide⟩, fun h => absurd h (by decide), fun _ => rfl, zite_neg (by decide) ⟨TX2, 10, rfl, wd_1177, wd_785, wd_786, by decide +kernel, by decide⟩⟩, fun _ => trivial⟩
set_option maxRecDepth 100000 in
theorem en_6_69 : zE2 zFn "ReedOracles$Survey" 6 69 (1, 135, 0, 0, 0, 0) := ⟨⟨RX2, TX2, 10, rfl, inT2, by decide, wd_219⟩, fun mn h => ⟨RX2, TX2, 10, tyX2, (.array .int), rfl, inT2, by decide, wd_219, tyX2_ok, nmX2, by decide +kernel, fun h => absurd h (by decide), fun h => absurd h (by decide), fun _ => Or.inr ⟨_, rfl⟩, fun _ => absurd (h (by decide)).2 (by decide)⟩⟩
set_option maxRecDepth 100000 in
theorem en_6_72 : zE2 zFn "ReedOracles$Survey" 6 72 (3, 48, 4, 1, 3, 4) := ⟨⟨mt_48, rfl, rfl, wd_779, wd_122, ⟨by decide, by decide⟩, fun h => absurd h (by decide), fun _ => rfl, zite_neg (by decide) ⟨TX2, 10, rfl, wd_1210, wd_777, wd_778, by decide +kernel, by decide⟩⟩, fun _ => trivial⟩
set_option maxRecDepth 100000 in
theorem en_6_75 : zE2 zFn "ReedOracles$Survey" 6 75 (3, 325, 1, 1, 0, 1) := ⟨⟨mt_325, rfl, rfl, wd_1009, wd_139, ⟨by decide, by decide⟩, fun h => absurd h (by decide), fun _ => rfl, ⟨wd_1008, by decide +kernel, Or.inl wd_1211⟩⟩, fun _ => trivial⟩
set_option maxRecDepth 100000 in
theorem en_6_80 : zE2 zFn "ReedOracles$Survey" 6 80 (3, 102, 4, 1, 7, 6) := ⟨⟨mt_102, rfl, rfl, wd_1223, wd_130, ⟨by decide, by decide⟩, fun h => absurd h (by decide), fun _ => rfl, zite_neg (by decide) ⟨TX6, 3, rfl, wd_1220, wd_1222, wd_43, by decide +kernel, by decide⟩⟩, fun _ => trivial⟩
set_option maxRecDepth 100000 in
theorem en_6_84 : zE2 zFn "ReedOracles$Survey" 6 84 (3, 103, 3, 1, 7, 5) := ⟨⟨mt_103, rfl, rfl, wd_1227, wd_130, ⟨by decide, by decide⟩, fun h => absurd h (by decide), fun _ => rfl, zite_neg (by decide) ⟨TX6, 3, rfl, wd_1224, wd_1226, wd_44, by decide +kernel, by decide⟩⟩, fun _ => trivial⟩
set_option maxRecDepth 100000 in
theorem en_6_88 : zE2 zFn "ReedOracles$Survey" 6 88 (3, 105, 4, 1, 7, 8) := ⟨⟨mt_105, rfl, rfl, wd_1240, wd_130, ⟨by decide, by decide⟩, fun h => absurd h (by decide), fun _ => rfl, zite_neg (by decide) ⟨TX6, 3, rfl, wd_1237, wd_1239, wd_45, by decide +kernel, by decide⟩⟩, fun _ => trivial⟩
set_option maxRecDepth 100000 in
theorem en_6_91 : zE2 zFn "ReedOracles$Survey" 6 91 (3, 195, 2, 1, 0, 2) := ⟨⟨mt_195, rfl, rfl, wd_856, wd_119, ⟨by decide, by decide⟩, fun h => absurd h (by decide), fun _ => rfl, ⟨wd_855, by decide +kernel, Or.inr ⟨"ReedOracles", by decide⟩⟩⟩, fun _ => trivial⟩
set_option maxRecDepth 100000 in
theorem en_6_95 : zE2 zFn "ReedOracles$Survey" 6 95 (3, 107, 6, 1, 7, 9) := ⟨⟨mt_107, rfl, rfl, wd_1253, wd_130, ⟨by decide, by decide⟩, fun h => absurd h (by decide), fun _ => rfl, zite_neg (by decide) ⟨TX6, 3, rfl, wd_1250, wd_1252, wd_46, by decide +kernel, by decide⟩⟩, fun _ => trivial⟩
set_option maxRecDepth 100000 in
theorem en_6_99 : zE2 zFn "ReedOracles$Survey" 6 99 (3, 110, 3, 1, 0, 5) := ⟨⟨mt_110, rfl, rfl, wd_1272, wd_130, ⟨by decide, by decide⟩, fun h => absurd h (by decide), fun _ => rfl, ⟨wd_1271, by decide +kernel, Or.inl wd_1270⟩⟩, fun _ => trivial⟩
set_option maxRecDepth 100000 in
theorem en_6_103 : zE2 zFn "ReedOracles$Survey" 6 103 (3, 111, 3, 1, 7, 5) := ⟨⟨mt_111, rfl, rfl, wd_1280, wd_130, ⟨by decide, by decide⟩, fun h => absurd h (by decide), fun _ => rfl, zite_neg (by decide) ⟨TX6, 3, rfl, wd_1277, wd_1278, wd_1279, by decide +kernel, by decide⟩⟩, fun _ => trivial⟩
set_option maxRecDepth 100000 in
theorem en_6_106 : zE2 zFn "ReedOracles$Survey" 6 106 (1, 137, 0, 0, 0, 0) := ⟨⟨RX2, TX2, 10, rfl, inT2, by decide, wd_224⟩, fun mn h => ⟨RX2, TX2, 10, tyX2, (.array .int), rfl, inT2, by decide, wd_224, tyX2_ok, nmX2, by decide +kernel, fun h => absurd h (by decide), fun h => absurd h (by decide), fun _ => Or.inr ⟨_, rfl⟩, fun _ => absurd (h (by decide)).2 (by decide)⟩⟩
set_option maxRecDepth 100000 in
theorem en_6_109 : zE2 zFn "ReedOracles$Survey" 6 109 (3, 113, 4, 1, 7, 6) := ⟨⟨mt_113, rfl, rfl, wd_1293, wd_130, ⟨by decide, by decide⟩, fun h => absurd h (by decide), fun _ => rfl, zite_neg (by decide) ⟨TX6, 3, rfl, wd_1290, wd_1291, wd_1292, by decide +kernel, by decide⟩⟩, fun _ => trivial⟩
set_option maxRecDepth 100000 in
theorem en_6_112 : zE2 zFn "ReedOracles$Survey" 6 112 (3, 116, 2, 1, 0, 5) := ⟨⟨mt_116, rfl, rfl, wd_1333, wd_130, ⟨by decide, by decide⟩, fun h => absurd h (by decide), fun _ => rfl, ⟨wd_1332, by decide +kernel, Or.inl wd_1331⟩⟩, fun _ => trivial⟩
set_option maxRecDepth 100000 in
theorem en_6_115 : zE2 zFn "ReedOracles$Survey" 6 115 (3, 117, 4, 1, 7, 8) := ⟨⟨mt_117, rfl, rfl, wd_1337, wd_130, ⟨by decide, by decide⟩, fun h => absurd h (by decide), fun _ => rfl, zite_neg (by decide) ⟨TX6, 3, rfl, wd_1334, wd_1336, wd_47, by decide +kernel, by decide⟩⟩, fun _ => trivial⟩
set_option maxRecDepth 100000 in
theorem en_6_118 : zE2 zFn "ReedOracles$Survey" 6 118 (1, 134, 0, 0, 0, 0) := ⟨⟨RX2, TX2, 10, rfl, inT2, by decide, wd_217⟩, fun mn h => ⟨RX2, TX2, 10, tyX2, (.array .int), rfl, inT2, by decide, wd_217, tyX2_ok, nmX2, by decide +kernel, fun h => absurd h (by decide), fun h => absurd h (by decide), fun _ => Or.inr ⟨_, rfl⟩, fun _ => absurd (h (by decide)).2 (by decide)⟩⟩
set_option maxRecDepth 100000 in
theorem en_6_121 : zE2 zFn "ReedOracles$Survey" 6 121 (3, 40, 2, 1, 3, 2) := ⟨⟨mt_40, rfl, rfl, wd_763, wd_122, ⟨by decide, by decide⟩, fun h => absurd h (by decide), fun _ => rfl, zite_neg (by decide) ⟨TX2, 10, rfl, wd_1338, wd_761, wd_762, by decide +kernel, by decide⟩⟩, fun _ => trivial⟩
set_option maxRecDepth 100000 in
theorem en_6_125 : zE2 zFn "ReedOracles$Survey" 6 125 (3, 120, 2, 1, 0, 4) := ⟨⟨mt_120, rfl, rfl, wd_1353, wd_130, ⟨by decide, by decide⟩, fun h => absurd h (by decide), fun _ => rfl, ⟨wd_1352, by decide +kernel, Or.inl wd_1351⟩⟩, fun _ => trivial⟩
set_option maxRecDepth 100000 in
theorem en_6_129 : zE2 zFn "ReedOracles$Survey" 6 129 (3, 194, 1, 1, 0, 1) := ⟨⟨mt_194, rfl, rfl, wd_871, wd_119, ⟨by decide, by decide⟩, fun h => absurd h (by decide), fun _ => rfl, ⟨wd_870, by decide +kernel, Or.inr ⟨"ReedOracles", by decide⟩⟩⟩, fun _ => trivial⟩
set_option maxRecDepth 100000 in
theorem en_6_132 : zE2 zFn "ReedOracles$Survey" 6 132 (11, 0, 0, 0, 0, 0) := ⟨⟨wd_1367, wd_734, wd_137, wd_735⟩, fun _ => trivial⟩
set_option maxRecDepth 100000 in
theorem en_6_138 : zE2 zFn "ReedOracles$Survey" 6 138 (3, 121, 4, 1, 7, 8) := ⟨⟨mt_121, rfl, rfl, wd_1366, wd_130, ⟨by decide, by decide⟩, fun h => absurd h (by decide), fun _ => rfl, zite_neg (by decide) ⟨TX6, 3, rfl, wd_1363, wd_1364, wd_1365, by decide +kernel, by decide⟩⟩, fun _ => trivial⟩
set_option maxRecDepth 100000 in
theorem pf_6 : ∀ q ∈ zPl_6, zE2 zFn "ReedOracles$Survey" 6 q.1 q.2 := List.forall_mem_cons.mpr ⟨en_6_3, List.forall_mem_cons.mpr ⟨en_6_9, List.forall_mem_cons.mpr ⟨en_6_15, List.forall_mem_cons.mpr ⟨en_6_18, List.forall_mem_cons.mpr ⟨en_6_21, List.forall_mem_cons.mpr ⟨en_6_27, List.forall_mem_cons.mpr ⟨en_6_30, List.forall_mem_cons.mpr ⟨en_6_34, List.forall_mem_cons.mpr ⟨en_6_40, List.forall_mem_cons.mpr ⟨en_6_43, List.forall_mem_cons.mpr ⟨en_6_46, List.forall_mem_cons.mpr ⟨en_6_49, List.forall_mem_cons.mpr ⟨en_6_53, List.forall_mem_cons.mpr ⟨en_6_57, List.forall_mem_cons.mpr ⟨en_6_61, List.forall_mem_cons.mpr ⟨en_6_65, List.forall_mem_cons.mpr ⟨en_6_69, List.forall_mem_cons.mpr ⟨en_6_72, List.forall_mem_cons.mpr ⟨en_6_75, List.forall_mem_cons.mpr ⟨en_6_80, List.forall_mem_cons.mpr ⟨en_6_84, List.forall_mem_cons.mpr ⟨en_6_88, List.forall_mem_cons.mpr ⟨en_6_91, List.forall_mem_cons.mpr ⟨en_6_95, List.forall_mem_cons.mpr ⟨en_6_99, List.forall_mem_cons.mpr ⟨en_6_103, List.forall_mem_cons.mpr ⟨en_6_106, List.forall_mem_cons.mpr ⟨en_6_109, List.forall_mem_cons.mpr ⟨en_6_112, List.forall_mem_cons.mpr ⟨en_6_115, List.forall_mem_cons.mpr ⟨en_6_118, List.forall_mem_cons.mpr ⟨en_6_121, List.forall_mem_cons.mpr ⟨en_6_125, List.forall_mem_cons.mpr ⟨en_6_129, List.forall_mem_cons.mpr ⟨en_6_132, List.forall_mem_cons.mpr ⟨en_6_138, (fun _ h => absurd h List.not_mem_nil)⟩⟩⟩⟩⟩⟩⟩⟩⟩⟩⟩⟩⟩⟩⟩⟩⟩⟩⟩⟩⟩⟩⟩⟩⟩⟩⟩⟩⟩⟩⟩⟩⟩⟩⟩⟩
set_option maxRecDepth 100000 in
theorem pk_6 : ∀ idx e, zlk zPl_6 idx = some e → zE2 zFn "ReedOracles$Survey" 6 idx e := fun idx e h => pf_6 _ (zlk_mem _ _ _ h)
set_option maxRecDepth 100000 in
theorem en_7_3 : zE2 zFn "ReedOracles$Suspects" 7 3 (9, 0, 0, 0, 0, 0) := ⟨⟨wd_471, wd_146, wd_147⟩, fun _ => trivial⟩
set_option maxRecDepth 100000 in
theorem en_7_9 : zE2 zFn "ReedOracles$Suspects" 7 9 (1, 449, 0, 0, 0, 0) := ⟨⟨RX7, TX7, 3, rfl, inT7, by decide, wd_474⟩, fun mn h => ⟨RX7, TX7, 3, tyX7, (.array .int), rfl, inT7, by decide, wd_474, tyX7_ok, nmX7, by decide +kernel, fun h => absurd h (by decide), fun h => absurd h (by decide), fun _ => Or.inr ⟨_, rfl⟩, fun _ => ⟨(h (by decide)).1, rfl⟩⟩⟩
set_option maxRecDepth 100000 in
theorem en_7_15 : zE2 zFn "ReedOracles$Suspects" 7 15 (1, 450, 0, 0, 0, 0) := ⟨⟨RX7, TX7, 3, rfl, inT7, by decide, wd_475⟩, fun mn h => ⟨RX7, TX7, 3, tyX7, (.array .int), rfl, inT7, by decide, wd_475, tyX7_ok, nmX7, by decide +kernel, fun h => absurd h (by decide), fun h => absurd h (by decide), fun _ => Or.inr ⟨_, rfl⟩, fun _ => ⟨(h (by decide)).1, rfl⟩⟩⟩
set_option maxRecDepth 100000 in
theorem en_7_18 : zE2 zFn "ReedOracles$Suspects" 7 18 (0, 448, 0, 0, 0, 0) := ⟨⟨RX7, TX7, 3, rfl, inT7, by decide, wd_472⟩, fun mn h => ⟨RX7, TX7, 3, tyX7, .int, rfl, inT7, by decide, wd_472, tyX7_ok, nmX7, by decide +kernel, fun _ => rfl, fun h => absurd h (by decide), fun h => absurd h (by decide), fun h2 => absurd h2 (by decide)⟩⟩
set_option maxRecDepth 100000 in
theorem en_7_22 : zE2 zFn "ReedOracles$Suspects" 7 22 (3, 125, 4, 1, 0, 6) := ⟨⟨mt_125, rfl, rfl, wd_1087, wd_129, ⟨by decide, by decide⟩, fun h => absurd h (by decide), fun _ => rfl, ⟨wd_1086, by decide +kernel, Or.inl wd_1085⟩⟩, fun _ => trivial⟩
set_option maxRecDepth 100000 in
theorem en_7_26 : zE2 zFn "ReedOracles$Suspects" 7 26 (0, 192, 0, 0, 0, 0) := ⟨⟨RX3, TX3, 4, rfl, inT3, by decide, wd_269⟩, fun mn h => ⟨RX3, TX3, 4, tyX3, .int, rfl, inT3, by decide, wd_269, tyX3_ok, nmX3, by decide +kernel, fun _ => rfl, fun h => absurd h (by decide), fun h => absurd h (by decide), fun h2 => absurd h2 (by decide)⟩⟩
set_option maxRecDepth 100000 in
theorem en_7_29 : zE2 zFn "ReedOracles$Suspects" 7 29 (3, 193, 2, 1, 0, 2) := ⟨⟨mt_193, rfl, rfl, wd_851, wd_119, ⟨by decide, by decide⟩, fun h => absurd h (by decide), fun _ => rfl, ⟨wd_850, by decide +kernel, Or.inr ⟨"ReedOracles", by decide⟩⟩⟩, fun _ => trivial⟩
set_option maxRecDepth 100000 in
theorem en_7_33 : zE2 zFn "ReedOracles$Suspects" 7 33 (0, 131, 0, 0, 0, 0) := ⟨⟨RX2, TX2, 10, rfl, inT2, by decide, wd_203⟩, fun mn h => ⟨RX2, TX2, 10, tyX2, .int, rfl, inT2, by decide, wd_203, tyX2_ok, nmX2, by decide +kernel, fun _ => rfl, fun h => absurd h (by decide), fun h => absurd h (by decide), fun h2 => absurd h2 (by decide)⟩⟩
set_option maxRecDepth 100000 in
theorem en_7_38 : zE2 zFn "ReedOracles$Suspects" 7 38 (1, 193, 0, 0, 0, 0) := ⟨⟨RX3, TX3, 4, rfl, inT3, by decide, wd_273⟩, fun mn h => ⟨RX3, TX3, 4, tyX3, (.array .int), rfl, inT3, by decide, wd_273, tyX3_ok, nmX3, by decide +kernel, fun h => absurd h (by decide), fun h => absurd h (by decide), fun _ => Or.inr ⟨_, rfl⟩, fun _ => absurd (h (by decide)).2 (by decide)⟩⟩
set_option maxRecDepth 100000 in
theorem en_7_41 : zE2 zFn "ReedOracles$Suspects" 7 41 (1, 194, 0, 0, 0, 0) := ⟨⟨RX3, TX3, 4, rfl, inT3, by decide, wd_276⟩, fun mn h => ⟨RX3, TX3, 4, tyX3, (.array .int), rfl, inT3, by decide, wd_276, tyX3_ok, nmX3, by decide +kernel, fun h => absurd h (by decide), fun h => absurd h (by decide), fun _ => Or.inr ⟨_, rfl⟩, fun _ => absurd (h (by decide)).2 (by decide)⟩⟩
set_option maxRecDepth 100000 in
theorem en_7_44 : zE2 zFn "ReedOracles$Suspects" 7 44 (3, 47, 6, 1, 3, 7) := ⟨⟨mt_47, rfl, rfl, wd_783, wd_122, ⟨by decide, by decide⟩, fun h => absurd h (by decide), fun _ => rfl, zite_neg (by decide) ⟨TX2, 10, rfl, wd_1089, wd_781, wd_782, by decide +kernel, by decide⟩⟩, fun _ => trivial⟩
set_option maxRecDepth 100000 in
theorem en_7_48 : zE2 zFn "ReedOracles$Suspects" 7 48 (1, 195, 0, 0, 0, 0) := ⟨⟨RX3, TX3, 4, rfl, inT3, by decide, wd_279⟩, fun mn h => ⟨RX3, TX3, 4, tyX3, (.array .int), rfl, inT3, by decide, wd_279, tyX3_ok, nmX3, by decide +kernel, fun h => absurd h (by decide), fun h => absurd h (by decide), fun _ => Or.inr ⟨_, rfl⟩, fun _ => absurd (h (by decide)).2 (by decide)⟩⟩
set_option maxRecDepth 100000 in
theorem en_7_51 : zE2 zFn "ReedOracles$Suspects" 7 51 (0, 128, 0, 0, 0, 0) := ⟨⟨RX2, TX2, 10, rfl, inT2, by decide, wd_187⟩, fun mn h => ⟨RX2, TX2, 10, tyX2, .int, rfl, inT2, by decide, wd_187, tyX2_ok, nmX2, by decide +kernel, fun _ => rfl, fun h => absurd h (by decide), fun h => absurd h (by decide), fun h2 => absurd h2 (by decide)⟩⟩
set_option maxRecDepth 100000 in
theorem en_7_54 : zE2 zFn "ReedOracles$Suspects" 7 54 (1, 132, 0, 0, 0, 0) := ⟨⟨RX2, TX2, 10, rfl, inT2, by decide, wd_210⟩, fun mn h => ⟨RX2, TX2, 10, tyX2, (.array .int), rfl, inT2, by decide, wd_210, tyX2_ok, nmX2, by decide +kernel, fun h => absurd h (by decide), fun h => absurd h (by decide), fun _ => Or.inr ⟨_, rfl⟩, fun _ => absurd (h (by decide)).2 (by decide)⟩⟩
set_option maxRecDepth 100000 in
theorem en_7_57 : zE2 zFn "ReedOracles$Suspects" 7 57 (1, 133, 0, 0, 0, 0) := ⟨⟨RX2, TX2, 10, rfl, inT2, by decide, wd_215⟩, fun mn h => ⟨RX2, TX2, 10, tyX2, (.array .int), rfl, inT2, by decide, wd_215, tyX2_ok, nmX2, by decide +kernel, fun h => absurd h (by decide), fun h => absurd h (by decide), fun _ => Or.inr ⟨_, rfl⟩, fun _ => absurd (h (by decide)).2 (by decide)⟩⟩
set_option maxRecDepth 100000 in
theorem en_7_60 : zE2 zFn "ReedOracles$Suspects" 7 60 (0, 129, 0, 0, 0, 0) := ⟨⟨RX2, TX2, 10, rfl, inT2, by decide, wd_192⟩, fun mn h => ⟨RX2, TX2, 10, tyX2, .int, rfl, inT2, by decide, wd_192, tyX2_ok, nmX2, by decide +kernel, fun _ => rfl, fun h => absurd h (by decide), fun h => absurd h (by decide), fun h2 => absurd h2 (by decide)⟩⟩
set_option maxRecDepth 100000 in
theorem en_7_63 : zE2 zFn "ReedOracles$Suspects" 7 63 (0, 130, 0, 0, 0, 0) := ⟨⟨RX2, TX2, 10, rfl, inT2, by decide, wd_198⟩, fun mn h => ⟨RX2, TX2, 10, tyX2, .int, rfl, inT2, by decide, wd_198, tyX2_ok, nmX2, by decide +kernel, fun _ => rfl, fun h => absurd h (by decide), fun h => absurd h (by decide), fun h2 => absurd h2 (by decide)⟩⟩
set_option maxRecDepth 100000 in
theorem en_7_66 : zE2 zFn "ReedOracles$Suspects" 7 66 (3, 132, 5, 1, 8, 9) := ⟨⟨mt_132, rfl, rfl, wd_1109, wd_129, ⟨by decide, by decide⟩, fun h => absurd h (by decide), fun _ => rfl, zite_neg (by decide) ⟨TX7, 3, rfl, wd_1106, wd_1108, wd_37, by decide +kernel, by decide⟩⟩, fun _ => trivial⟩
set_option maxRecDepth 100000 in
theorem en_7_70 : zE2 zFn "ReedOracles$Suspects" 7 70 (3, 324, 2, 0, 0, 4) := ⟨⟨mt_324, rfl, rfl, wd_823, wd_138, ⟨by decide, by decide⟩, fun _ => rfl, fun h => absurd rfl h, ⟨wd_822, by decide +kernel, Or.inl wd_1110⟩⟩, fun _ => trivial⟩
set_option maxRecDepth 100000 in
theorem en_7_76 : zE2 zFn "ReedOracles$Suspects" 7 76 (3, 131, 6, 1, 8, 7) := ⟨⟨mt_131, rfl, rfl, wd_1114, wd_129, ⟨by decide, by decide⟩, fun h => absurd h (by decide), fun _ => rfl, zite_neg (by decide) ⟨TX7, 3, rfl, wd_1111, wd_1113, wd_38, by decide +kernel, by decide⟩⟩, fun _ => trivial⟩
set_option maxRecDepth 100000 in
theorem en_7_80 : zE2 zFn "ReedOracles$Suspects" 7 80 (11, 0, 0, 0, 0, 0) := ⟨⟨wd_1115, wd_734, wd_137, wd_735⟩, fun _ => trivial⟩
set_option maxRecDepth 100000 in
theorem en_7_85 : zE2 zFn "ReedOracles$Suspects" 7 85 (3, 50, 2, 1, 3, 2) := ⟨⟨mt_50, rfl, rfl, wd_791, wd_122, ⟨by decide, by decide⟩, fun h => absurd h (by decide), fun _ => rfl, zite_neg (by decide) ⟨TX2, 10, rfl, wd_1322, wd_789, wd_790, by decide +kernel, by decide⟩⟩, fun _ => trivial⟩
set_option maxRecDepth 100000 in
theorem pf_7 : ∀ q ∈ zPl_7, zE2 zFn "ReedOracles$Suspects" 7 q.1 q.2 := List.forall_mem_cons.mpr ⟨en_7_3, List.forall_mem_cons.mpr ⟨en_7_9, List.forall_mem_cons.mpr ⟨en_7_15, List.forall_mem_cons.mpr ⟨en_7_18, List.forall_mem_cons.mpr ⟨en_7_22, List.forall_mem_cons.mpr ⟨en_7_26, List.forall_mem_cons.mpr ⟨en_7_29, List.forall_mem_cons.mpr ⟨en_7_33, List.forall_mem_cons.mpr ⟨en_7_38, List.forall_mem_cons.mpr ⟨en_7_41, List.forall_mem_cons.mpr ⟨en_7_44, List.forall_mem_cons.mpr ⟨en_7_48, List.forall_mem_cons.mpr ⟨en_7_51, List.forall_mem_cons.mpr ⟨en_7_54, List.forall_mem_cons.mpr ⟨en_7_57, List.forall_mem_cons.mpr ⟨en_7_60, List.forall_mem_cons.mpr ⟨en_7_63, List.forall_mem_cons.mpr ⟨en_7_66, List.forall_mem_cons.mpr ⟨en_7_70, List.forall_mem_cons.mpr ⟨en_7_76, List.forall_mem_cons.mpr ⟨en_7_80, List.forall_mem_cons.mpr ⟨en_7_85, (fun _ h => absurd h List.not_mem_nil)⟩⟩⟩⟩⟩⟩⟩⟩⟩⟩⟩⟩⟩⟩⟩⟩⟩⟩⟩⟩⟩⟩
set_option maxRecDepth 100000 in
theorem pk_7 : ∀ idx e, zlk zPl_7 idx = some e → zE2 zFn "ReedOracles$Suspects" 7 idx e := fun idx e h => pf_7 _ (zlk_mem _ _ _ h)
set_option maxRecDepth 100000 in
theorem en_8_3 : zE2 zFn "ReedOracles$Tape" 8 3 (9, 0, 0, 0, 0, 0) := ⟨⟨wd_159, wd_146, wd_147⟩, fun _ => trivial⟩
set_option maxRecDepth 100000 in
theorem en_8_9 : zE2 zFn "ReedOracles$Tape" 8 9 (1, 512, 0, 0, 0, 0) := ⟨⟨RX8, TX8, 2, rfl, inT8, by decide, wd_160⟩, fun mn h => ⟨RX8, TX8, 2, tyX8, (.array .byte), rfl, inT8, by decide, wd_160, tyX8_ok, nmX8, by decide +kernel, fun h => absurd h (by decide), fun h => absurd h (by decide), fun _ => Or.inr ⟨_, rfl⟩, fun _ => ⟨(h (by decide)).1, rfl⟩⟩⟩
set_option maxRecDepth 100000 in
theorem en_8_15 : zE2 zFn "ReedOracles$Tape" 8 15 (0, 513, 0, 0, 0, 0) := ⟨⟨RX8, TX8, 2, rfl, inT8, by decide, wd_162⟩, fun mn h => ⟨RX8, TX8, 2, tyX8, .int, rfl, inT8, by decide, wd_162, tyX8_ok, nmX8, by decide +kernel, fun _ => rfl, fun h => absurd h (by decide), fun h => absurd h (by decide), fun h2 => absurd h2 (by decide)⟩⟩
set_option maxRecDepth 100000 in
theorem en_8_19 : zE2 zFn "ReedOracles$Tape" 8 19 (10, 0, 0, 0, 0, 0) := ⟨⟨wd_1385, wd_722, wd_721, wd_136⟩, fun _ => trivial⟩
set_option maxRecDepth 100000 in
theorem pf_8 : ∀ q ∈ zPl_8, zE2 zFn "ReedOracles$Tape" 8 q.1 q.2 := List.forall_mem_cons.mpr ⟨en_8_3, List.forall_mem_cons.mpr ⟨en_8_9, List.forall_mem_cons.mpr ⟨en_8_15, List.forall_mem_cons.mpr ⟨en_8_19, (fun _ h => absurd h List.not_mem_nil)⟩⟩⟩⟩
set_option maxRecDepth 100000 in
theorem pk_8 : ∀ idx e, zlk zPl_8 idx = some e → zE2 zFn "ReedOracles$Tape" 8 idx e := fun idx e h => pf_8 _ (zlk_mem _ _ _ h)
set_option maxRecDepth 100000 in
theorem en_9_3 : zE2 zFn "ReedOracles$Told" 9 3 (9, 0, 0, 0, 0, 0) := ⟨⟨wd_153, wd_146, wd_147⟩, fun _ => trivial⟩
set_option maxRecDepth 100000 in
theorem en_9_9 : zE2 zFn "ReedOracles$Told" 9 9 (4, 8, 0, 0, 0, 0) := ⟨⟨RX8, TX8, 2, tyX8, rfl, inT8, tyX8_ok, wd_154, wd_155, wd_121, by decide +kernel, rfl⟩, fun _ => trivial⟩
set_option maxRecDepth 100000 in
theorem en_9_11 : zE2 zFn "ReedOracles$Told" 9 11 (3, 134, 1, 0, 9, 1) := ⟨⟨mt_134, rfl, rfl, wd_158, wd_121, ⟨by decide, by decide⟩, fun _ => rfl, fun h => absurd rfl h, zite_pos (by decide) ⟨wd_156, wd_157, by decide +kernel, by decide, rfl⟩⟩, fun _ => trivial⟩
set_option maxRecDepth 100000 in
theorem en_9_12 : zE2 zFn "ReedOracles$Told" 9 12 (1, 576, 0, 0, 0, 0) := ⟨⟨RX9, TX9, 7, rfl, inT9, by decide, wd_289⟩, fun mn h => ⟨RX9, TX9, 7, tyX9, (.object "ReedOracles$Tape"), rfl, inT9, by decide, wd_289, tyX9_ok, nmX9, by decide +kernel, fun h => absurd h (by decide), fun h => absurd h (by decide), fun _ => Or.inl ⟨_, rfl⟩, fun _ => ⟨(h (by decide)).1, rfl⟩⟩⟩
set_option maxRecDepth 100000 in
theorem en_9_18 : zE2 zFn "ReedOracles$Told" 9 18 (1, 577, 0, 0, 0, 0) := ⟨⟨RX9, TX9, 7, rfl, inT9, by decide, wd_291⟩, fun mn h => ⟨RX9, TX9, 7, tyX9, (.array .int), rfl, inT9, by decide, wd_291, tyX9_ok, nmX9, by decide +kernel, fun h => absurd h (by decide), fun h => absurd h (by decide), fun _ => Or.inr ⟨_, rfl⟩, fun _ => ⟨(h (by decide)).1, rfl⟩⟩⟩
set_option maxRecDepth 100000 in
theorem en_9_22 : zE2 zFn "ReedOracles$Told" 9 22 (4, 2, 0, 0, 0, 0) := ⟨⟨RX2, TX2, 10, tyX2, rfl, inT2, tyX2_ok, wd_172, wd_178, wd_122, by decide +kernel, rfl⟩, fun _ => trivial⟩
set_option maxRecDepth 100000 in
theorem en_9_24 : zE2 zFn "ReedOracles$Told" 9 24 (1, 578, 0, 0, 0, 0) := ⟨⟨RX9, TX9, 7, rfl, inT9, by decide, wd_293⟩, fun mn h => ⟨RX9, TX9, 7, tyX9, (.array (.object "ReedOracles$Duchy")), rfl, inT9, by decide, wd_293, tyX9_ok, nmX9, by decide +kernel, fun h => absurd h (by decide), fun h => absurd h (by decide), fun _ => Or.inr ⟨_, rfl⟩, fun _ => ⟨(h (by decide)).1, rfl⟩⟩⟩
set_option maxRecDepth 100000 in
theorem en_9_28 : zE2 zFn "ReedOracles$Told" 9 28 (4, 10, 0, 0, 0, 0) := ⟨⟨RX10, TX10, 2, tyX10, rfl, inT10, tyX10_ok, wd_174, wd_247, wd_123, by decide +kernel, rfl⟩, fun _ => trivial⟩
set_option maxRecDepth 100000 in
theorem en_9_30 : zE2 zFn "ReedOracles$Told" 9 30 (1, 579, 0, 0, 0, 0) := ⟨⟨RX9, TX9, 7, rfl, inT9, by decide, wd_294⟩, fun mn h => ⟨RX9, TX9, 7, tyX9, (.array (.object "ReedOracles$Year")), rfl, inT9, by decide, wd_294, tyX9_ok, nmX9, by decide +kernel, fun h => absurd h (by decide), fun h => absurd h (by decide), fun _ => Or.inr ⟨_, rfl⟩, fun _ => ⟨(h (by decide)).1, rfl⟩⟩⟩
set_option maxRecDepth 100000 in
theorem en_9_34 : zE2 zFn "ReedOracles$Told" 9 34 (4, 3, 0, 0, 0, 0) := ⟨⟨RX3, TX3, 4, tyX3, rfl, inT3, tyX3_ok, wd_176, wd_262, wd_124, by decide +kernel, rfl⟩, fun _ => trivial⟩
set_option maxRecDepth 100000 in
theorem en_9_36 : zE2 zFn "ReedOracles$Told" 9 36 (1, 580, 0, 0, 0, 0) := ⟨⟨RX9, TX9, 7, rfl, inT9, by decide, wd_295⟩, fun mn h => ⟨RX9, TX9, 7, tyX9, (.array (.object "ReedOracles$Log")), rfl, inT9, by decide, wd_295, tyX9_ok, nmX9, by decide +kernel, fun h => absurd h (by decide), fun h => absurd h (by decide), fun _ => Or.inr ⟨_, rfl⟩, fun _ => ⟨(h (by decide)).1, rfl⟩⟩⟩
set_option maxRecDepth 100000 in
theorem en_9_40 : zE2 zFn "ReedOracles$Told" 9 40 (3, 33, 1, 0, 3, 1) := ⟨⟨mt_33, rfl, rfl, wd_181, wd_122, ⟨by decide, by decide⟩, fun _ => rfl, fun h => absurd rfl h, zite_pos (by decide) ⟨wd_179, wd_180, by decide +kernel, by decide, rfl⟩⟩, fun _ => trivial⟩
set_option maxRecDepth 100000 in
theorem en_9_41 : zE2 zFn "ReedOracles$Told" 9 41 (3, 144, 1, 0, 11, 1) := ⟨⟨mt_144, rfl, rfl, wd_250, wd_123, ⟨by decide, by decide⟩, fun _ => rfl, fun h => absurd rfl h, zite_pos (by decide) ⟨wd_248, wd_249, by decide +kernel, by decide, rfl⟩⟩, fun _ => trivial⟩
set_option maxRecDepth 100000 in
theorem en_9_42 : zE2 zFn "ReedOracles$Told" 9 42 (3, 52, 1, 0, 4, 1) := ⟨⟨mt_52, rfl, rfl, wd_265, wd_124, ⟨by decide, by decide⟩, fun _ => rfl, fun h => absurd rfl h, zite_pos (by decide) ⟨wd_263, wd_264, by decide +kernel, by decide, rfl⟩⟩, fun _ => trivial⟩
set_option maxRecDepth 100000 in
theorem en_9_43 : zE2 zFn "ReedOracles$Told" 9 43 (0, 581, 0, 0, 0, 0) := ⟨⟨RX9, TX9, 7, rfl, inT9, by decide, wd_296⟩, fun mn h => ⟨RX9, TX9, 7, tyX9, .int, rfl, inT9, by decide, wd_296, tyX9_ok, nmX9, by decide +kernel, fun _ => rfl, fun h => absurd h (by decide), fun h => absurd h (by decide), fun h2 => absurd h2 (by decide)⟩⟩
set_option maxRecDepth 100000 in
theorem en_9_47 : zE2 zFn "ReedOracles$Told" 9 47 (0, 582, 0, 0, 0, 0) := ⟨⟨RX9, TX9, 7, rfl, inT9, by decide, wd_298⟩, fun mn h => ⟨RX9, TX9, 7, tyX9, .int, rfl, inT9, by decide, wd_298, tyX9_ok, nmX9, by decide +kernel, fun _ => rfl, fun h => absurd h (by decide), fun h => absurd h (by decide), fun h2 => absurd h2 (by decide)⟩⟩
set_option maxRecDepth 100000 in
theorem en_9_50 : zE2 zFn "ReedOracles$Told" 9 50 (3, 136, 2, 0, 9, 2) := ⟨⟨mt_136, rfl, rfl, wd_1384, wd_121, ⟨by decide, by decide⟩, fun _ => rfl, fun h => absurd rfl h, zite_neg (by decide) ⟨TX8, 2, rfl, wd_1381, wd_1382, wd_1383, by decide +kernel, by decide⟩⟩, fun _ => trivial⟩
set_option maxRecDepth 100000 in
theorem en_9_54 : zE2 zFn "ReedOracles$Told" 9 54 (3, 35, 2, 0, 3, 2) := ⟨⟨mt_35, rfl, rfl, wd_719, wd_122, ⟨by decide, by decide⟩, fun _ => rfl, fun h => absurd rfl h, zite_neg (by decide) ⟨TX2, 10, rfl, wd_716, wd_717, wd_718, by decide +kernel, by decide⟩⟩, fun _ => trivial⟩
set_option maxRecDepth 100000 in
theorem en_9_57 : zE2 zFn "ReedOracles$Told" 9 57 (3, 145, 2, 0, 11, 2) := ⟨⟨mt_145, rfl, rfl, wd_726, wd_123, ⟨by decide, by decide⟩, fun _ => rfl, fun h => absurd rfl h, zite_neg (by decide) ⟨TX10, 2, rfl, wd_723, wd_724, wd_725, by decide +kernel, by decide⟩⟩, fun _ => trivial⟩
set_option maxRecDepth 100000 in
theorem en_9_60 : zE2 zFn "ReedOracles$Told" 9 60 (3, 53, 2, 0, 4, 2) := ⟨⟨mt_53, rfl, rfl, wd_731, wd_124, ⟨by decide, by decide⟩, fun _ => rfl, fun h => absurd rfl h, zite_neg (by decide) ⟨TX3, 4, rfl, wd_728, wd_729, wd_730, by decide +kernel, by decide⟩⟩, fun _ => trivial⟩
set_option maxRecDepth 100000 in
theorem en_9_63 : zE2 zFn "ReedOracles$Told" 9 63 (10, 0, 0, 0, 0, 0) := ⟨⟨wd_1386, wd_722, wd_721, wd_136⟩, fun _ => trivial⟩
set_option maxRecDepth 100000 in
theorem en_9_69 : zE2 zFn "ReedOracles$Told" 9 69 (0, 513, 0, 0, 0, 0) := ⟨⟨RX8, TX8, 2, rfl, inT8, by decide, wd_164⟩, fun mn h => ⟨RX8, TX8, 2, tyX8, .int, rfl, inT8, by decide, wd_164, tyX8_ok, nmX8, by decide +kernel, fun _ => rfl, fun h => absurd h (by decide), fun h => absurd h (by decide), fun h2 => absurd h2 (by decide)⟩⟩
set_option maxRecDepth 100000 in
theorem en_9_72 : zE2 zFn "ReedOracles$Told" 9 72 (1, 320, 0, 0, 0, 0) := ⟨⟨RX5, TX5, 11, rfl, inT5, by decide, wd_329⟩, fun mn h => ⟨RX5, TX5, 11, tyX5, (.object "ReedOracles$Duchy"), rfl, inT5, by decide, wd_329, tyX5_ok, nmX5, by decide +kernel, fun h => absurd h (by decide), fun h => absurd h (by decide), fun _ => Or.inl ⟨_, rfl⟩, fun _ => absurd (h (by decide)).2 (by decide)⟩⟩
set_option maxRecDepth 100000 in
theorem en_9_78 : zE2 zFn "ReedOracles$Told" 9 78 (1, 321, 0, 0, 0, 0) := ⟨⟨RX5, TX5, 11, rfl, inT5, by decide, wd_331⟩, fun mn h => ⟨RX5, TX5, 11, tyX5, (.object "ReedOracles$Year"), rfl, inT5, by decide, wd_331, tyX5_ok, nmX5, by decide +kernel, fun h => absurd h (by decide), fun h => absurd h (by decide), fun _ => Or.inl ⟨_, rfl⟩, fun _ => absurd (h (by decide)).2 (by decide)⟩⟩
set_option maxRecDepth 100000 in
theorem en_9_82 : zE2 zFn "ReedOracles$Told" 9 82 (1, 322, 0, 0, 0, 0) := ⟨⟨RX5, TX5, 11, rfl, inT5, by decide, wd_333⟩, fun mn h => ⟨RX5, TX5, 11, tyX5, (.object "ReedOracles$Log"), rfl, inT5, by decide, wd_333, tyX5_ok, nmX5, by decide +kernel, fun h => absurd h (by decide), fun h => absurd h (by decide), fun _ => Or.inl ⟨_, rfl⟩, fun _ => absurd (h (by decide)).2 (by decide)⟩⟩
set_option maxRecDepth 100000 in
theorem en_9_86 : zE2 zFn "ReedOracles$Told" 9 86 (11, 0, 0, 0, 0, 0) := ⟨⟨wd_733, wd_734, wd_137, wd_735⟩, fun _ => trivial⟩
set_option maxRecDepth 100000 in
theorem pf_9 : ∀ q ∈ zPl_9, zE2 zFn "ReedOracles$Told" 9 q.1 q.2 := List.forall_mem_cons.mpr ⟨en_9_3, List.forall_mem_cons.mpr ⟨en_9_9, List.forall_mem_cons.mpr ⟨en_9_11, List.forall_mem_cons.mpr ⟨en_9_12, List.forall_mem_cons.mpr ⟨en_9_18, List.forall_mem_cons.mpr ⟨en_9_22, List.forall_mem_cons.mpr ⟨en_9_24, List.forall_mem_cons.mpr ⟨en_9_28, List.forall_mem_cons.mpr ⟨en_9_30, List.forall_mem_cons.mpr ⟨en_9_34, List.forall_mem_cons.mpr ⟨en_9_36, List.forall_mem_cons.mpr ⟨en_9_40, List.forall_mem_cons.mpr ⟨en_9_41, List.forall_mem_cons.mpr ⟨en_9_42, List.forall_mem_cons.mpr ⟨en_9_43, List.forall_mem_cons.mpr ⟨en_9_47, List.forall_mem_cons.mpr ⟨en_9_50, List.forall_mem_cons.mpr ⟨en_9_54, List.forall_mem_cons.mpr ⟨en_9_57, List.forall_mem_cons.mpr ⟨en_9_60, List.forall_mem_cons.mpr ⟨en_9_63, List.forall_mem_cons.mpr ⟨en_9_69, List.forall_mem_cons.mpr ⟨en_9_72, List.forall_mem_cons.mpr ⟨en_9_78, List.forall_mem_cons.mpr ⟨en_9_82, List.forall_mem_cons.mpr ⟨en_9_86, (fun _ h => absurd h List.not_mem_nil)⟩⟩⟩⟩⟩⟩⟩⟩⟩⟩⟩⟩⟩⟩⟩⟩⟩⟩⟩⟩⟩⟩⟩⟩⟩⟩
set_option maxRecDepth 100000 in
theorem pk_9 : ∀ idx e, zlk zPl_9 idx = some e → zE2 zFn "ReedOracles$Told" 9 idx e := fun idx e h => pf_9 _ (zlk_mem _ _ _ h)
set_option maxRecDepth 100000 in
theorem en_10_3 : zE2 zFn "ReedOracles$Year" 10 3 (9, 0, 0, 0, 0, 0) := ⟨⟨wd_251, wd_146, wd_147⟩, fun _ => trivial⟩
set_option maxRecDepth 100000 in
theorem en_10_11 : zE2 zFn "ReedOracles$Year" 10 11 (1, 641, 0, 0, 0, 0) := ⟨⟨RX10, TX10, 2, rfl, inT10, by decide, wd_256⟩, fun mn h => ⟨RX10, TX10, 2, tyX10, (.array .int), rfl, inT10, by decide, wd_256, tyX10_ok, nmX10, by decide +kernel, fun h => absurd h (by decide), fun h => absurd h (by decide), fun _ => Or.inr ⟨_, rfl⟩, fun _ => ⟨(h (by decide)).1, rfl⟩⟩⟩
set_option maxRecDepth 100000 in
theorem en_10_15 : zE2 zFn "ReedOracles$Year" 10 15 (0, 640, 0, 0, 0, 0) := ⟨⟨RX10, TX10, 2, rfl, inT10, by decide, wd_252⟩, fun mn h => ⟨RX10, TX10, 2, tyX10, .int, rfl, inT10, by decide, wd_252, tyX10_ok, nmX10, by decide +kernel, fun _ => rfl, fun h => absurd h (by decide), fun h => absurd h (by decide), fun h2 => absurd h2 (by decide)⟩⟩
set_option maxRecDepth 100000 in
theorem en_10_19 : zE2 zFn "ReedOracles$Year" 10 19 (10, 0, 0, 0, 0, 0) := ⟨⟨wd_727, wd_722, wd_721, wd_136⟩, fun _ => trivial⟩
set_option maxRecDepth 100000 in
theorem en_10_25 : zE2 zFn "ReedOracles$Year" 10 25 (3, 147, 3, 1, 11, 3) := ⟨⟨mt_147, rfl, rfl, wd_807, wd_123, ⟨by decide, by decide⟩, fun h => absurd h (by decide), fun _ => rfl, zite_neg (by decide) ⟨TX10, 2, rfl, wd_804, wd_805, wd_806, by decide +kernel, by decide⟩⟩, fun _ => trivial⟩
set_option maxRecDepth 100000 in
theorem pf_10 : ∀ q ∈ zPl_10, zE2 zFn "ReedOracles$Year" 10 q.1 q.2 := List.forall_mem_cons.mpr ⟨en_10_3, List.forall_mem_cons.mpr ⟨en_10_11, List.forall_mem_cons.mpr ⟨en_10_15, List.forall_mem_cons.mpr ⟨en_10_19, List.forall_mem_cons.mpr ⟨en_10_25, (fun _ h => absurd h List.not_mem_nil)⟩⟩⟩⟩⟩
set_option maxRecDepth 100000 in
theorem pk_10 : ∀ idx e, zlk zPl_10 idx = some e → zE2 zFn "ReedOracles$Year" 10 idx e := fun idx e h => pf_10 _ (zlk_mem _ _ _ h)
set_option maxRecDepth 100000 in
theorem en_11_1 : zE2 zFn "ReedOracles" 11 1 (9, 0, 0, 0, 0, 0) := ⟨⟨wd_145, wd_146, wd_147⟩, fun _ => trivial⟩
set_option maxRecDepth 100000 in
theorem en_11_7 : zE2 zFn "ReedOracles" 11 7 (4, 9, 0, 0, 0, 0) := ⟨⟨RX9, TX9, 7, tyX9, rfl, inT9, tyX9_ok, wd_148, wd_149, wd_120, by decide +kernel, rfl⟩, fun _ => trivial⟩
set_option maxRecDepth 100000 in
theorem en_11_9 : zE2 zFn "ReedOracles" 11 9 (3, 137, 1, 0, 10, 2) := ⟨⟨mt_137, rfl, rfl, wd_152, wd_120, ⟨by decide, by decide⟩, fun _ => rfl, fun h => absurd rfl h, zite_pos (by decide) ⟨wd_150, wd_151, by decide +kernel, by decide, rfl⟩⟩, fun _ => trivial⟩
set_option maxRecDepth 100000 in
theorem en_11_10 : zE2 zFn "ReedOracles" 11 10 (1, 704, 0, 0, 0, 0) := ⟨⟨RX11, TX11, 8, rfl, inT11, by decide, wd_501⟩, fun mn h => ⟨RX11, TX11, 8, tyX11, (.object "ReedOracles$Told"), rfl, inT11, by decide, wd_501, tyX11_ok, nmX11, by decide +kernel, fun h => absurd h (by decide), fun h => absurd h (by decide), fun _ => Or.inl ⟨_, rfl⟩, fun _ => ⟨(h (by decide)).1, rfl⟩⟩⟩
set_option maxRecDepth 100000 in
theorem en_11_16 : zE2 zFn "ReedOracles" 11 16 (1, 705, 0, 0, 0, 0) := ⟨⟨RX11, TX11, 8, rfl, inT11, by decide, wd_502⟩, fun mn h => ⟨RX11, TX11, 8, tyX11, (.array (.object "ReedOracles$Told")), rfl, inT11, by decide, wd_502, tyX11_ok, nmX11, by decide +kernel, fun h => absurd h (by decide), fun h => absurd h (by decide), fun _ => Or.inr ⟨_, rfl⟩, fun _ => ⟨(h (by decide)).1, rfl⟩⟩⟩
set_option maxRecDepth 100000 in
theorem en_11_20 : zE2 zFn "ReedOracles" 11 20 (4, 5, 0, 0, 0, 0) := ⟨⟨RX5, TX5, 11, tyX5, rfl, inT5, tyX5_ok, wd_316, wd_317, wd_125, by decide +kernel, rfl⟩, fun _ => trivial⟩
set_option maxRecDepth 100000 in
theorem en_11_22 : zE2 zFn "ReedOracles" 11 22 (1, 576, 0, 0, 0, 0) := ⟨⟨RX9, TX9, 7, rfl, inT9, by decide, wd_290⟩, fun mn h => ⟨RX9, TX9, 7, tyX9, (.object "ReedOracles$Tape"), rfl, inT9, by decide, wd_290, tyX9_ok, nmX9, by decide +kernel, fun h => absurd h (by decide), fun h => absurd h (by decide), fun _ => Or.inl ⟨_, rfl⟩, fun _ => absurd (h (by decide)).2 (by decide)⟩⟩
set_option maxRecDepth 100000 in
theorem en_11_26 : zE2 zFn "ReedOracles" 11 26 (3, 74, 2, 0, 6, 2) := ⟨⟨mt_74, rfl, rfl, wd_320, wd_125, ⟨by decide, by decide⟩, fun _ => rfl, fun h => absurd rfl h, zite_pos (by decide) ⟨wd_318, wd_319, by decide +kernel, by decide, rfl⟩⟩, fun _ => trivial⟩
set_option maxRecDepth 100000 in
theorem en_11_29 : zE2 zFn "ReedOracles" 11 29 (1, 706, 0, 0, 0, 0) := ⟨⟨RX11, TX11, 8, rfl, inT11, by decide, wd_503⟩, fun mn h => ⟨RX11, TX11, 8, tyX11, (.object "ReedOracles$Reader"), rfl, inT11, by decide, wd_503, tyX11_ok, nmX11, by decide +kernel, fun h => absurd h (by decide), fun h => absurd h (by decide), fun _ => Or.inl ⟨_, rfl⟩, fun _ => ⟨(h (by decide)).1, rfl⟩⟩⟩
set_option maxRecDepth 100000 in
theorem en_11_33 : zE2 zFn "ReedOracles" 11 33 (4, 1, 0, 0, 0, 0) := ⟨⟨RX1, TX1, 17, tyX1, rfl, inT1, tyX1_ok, wd_367, wd_368, wd_126, by decide +kernel, rfl⟩, fun _ => trivial⟩
set_option maxRecDepth 100000 in
theorem en_11_35 : zE2 zFn "ReedOracles" 11 35 (3, 11, 1, 0, 2, 1) := ⟨⟨mt_11, rfl, rfl, wd_371, wd_126, ⟨by decide, by decide⟩, fun _ => rfl, fun h => absurd rfl h, zite_pos (by decide) ⟨wd_369, wd_370, by decide +kernel, by decide, rfl⟩⟩, fun _ => trivial⟩
set_option maxRecDepth 100000 in
theorem en_11_36 : zE2 zFn "ReedOracles" 11 36 (1, 707, 0, 0, 0, 0) := ⟨⟨RX11, TX11, 8, rfl, inT11, by decide, wd_504⟩, fun mn h => ⟨RX11, TX11, 8, tyX11, (.object "ReedOracles$Course"), rfl, inT11, by decide, wd_504, tyX11_ok, nmX11, by decide +kernel, fun h => absurd h (by decide), fun h => absurd h (by decide), fun _ => Or.inl ⟨_, rfl⟩, fun _ => ⟨(h (by decide)).1, rfl⟩⟩⟩
set_option maxRecDepth 100000 in
theorem en_11_40 : zE2 zFn "ReedOracles" 11 40 (4, 0, 0, 0, 0, 0) := ⟨⟨RX0, TX0, 4, tyX0, rfl, inT0, tyX0_ok, wd_427, wd_428, wd_127, by decide +kernel, rfl⟩, fun _ => trivial⟩
set_option maxRecDepth 100000 in
theorem en_11_42 : zE2 zFn "ReedOracles" 11 42 (3, 0, 1, 0, 1, 1) := ⟨⟨mt_0, rfl, rfl, wd_431, wd_127, ⟨by decide, by decide⟩, fun _ => rfl, fun h => absurd rfl h, zite_pos (by decide) ⟨wd_429, wd_430, by decide +kernel, by decide, rfl⟩⟩, fun _ => trivial⟩
set_option maxRecDepth 100000 in
theorem en_11_43 : zE2 zFn "ReedOracles" 11 43 (1, 708, 0, 0, 0, 0) := ⟨⟨RX11, TX11, 8, rfl, inT11, by decide, wd_505⟩, fun mn h => ⟨RX11, TX11, 8, tyX11, (.object "ReedOracles$Acts"), rfl, inT11, by decide, wd_505, tyX11_ok, nmX11, by decide +kernel, fun h => absurd h (by decide), fun h => absurd h (by decide), fun _ => Or.inl ⟨_, rfl⟩, fun _ => ⟨(h (by decide)).1, rfl⟩⟩⟩
set_option maxRecDepth 100000 in
theorem en_11_47 : zE2 zFn "ReedOracles" 11 47 (4, 4, 0, 0, 0, 0) := ⟨⟨RX4, TX4, 4, tyX4, rfl, inT4, tyX4_ok, wd_447, wd_448, wd_128, by decide +kernel, rfl⟩, fun _ => trivial⟩
set_option maxRecDepth 100000 in
theorem en_11_49 : zE2 zFn "ReedOracles" 11 49 (3, 56, 1, 0, 5, 1) := ⟨⟨mt_56, rfl, rfl, wd_451, wd_128, ⟨by decide, by decide⟩, fun _ => rfl, fun h => absurd rfl h, zite_pos (by decide) ⟨wd_449, wd_450, by decide +kernel, by decide, rfl⟩⟩, fun _ => trivial⟩
set_option maxRecDepth 100000 in
theorem en_11_50 : zE2 zFn "ReedOracles" 11 50 (1, 709, 0, 0, 0, 0) := ⟨⟨RX11, TX11, 8, rfl, inT11, by decide, wd_506⟩, fun mn h => ⟨RX11, TX11, 8, tyX11, (.object "ReedOracles$Plans"), rfl, inT11, by decide, wd_506, tyX11_ok, nmX11, by decide +kernel, fun h => absurd h (by decide), fun h => absurd h (by decide), fun _ => Or.inl ⟨_, rfl⟩, fun _ => ⟨(h (by decide)).1, rfl⟩⟩⟩
