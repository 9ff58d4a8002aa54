set_option maxRecDepth 100000 in
theorem en_11_54 : zE2 zFn "ReedOracles" 11 54 (4, 7, 0, 0, 0, 0) := ⟨⟨RX7, TX7, 3, tyX7, rfl, inT7, tyX7_ok, wd_466, wd_467, wd_129, by decide +kernel, rfl⟩, fun _ => trivial⟩
set_option maxRecDepth 100000 in
theorem en_11_56 : zE2 zFn "ReedOracles" 11 56 (3, 123, 1, 0, 8, 1) := ⟨⟨mt_123, rfl, rfl, wd_470, wd_129, ⟨by decide, by decide⟩, fun _ => rfl, fun h => absurd rfl h, zite_pos (by decide) ⟨wd_468, wd_469, by decide +kernel, by decide, rfl⟩⟩, fun _ => trivial⟩
set_option maxRecDepth 100000 in
theorem en_11_57 : zE2 zFn "ReedOracles" 11 57 (1, 710, 0, 0, 0, 0) := ⟨⟨RX11, TX11, 8, rfl, inT11, by decide, wd_507⟩, fun mn h => ⟨RX11, TX11, 8, tyX11, (.object "ReedOracles$Suspects"), rfl, inT11, by decide, wd_507, tyX11_ok, nmX11, by decide +kernel, fun h => absurd h (by decide), fun h => absurd h (by decide), fun _ => Or.inl ⟨_, rfl⟩, fun _ => ⟨(h (by decide)).1, rfl⟩⟩⟩
set_option maxRecDepth 100000 in
theorem en_11_61 : zE2 zFn "ReedOracles" 11 61 (4, 6, 0, 0, 0, 0) := ⟨⟨RX6, TX6, 3, tyX6, rfl, inT6, tyX6_ok, wd_483, wd_484, wd_130, by decide +kernel, rfl⟩, fun _ => trivial⟩
set_option maxRecDepth 100000 in
theorem en_11_63 : zE2 zFn "ReedOracles" 11 63 (3, 92, 1, 0, 7, 1) := ⟨⟨mt_92, rfl, rfl, wd_487, wd_130, ⟨by decide, by decide⟩, fun _ => rfl, fun h => absurd rfl h, zite_pos (by decide) ⟨wd_485, wd_486, by decide +kernel, by decide, rfl⟩⟩, fun _ => trivial⟩
set_option maxRecDepth 100000 in
theorem en_11_64 : zE2 zFn "ReedOracles" 11 64 (1, 711, 0, 0, 0, 0) := ⟨⟨RX11, TX11, 8, rfl, inT11, by decide, wd_508⟩, fun mn h => ⟨RX11, TX11, 8, tyX11, (.object "ReedOracles$Survey"), rfl, inT11, by decide, wd_508, tyX11_ok, nmX11, by decide +kernel, fun h => absurd h (by decide), fun h => absurd h (by decide), fun _ => Or.inl ⟨_, rfl⟩, fun _ => ⟨(h (by decide)).1, rfl⟩⟩⟩
set_option maxRecDepth 100000 in
theorem en_11_68 : zE2 zFn "ReedOracles" 11 68 (0, 513, 0, 0, 0, 0) := ⟨⟨RX8, TX8, 2, rfl, inT8, by decide, wd_163⟩, fun mn h => ⟨RX8, TX8, 2, tyX8, .int, rfl, inT8, by decide, wd_163, tyX8_ok, nmX8, by decide +kernel, fun _ => rfl, fun h => absurd h (by decide), fun h => absurd h (by decide), fun h2 => absurd h2 (by decide)⟩⟩
set_option maxRecDepth 100000 in
theorem en_11_74 : zE2 zFn "ReedOracles" 11 74 (3, 135, 2, 0, 9, 3) := ⟨⟨mt_135, rfl, rfl, wd_533, wd_121, ⟨by decide, by decide⟩, fun _ => rfl, fun h => absurd rfl h, zite_neg (by decide) ⟨TX8, 2, rfl, wd_530, wd_531, wd_532, by decide +kernel, by decide⟩⟩, fun _ => trivial⟩
set_option maxRecDepth 100000 in
theorem en_11_78 : zE2 zFn "ReedOracles" 11 78 (3, 189, 3, 1, 12, 5) := ⟨⟨mt_189, rfl, rfl, wd_545, wd_119, ⟨by decide, by decide⟩, fun h => absurd h (by decide), fun _ => rfl, zite_neg (by decide) ⟨TX11, 8, rfl, wd_542, wd_544, wd_0, by decide +kernel, by decide⟩⟩, fun _ => trivial⟩
set_option maxRecDepth 100000 in
theorem en_11_82 : zE2 zFn "ReedOracles" 11 82 (3, 139, 3, 0, 10, 3) := ⟨⟨mt_139, rfl, rfl, wd_552, wd_120, ⟨by decide, by decide⟩, fun _ => rfl, fun h => absurd rfl h, zite_neg (by decide) ⟨TX9, 7, rfl, wd_549, wd_550, wd_551, by decide +kernel, by decide⟩⟩, fun _ => trivial⟩
set_option maxRecDepth 100000 in
theorem en_11_86 : zE2 zFn "ReedOracles" 11 86 (3, 75, 2, 0, 6, 3) := ⟨⟨mt_75, rfl, rfl, wd_556, wd_125, ⟨by decide, by decide⟩, fun _ => rfl, fun h => absurd rfl h, zite_neg (by decide) ⟨TX5, 11, rfl, wd_553, wd_554, wd_555, by decide +kernel, by decide⟩⟩, fun _ => trivial⟩
set_option maxRecDepth 100000 in
theorem en_11_89 : zE2 zFn "ReedOracles" 11 89 (0, 323, 0, 0, 0, 0) := ⟨⟨RX5, TX5, 11, rfl, inT5, by decide, wd_335⟩, fun mn h => ⟨RX5, TX5, 11, tyX5, .int, rfl, inT5, by decide, wd_335, tyX5_ok, nmX5, by decide +kernel, fun _ => rfl, fun h => absurd h (by decide), fun h => absurd h (by decide), fun h2 => absurd h2 (by decide)⟩⟩
set_option maxRecDepth 100000 in
theorem en_11_92 : zE2 zFn "ReedOracles" 11 92 (0, 324, 0, 0, 0, 0) := ⟨⟨RX5, TX5, 11, rfl, inT5, by decide, wd_337⟩, fun mn h => ⟨RX5, TX5, 11, tyX5, .int, rfl, inT5, by decide, wd_337, tyX5_ok, nmX5, by decide +kernel, fun _ => rfl, fun h => absurd h (by decide), fun h => absurd h (by decide), fun h2 => absurd h2 (by decide)⟩⟩
set_option maxRecDepth 100000 in
theorem en_11_95 : zE2 zFn "ReedOracles" 11 95 (3, 140, 4, 0, 10, 4) := ⟨⟨mt_140, rfl, rfl, wd_715, wd_120, ⟨by decide, by decide⟩, fun _ => rfl, fun h => absurd rfl h, zite_neg (by decide) ⟨TX9, 7, rfl, wd_712, wd_713, wd_714, by decide +kernel, by decide⟩⟩, fun _ => trivial⟩
set_option maxRecDepth 100000 in
theorem en_11_99 : zE2 zFn "ReedOracles" 11 99 (0, 581, 0, 0, 0, 0) := ⟨⟨RX9, TX9, 7, rfl, inT9, by decide, wd_297⟩, fun mn h => ⟨RX9, TX9, 7, tyX9, .int, rfl, inT9, by decide, wd_297, tyX9_ok, nmX9, by decide +kernel, fun _ => rfl, fun h => absurd h (by decide), fun h => absurd h (by decide), fun h2 => absurd h2 (by decide)⟩⟩
set_option maxRecDepth 100000 in
theorem en_11_100 : zE2 zFn "ReedOracles" 11 100 (0, 582, 0, 0, 0, 0) := ⟨⟨RX9, TX9, 7, rfl, inT9, by decide, wd_299⟩, fun mn h => ⟨RX9, TX9, 7, tyX9, .int, rfl, inT9, by decide, wd_299, tyX9_ok, nmX9, by decide +kernel, fun _ => rfl, fun h => absurd h (by decide), fun h => absurd h (by decide), fun h2 => absurd h2 (by decide)⟩⟩
set_option maxRecDepth 100000 in
theorem en_11_101 : zE2 zFn "ReedOracles" 11 101 (3, 141, 2, 3, 10, 2) := ⟨⟨mt_141, rfl, rfl, wd_747, wd_120, ⟨by decide, by decide⟩, fun h => absurd h (by decide), fun _ => rfl, zite_neg (by decide) ⟨TX9, 7, rfl, wd_744, wd_745, wd_746, by decide +kernel, by decide⟩⟩, fun _ => trivial⟩
set_option maxRecDepth 100000 in
theorem en_11_105 : zE2 zFn "ReedOracles" 11 105 (3, 44, 2, 1, 3, 3) := ⟨⟨mt_44, rfl, rfl, wd_751, wd_122, ⟨by decide, by decide⟩, fun h => absurd h (by decide), fun _ => rfl, zite_neg (by decide) ⟨TX2, 10, rfl, wd_748, wd_749, wd_750, by decide +kernel, by decide⟩⟩, fun _ => trivial⟩
set_option maxRecDepth 100000 in
theorem en_11_111 : zE2 zFn "ReedOracles" 11 111 (3, 42, 4, 1, 3, 4) := ⟨⟨mt_42, rfl, rfl, wd_775, wd_122, ⟨by decide, by decide⟩, fun h => absurd h (by decide), fun _ => rfl, zite_neg (by decide) ⟨TX2, 10, rfl, wd_772, wd_773, wd_774, by decide +kernel, by decide⟩⟩, fun _ => trivial⟩
set_option maxRecDepth 100000 in
theorem en_11_115 : zE2 zFn "ReedOracles" 11 115 (3, 48, 4, 1, 3, 4) := ⟨⟨mt_48, rfl, rfl, wd_779, wd_122, ⟨by decide, by decide⟩, fun h => absurd h (by decide), fun _ => rfl, zite_neg (by decide) ⟨TX2, 10, rfl, wd_776, wd_777, wd_778, by decide +kernel, by decide⟩⟩, fun _ => trivial⟩
set_option maxRecDepth 100000 in
theorem en_11_119 : zE2 zFn "ReedOracles" 11 119 (3, 50, 2, 1, 3, 2) := ⟨⟨mt_50, rfl, rfl, wd_791, wd_122, ⟨by decide, by decide⟩, fun h => absurd h (by decide), fun _ => rfl, zite_neg (by decide) ⟨TX2, 10, rfl, wd_788, wd_789, wd_790, by decide +kernel, by decide⟩⟩, fun _ => trivial⟩
set_option maxRecDepth 100000 in
theorem en_11_122 : zE2 zFn "ReedOracles" 11 122 (3, 142, 2, 3, 10, 2) := ⟨⟨mt_142, rfl, rfl, wd_799, wd_120, ⟨by decide, by decide⟩, fun h => absurd h (by decide), fun _ => rfl, zite_neg (by decide) ⟨TX9, 7, rfl, wd_796, wd_797, wd_798, by decide +kernel, by decide⟩⟩, fun _ => trivial⟩
set_option maxRecDepth 100000 in
theorem en_11_126 : zE2 zFn "ReedOracles" 11 126 (3, 148, 3, 1, 11, 3) := ⟨⟨mt_148, rfl, rfl, wd_803, wd_123, ⟨by decide, by decide⟩, fun h => absurd h (by decide), fun _ => rfl, zite_neg (by decide) ⟨TX10, 2, rfl, wd_800, wd_801, wd_802, by decide +kernel, by decide⟩⟩, fun _ => trivial⟩
set_option maxRecDepth 100000 in
theorem en_11_130 : zE2 zFn "ReedOracles" 11 130 (0, 640, 0, 0, 0, 0) := ⟨⟨RX10, TX10, 2, rfl, inT10, by decide, wd_255⟩, fun mn h => ⟨RX10, TX10, 2, tyX10, .int, rfl, inT10, by decide, wd_255, tyX10_ok, nmX10, by decide +kernel, fun _ => rfl, fun h => absurd h (by decide), fun h => absurd h (by decide), fun h2 => absurd h2 (by decide)⟩⟩
set_option maxRecDepth 100000 in
theorem en_11_131 : zE2 zFn "ReedOracles" 11 131 (3, 13, 4, 0, 2, 5) := ⟨⟨mt_13, rfl, rfl, wd_815, wd_126, ⟨by decide, by decide⟩, fun _ => rfl, fun h => absurd rfl h, zite_neg (by decide) ⟨TX1, 17, rfl, wd_812, wd_813, wd_814, by decide +kernel, by decide⟩⟩, fun _ => trivial⟩
set_option maxRecDepth 100000 in
theorem en_11_135 : zE2 zFn "ReedOracles" 11 135 (0, 64, 0, 0, 0, 0) := ⟨⟨RX1, TX1, 17, rfl, inT1, by decide, wd_374⟩, fun mn h => ⟨RX1, TX1, 17, tyX1, .int, rfl, inT1, by decide, wd_374, tyX1_ok, nmX1, by decide +kernel, fun _ => rfl, fun h => absurd h (by decide), fun h => absurd h (by decide), fun h2 => absurd h2 (by decide)⟩⟩
set_option maxRecDepth 100000 in
theorem en_11_138 : zE2 zFn "ReedOracles" 11 138 (3, 27, 3, 1, 2, 4) := ⟨⟨mt_27, rfl, rfl, wd_890, wd_126, ⟨by decide, by decide⟩, fun h => absurd h (by decide), fun _ => rfl, zite_neg (by decide) ⟨TX1, 17, rfl, wd_887, wd_888, wd_889, by decide +kernel, by decide⟩⟩, fun _ => trivial⟩
set_option maxRecDepth 100000 in
theorem en_11_141 : zE2 zFn "ReedOracles" 11 141 (3, 191, 1, 1, 0, 1) := ⟨⟨mt_191, rfl, rfl, wd_901, wd_119, ⟨by decide, by decide⟩, fun h => absurd h (by decide), fun _ => rfl, ⟨wd_900, by decide +kernel, Or.inl wd_899⟩⟩, fun _ => trivial⟩
set_option maxRecDepth 100000 in
theorem en_11_145 : zE2 zFn "ReedOracles" 11 145 (3, 1, 6, 0, 1, 11) := ⟨⟨mt_1, rfl, rfl, wd_905, wd_127, ⟨by decide, by decide⟩, fun _ => rfl, fun h => absurd rfl h, zite_neg (by decide) ⟨TX0, 4, rfl, wd_902, wd_903, wd_904, by decide +kernel, by decide⟩⟩, fun _ => trivial⟩
set_option maxRecDepth 100000 in
theorem en_11_149 : zE2 zFn "ReedOracles" 11 149 (0, 0, 0, 0, 0, 0) := ⟨⟨RX0, TX0, 4, rfl, inT0, by decide, wd_434⟩, fun mn h => ⟨RX0, TX0, 4, tyX0, .int, rfl, inT0, by decide, wd_434, tyX0_ok, nmX0, by decide +kernel, fun _ => rfl, fun h => absurd h (by decide), fun h => absurd h (by decide), fun h2 => absurd h2 (by decide)⟩⟩
set_option maxRecDepth 100000 in
theorem en_11_152 : zE2 zFn "ReedOracles" 11 152 (3, 6, 2, 1, 1, 4) := ⟨⟨mt_6, rfl, rfl, wd_943, wd_127, ⟨by decide, by decide⟩, fun h => absurd h (by decide), fun _ => rfl, zite_neg (by decide) ⟨TX0, 4, rfl, wd_940, wd_941, wd_942, by decide +kernel, by decide⟩⟩, fun _ => trivial⟩
set_option maxRecDepth 100000 in
theorem en_11_155 : zE2 zFn "ReedOracles" 11 155 (3, 40, 2, 1, 3, 2) := ⟨⟨mt_40, rfl, rfl, wd_763, wd_122, ⟨by decide, by decide⟩, fun h => absurd h (by decide), fun _ => rfl, zite_neg (by decide) ⟨TX2, 10, rfl, wd_948, wd_761, wd_762, by decide +kernel, by decide⟩⟩, fun _ => trivial⟩
set_option maxRecDepth 100000 in
theorem en_11_158 : zE2 zFn "ReedOracles" 11 158 (3, 41, 2, 1, 3, 2) := ⟨⟨mt_41, rfl, rfl, wd_767, wd_122, ⟨by decide, by decide⟩, fun h => absurd h (by decide), fun _ => rfl, zite_neg (by decide) ⟨TX2, 10, rfl, wd_949, wd_765, wd_766, by decide +kernel, by decide⟩⟩, fun _ => trivial⟩
set_option maxRecDepth 100000 in
theorem en_11_161 : zE2 zFn "ReedOracles" 11 161 (3, 57, 4, 0, 5, 7) := ⟨⟨mt_57, rfl, rfl, wd_953, wd_128, ⟨by decide, by decide⟩, fun _ => rfl, fun h => absurd rfl h, zite_neg (by decide) ⟨TX4, 4, rfl, wd_950, wd_951, wd_952, by decide +kernel, by decide⟩⟩, fun _ => trivial⟩
set_option maxRecDepth 100000 in
theorem en_11_165 : zE2 zFn "ReedOracles" 11 165 (3, 60, 1, 1, 5, 1) := ⟨⟨mt_60, rfl, rfl, wd_972, wd_128, ⟨by decide, by decide⟩, fun h => absurd h (by decide), fun _ => rfl, zite_neg (by decide) ⟨TX4, 4, rfl, wd_969, wd_970, wd_971, by decide +kernel, by decide⟩⟩, fun _ => trivial⟩
set_option maxRecDepth 100000 in
theorem en_11_169 : zE2 zFn "ReedOracles" 11 169 (3, 61, 3, 1, 5, 6) := ⟨⟨mt_61, rfl, rfl, wd_976, wd_128, ⟨by decide, by decide⟩, fun h => absurd h (by decide), fun _ => rfl, zite_neg (by decide) ⟨TX4, 4, rfl, wd_973, wd_974, wd_975, by decide +kernel, by decide⟩⟩, fun _ => trivial⟩
set_option maxRecDepth 100000 in
theorem en_11_172 : zE2 zFn "ReedOracles" 11 172 (3, 39, 2, 1, 3, 2) := ⟨⟨mt_39, rfl, rfl, wd_759, wd_122, ⟨by decide, by decide⟩, fun h => absurd h (by decide), fun _ => rfl, zite_neg (by decide) ⟨TX2, 10, rfl, wd_985, wd_757, wd_758, by decide +kernel, by decide⟩⟩, fun _ => trivial⟩
set_option maxRecDepth 100000 in
theorem en_11_175 : zE2 zFn "ReedOracles" 11 175 (3, 65, 4, 0, 5, 8) := ⟨⟨mt_65, rfl, rfl, wd_989, wd_128, ⟨by decide, by decide⟩, fun _ => rfl, fun h => absurd rfl h, zite_neg (by decide) ⟨TX4, 4, rfl, wd_986, wd_987, wd_988, by decide +kernel, by decide⟩⟩, fun _ => trivial⟩
set_option maxRecDepth 100000 in
theorem en_11_178 : zE2 zFn "ReedOracles" 11 178 (3, 68, 2, 1, 5, 3) := ⟨⟨mt_68, rfl, rfl, wd_1016, wd_128, ⟨by decide, by decide⟩, fun h => absurd h (by decide), fun _ => rfl, zite_neg (by decide) ⟨TX4, 4, rfl, wd_1013, wd_1014, wd_1015, by decide +kernel, by decide⟩⟩, fun _ => trivial⟩
set_option maxRecDepth 100000 in
theorem en_11_182 : zE2 zFn "ReedOracles" 11 182 (3, 67, 1, 1, 5, 1) := ⟨⟨mt_67, rfl, rfl, wd_1020, wd_128, ⟨by decide, by decide⟩, fun h => absurd h (by decide), fun _ => rfl, zite_neg (by decide) ⟨TX4, 4, rfl, wd_1017, wd_1018, wd_1019, by decide +kernel, by decide⟩⟩, fun _ => trivial⟩
set_option maxRecDepth 100000 in
theorem en_11_185 : zE2 zFn "ReedOracles" 11 185 (3, 93, 4, 1, 7, 7) := ⟨⟨mt_93, rfl, rfl, wd_1028, wd_130, ⟨by decide, by decide⟩, fun h => absurd h (by decide), fun _ => rfl, zite_neg (by decide) ⟨TX6, 3, rfl, wd_1025, wd_1026, wd_1027, by decide +kernel, by decide⟩⟩, fun _ => trivial⟩
set_option maxRecDepth 100000 in
theorem en_11_189 : zE2 zFn "ReedOracles" 11 189 (0, 131, 0, 0, 0, 0) := ⟨⟨RX2, TX2, 10, rfl, inT2, by decide, wd_205⟩, fun mn h => ⟨RX2, TX2, 10, tyX2, .int, rfl, inT2, by decide, wd_205, tyX2_ok, nmX2, by decide +kernel, fun _ => rfl, fun h => absurd h (by decide), fun h => absurd h (by decide), fun h2 => absurd h2 (by decide)⟩⟩
set_option maxRecDepth 100000 in
theorem en_11_192 : zE2 zFn "ReedOracles" 11 192 (3, 94, 3, 0, 7, 6) := ⟨⟨mt_94, rfl, rfl, wd_1037, wd_130, ⟨by decide, by decide⟩, fun _ => rfl, fun h => absurd rfl h, zite_neg (by decide) ⟨TX6, 3, rfl, wd_1034, wd_1035, wd_1036, by decide +kernel, by decide⟩⟩, fun _ => trivial⟩
set_option maxRecDepth 100000 in
theorem en_11_196 : zE2 zFn "ReedOracles" 11 196 (1, 384, 0, 0, 0, 0) := ⟨⟨RX6, TX6, 3, rfl, inT6, by decide, wd_490⟩, fun mn h => ⟨RX6, TX6, 3, tyX6, (.array .int), rfl, inT6, by decide, wd_490, tyX6_ok, nmX6, by decide +kernel, fun h => absurd h (by decide), fun h => absurd h (by decide), fun _ => Or.inr ⟨_, rfl⟩, fun _ => absurd (h (by decide)).2 (by decide)⟩⟩
set_option maxRecDepth 100000 in
theorem en_11_200 : zE2 zFn "ReedOracles" 11 200 (3, 96, 4, 1, 7, 7) := ⟨⟨mt_96, rfl, rfl, wd_1051, wd_130, ⟨by decide, by decide⟩, fun h => absurd h (by decide), fun _ => rfl, zite_neg (by decide) ⟨TX6, 3, rfl, wd_1048, wd_1049, wd_1050, by decide +kernel, by decide⟩⟩, fun _ => trivial⟩
set_option maxRecDepth 100000 in
theorem en_11_203 : zE2 zFn "ReedOracles" 11 203 (3, 97, 6, 1, 7, 9) := ⟨⟨mt_97, rfl, rfl, wd_1059, wd_130, ⟨by decide, by decide⟩, fun h => absurd h (by decide), fun _ => rfl, zite_neg (by decide) ⟨TX6, 3, rfl, wd_1056, wd_1057, wd_1058, by decide +kernel, by decide⟩⟩, fun _ => trivial⟩
set_option maxRecDepth 100000 in
theorem en_11_207 : zE2 zFn "ReedOracles" 11 207 (3, 143, 2, 3, 10, 2) := ⟨⟨mt_143, rfl, rfl, wd_1068, wd_120, ⟨by decide, by decide⟩, fun h => absurd h (by decide), fun _ => rfl, zite_neg (by decide) ⟨TX9, 7, rfl, wd_1065, wd_1066, wd_1067, by decide +kernel, by decide⟩⟩, fun _ => trivial⟩
set_option maxRecDepth 100000 in
theorem en_11_211 : zE2 zFn "ReedOracles" 11 211 (3, 55, 3, 1, 4, 3) := ⟨⟨mt_55, rfl, rfl, wd_1072, wd_124, ⟨by decide, by decide⟩, fun h => absurd h (by decide), fun _ => rfl, zite_neg (by decide) ⟨TX3, 4, rfl, wd_1069, wd_1070, wd_1071, by decide +kernel, by decide⟩⟩, fun _ => trivial⟩
set_option maxRecDepth 100000 in
theorem en_11_214 : zE2 zFn "ReedOracles" 11 214 (3, 43, 2, 1, 3, 3) := ⟨⟨mt_43, rfl, rfl, wd_1080, wd_122, ⟨by decide, by decide⟩, fun h => absurd h (by decide), fun _ => rfl, zite_neg (by decide) ⟨TX2, 10, rfl, wd_1077, wd_1078, wd_1079, by decide +kernel, by decide⟩⟩, fun _ => trivial⟩
set_option maxRecDepth 100000 in
theorem en_11_218 : zE2 zFn "ReedOracles" 11 218 (3, 124, 3, 0, 8, 4) := ⟨⟨mt_124, rfl, rfl, wd_1084, wd_129, ⟨by decide, by decide⟩, fun _ => rfl, fun h => absurd rfl h, zite_neg (by decide) ⟨TX7, 3, rfl, wd_1081, wd_1082, wd_1083, by decide +kernel, by decide⟩⟩, fun _ => trivial⟩
set_option maxRecDepth 100000 in
theorem en_11_222 : zE2 zFn "ReedOracles" 11 222 (0, 448, 0, 0, 0, 0) := ⟨⟨RX7, TX7, 3, rfl, inT7, by decide, wd_473⟩, fun mn h => ⟨RX7, TX7, 3, tyX7, .int, rfl, inT7, by decide, wd_473, tyX7_ok, nmX7, by decide +kernel, fun _ => rfl, fun h => absurd h (by decide), fun h => absurd h (by decide), fun h2 => absurd h2 (by decide)⟩⟩
set_option maxRecDepth 100000 in
theorem en_11_223 : zE2 zFn "ReedOracles" 11 223 (3, 127, 1, 1, 8, 2) := ⟨⟨mt_127, rfl, rfl, wd_1093, wd_129, ⟨by decide, by decide⟩, fun h => absurd h (by decide), fun _ => rfl, zite_neg (by decide) ⟨TX7, 3, rfl, wd_1090, wd_1091, wd_1092, by decide +kernel, by decide⟩⟩, fun _ => trivial⟩
set_option maxRecDepth 100000 in
theorem en_11_226 : zE2 zFn "ReedOracles" 11 226 (3, 128, 1, 1, 8, 2) := ⟨⟨mt_128, rfl, rfl, wd_1097, wd_129, ⟨by decide, by decide⟩, fun h => absurd h (by decide), fun _ => rfl, zite_neg (by decide) ⟨TX7, 3, rfl, wd_1094, wd_1095, wd_1096, by decide +kernel, by decide⟩⟩, fun _ => trivial⟩
set_option maxRecDepth 100000 in
theorem en_11_229 : zE2 zFn "ReedOracles" 11 229 (3, 129, 3, 1, 8, 5) := ⟨⟨mt_129, rfl, rfl, wd_1101, wd_129, ⟨by decide, by decide⟩, fun h => absurd h (by decide), fun _ => rfl, zite_neg (by decide) ⟨TX7, 3, rfl, wd_1098, wd_1099, wd_1100, by decide +kernel, by decide⟩⟩, fun _ => trivial⟩
set_option maxRecDepth 100000 in
theorem en_11_233 : zE2 zFn "ReedOracles" 11 233 (0, 192, 0, 0, 0, 0) := ⟨⟨RX3, TX3, 4, rfl, inT3, by decide, wd_271⟩, fun mn h => ⟨RX3, TX3, 4, tyX3, .int, rfl, inT3, by decide, wd_271, tyX3_ok, nmX3, by decide +kernel, fun _ => rfl, fun h => absurd h (by decide), fun h => absurd h (by decide), fun h2 => absurd h2 (by decide)⟩⟩
set_option maxRecDepth 100000 in
theorem en_11_234 : zE2 zFn "ReedOracles" 11 234 (3, 130, 3, 1, 8, 8) := ⟨⟨mt_130, rfl, rfl, wd_1105, wd_129, ⟨by decide, by decide⟩, fun h => absurd h (by decide), fun _ => rfl, zite_neg (by decide) ⟨TX7, 3, rfl, wd_1102, wd_1103, wd_1104, by decide +kernel, by decide⟩⟩, fun _ => trivial⟩
set_option maxRecDepth 100000 in
theorem en_11_237 : zE2 zFn "ReedOracles" 11 237 (3, 126, 2, 1, 8, 2) := ⟨⟨mt_126, rfl, rfl, wd_1119, wd_129, ⟨by decide, by decide⟩, fun h => absurd h (by decide), fun _ => rfl, zite_neg (by decide) ⟨TX7, 3, rfl, wd_1116, wd_1117, wd_1118, by decide +kernel, by decide⟩⟩, fun _ => trivial⟩
set_option maxRecDepth 100000 in
theorem en_11_240 : zE2 zFn "ReedOracles" 11 240 (3, 192, 2, 1, 0, 2) := ⟨⟨mt_192, rfl, rfl, wd_1126, wd_119, ⟨by decide, by decide⟩, fun h => absurd h (by decide), fun _ => rfl, ⟨wd_1125, by decide +kernel, Or.inl wd_1124⟩⟩, fun _ => trivial⟩
set_option maxRecDepth 100000 in
theorem en_11_244 : zE2 zFn "ReedOracles" 11 244 (6, 0, 0, 0, 0, (-1)) := ⟨wd_1127, fun _ => trivial⟩
set_option maxRecDepth 100000 in
theorem en_11_246 : zE2 zFn "ReedOracles" 11 246 (6, 0, 0, 0, 0, 10) := ⟨wd_1128, fun _ => trivial⟩
set_option maxRecDepth 100000 in
theorem en_11_248 : zE2 zFn "ReedOracles" 11 248 (3, 196, 2, 2, 0, 6) := ⟨⟨mt_196, rfl, rfl, wd_1131, wd_119, ⟨by decide, by decide⟩, fun h => absurd h (by decide), fun _ => rfl, ⟨wd_1130, by decide +kernel, Or.inl wd_1129⟩⟩, fun _ => trivial⟩
set_option maxRecDepth 100000 in
theorem en_11_252 : zE2 zFn "ReedOracles" 11 252 (3, 197, 2, 2, 0, 5) := ⟨⟨mt_197, rfl, rfl, wd_1134, wd_119, ⟨by decide, by decide⟩, fun h => absurd h (by decide), fun _ => rfl, ⟨wd_1133, by decide +kernel, Or.inl wd_1132⟩⟩, fun _ => trivial⟩
set_option maxRecDepth 100000 in
theorem en_11_256 : zE2 zFn "ReedOracles" 11 256 (3, 198, 3, 2, 0, 12) := ⟨⟨mt_198, rfl, rfl, wd_1137, wd_119, ⟨by decide, by decide⟩, fun h => absurd h (by decide), fun _ => rfl, ⟨wd_1136, by decide +kernel, Or.inl wd_1135⟩⟩, fun _ => trivial⟩
set_option maxRecDepth 100000 in
theorem en_11_260 : zE2 zFn "ReedOracles" 11 260 (3, 24, 4, 0, 2, 5) := ⟨⟨mt_24, rfl, rfl, wd_1145, wd_126, ⟨by decide, by decide⟩, fun _ => rfl, fun h => absurd rfl h, zite_neg (by decide) ⟨TX1, 17, rfl, wd_1142, wd_1143, wd_1144, by decide +kernel, by decide⟩⟩, fun _ => trivial⟩
set_option maxRecDepth 100000 in
theorem en_11_263 : zE2 zFn "ReedOracles" 11 263 (3, 49, 5, 1, 3, 5) := ⟨⟨mt_49, rfl, rfl, wd_997, wd_122, ⟨by decide, by decide⟩, fun h => absurd h (by decide), fun _ => rfl, zite_neg (by decide) ⟨TX2, 10, rfl, wd_1159, wd_995, wd_996, by decide +kernel, by decide⟩⟩, fun _ => trivial⟩
set_option maxRecDepth 100000 in
theorem en_11_267 : zE2 zFn "ReedOracles" 11 267 (3, 98, 6, 1, 7, 7) := ⟨⟨mt_98, rfl, rfl, wd_1167, wd_130, ⟨by decide, by decide⟩, fun h => absurd h (by decide), fun _ => rfl, zite_neg (by decide) ⟨TX6, 3, rfl, wd_1164, wd_1165, wd_1166, by decide +kernel, by decide⟩⟩, fun _ => trivial⟩
set_option maxRecDepth 100000 in
theorem en_11_270 : zE2 zFn "ReedOracles" 11 270 (3, 99, 4, 1, 7, 7) := ⟨⟨mt_99, rfl, rfl, wd_1176, wd_130, ⟨by decide, by decide⟩, fun h => absurd h (by decide), fun _ => rfl, zite_neg (by decide) ⟨TX6, 3, rfl, wd_1173, wd_1174, wd_1175, by decide +kernel, by decide⟩⟩, fun _ => trivial⟩
set_option maxRecDepth 100000 in
theorem en_11_273 : zE2 zFn "ReedOracles" 11 273 (3, 69, 4, 0, 5, 8) := ⟨⟨mt_69, rfl, rfl, wd_1185, wd_128, ⟨by decide, by decide⟩, fun _ => rfl, fun h => absurd rfl h, zite_neg (by decide) ⟨TX4, 4, rfl, wd_1182, wd_1183, wd_1184, by decide +kernel, by decide⟩⟩, fun _ => trivial⟩
set_option maxRecDepth 100000 in
theorem en_11_276 : zE2 zFn "ReedOracles" 11 276 (3, 71, 1, 1, 5, 1) := ⟨⟨mt_71, rfl, rfl, wd_1193, wd_128, ⟨by decide, by decide⟩, fun h => absurd h (by decide), fun _ => rfl, zite_neg (by decide) ⟨TX4, 4, rfl, wd_1190, wd_1191, wd_1192, by decide +kernel, by decide⟩⟩, fun _ => trivial⟩
set_option maxRecDepth 100000 in
theorem en_11_279 : zE2 zFn "ReedOracles" 11 279 (3, 72, 3, 1, 5, 6) := ⟨⟨mt_72, rfl, rfl, wd_1197, wd_128, ⟨by decide, by decide⟩, fun h => absurd h (by decide), fun _ => rfl, zite_neg (by decide) ⟨TX4, 4, rfl, wd_1194, wd_1195, wd_1196, by decide +kernel, by decide⟩⟩, fun _ => trivial⟩
set_option maxRecDepth 100000 in
theorem en_11_282 : zE2 zFn "ReedOracles" 11 282 (3, 100, 5, 1, 7, 8) := ⟨⟨mt_100, rfl, rfl, wd_1209, wd_130, ⟨by decide, by decide⟩, fun h => absurd h (by decide), fun _ => rfl, zite_neg (by decide) ⟨TX6, 3, rfl, wd_1206, wd_1207, wd_1208, by decide +kernel, by decide⟩⟩, fun _ => trivial⟩
set_option maxRecDepth 100000 in
theorem en_11_286 : zE2 zFn "ReedOracles" 11 286 (3, 101, 3, 1, 7, 7) := ⟨⟨mt_101, rfl, rfl, wd_1219, wd_130, ⟨by decide, by decide⟩, fun h => absurd h (by decide), fun _ => rfl, zite_neg (by decide) ⟨TX6, 3, rfl, wd_1216, wd_1217, wd_1218, by decide +kernel, by decide⟩⟩, fun _ => trivial⟩
set_option maxRecDepth 100000 in
theorem en_11_289 : zE2 zFn "ReedOracles" 11 289 (3, 325, 1, 1, 0, 1) := ⟨⟨mt_325, rfl, rfl, wd_1009, wd_139, ⟨by decide, by decide⟩, fun h => absurd h (by decide), fun _ => rfl, ⟨wd_1008, by decide +kernel, Or.inl wd_1228⟩⟩, fun _ => trivial⟩
set_option maxRecDepth 100000 in
theorem en_11_294 : zE2 zFn "ReedOracles" 11 294 (3, 104, 3, 1, 7, 6) := ⟨⟨mt_104, rfl, rfl, wd_1236, wd_130, ⟨by decide, by decide⟩, fun h => absurd h (by decide), fun _ => rfl, zite_neg (by decide) ⟨TX6, 3, rfl, wd_1233, wd_1234, wd_1235, by decide +kernel, by decide⟩⟩, fun _ => trivial⟩
set_option maxRecDepth 100000 in
theorem en_11_297 : zE2 zFn "ReedOracles" 11 297 (3, 106, 3, 1, 7, 7) := ⟨⟨mt_106, rfl, rfl, wd_1249, wd_130, ⟨by decide, by decide⟩, fun h => absurd h (by decide), fun _ => rfl, zite_neg (by decide) ⟨TX6, 3, rfl, wd_1246, wd_1247, wd_1248, by decide +kernel, by decide⟩⟩, fun _ => trivial⟩
set_option maxRecDepth 100000 in
theorem en_11_300 : zE2 zFn "ReedOracles" 11 300 (3, 108, 4, 1, 7, 6) := ⟨⟨mt_108, rfl, rfl, wd_1261, wd_130, ⟨by decide, by decide⟩, fun h => absurd h (by decide), fun _ => rfl, zite_neg (by decide) ⟨TX6, 3, rfl, wd_1258, wd_1259, wd_1260, by decide +kernel, by decide⟩⟩, fun _ => trivial⟩
set_option maxRecDepth 100000 in
theorem en_11_303 : zE2 zFn "ReedOracles" 11 303 (3, 109, 2, 1, 7, 5) := ⟨⟨mt_109, rfl, rfl, wd_1269, wd_130, ⟨by decide, by decide⟩, fun h => absurd h (by decide), fun _ => rfl, zite_neg (by decide) ⟨TX6, 3, rfl, wd_1266, wd_1267, wd_1268, by decide +kernel, by decide⟩⟩, fun _ => trivial⟩
set_option maxRecDepth 100000 in
theorem en_11_306 : zE2 zFn "ReedOracles" 11 306 (3, 112, 2, 1, 7, 4) := ⟨⟨mt_112, rfl, rfl, wd_1276, wd_130, ⟨by decide, by decide⟩, fun h => absurd h (by decide), fun _ => rfl, zite_neg (by decide) ⟨TX6, 3, rfl, wd_1273, wd_1274, wd_1275, by decide +kernel, by decide⟩⟩, fun _ => trivial⟩
set_option maxRecDepth 100000 in
theorem en_11_309 : zE2 zFn "ReedOracles" 11 309 (3, 111, 3, 1, 7, 5) := ⟨⟨mt_111, rfl, rfl, wd_1280, wd_130, ⟨by decide, by decide⟩, fun h => absurd h (by decide), fun _ => rfl, zite_neg (by decide) ⟨TX6, 3, rfl, wd_1281, wd_1278, wd_1279, by decide +kernel, by decide⟩⟩, fun _ => trivial⟩
set_option maxRecDepth 100000 in
theorem en_11_312 : zE2 zFn "ReedOracles" 11 312 (3, 114, 3, 1, 7, 5) := ⟨⟨mt_114, rfl, rfl, wd_1289, wd_130, ⟨by decide, by decide⟩, fun h => absurd h (by decide), fun _ => rfl, zite_neg (by decide) ⟨TX6, 3, rfl, wd_1286, wd_1287, wd_1288, by decide +kernel, by decide⟩⟩, fun _ => trivial⟩
set_option maxRecDepth 100000 in
theorem en_11_315 : zE2 zFn "ReedOracles" 11 315 (3, 113, 4, 1, 7, 6) := ⟨⟨mt_113, rfl, rfl, wd_1293, wd_130, ⟨by decide, by decide⟩, fun h => absurd h (by decide), fun _ => rfl, zite_neg (by decide) ⟨TX6, 3, rfl, wd_1294, wd_1291, wd_1292, by decide +kernel, by decide⟩⟩, fun _ => trivial⟩
set_option maxRecDepth 100000 in
theorem en_11_318 : zE2 zFn "ReedOracles" 11 318 (0, 65, 0, 0, 0, 0) := ⟨⟨RX1, TX1, 17, rfl, inT1, by decide, wd_376⟩, fun mn h => ⟨RX1, TX1, 17, tyX1, .int, rfl, inT1, by decide, wd_376, tyX1_ok, nmX1, by decide +kernel, fun _ => rfl, fun h => absurd h (by decide), fun h => absurd h (by decide), fun h2 => absurd h2 (by decide)⟩⟩
set_option maxRecDepth 100000 in
theorem en_11_321 : zE2 zFn "ReedOracles" 11 321 (3, 29, 1, 1, 2, 1) := ⟨⟨mt_29, rfl, rfl, wd_1302, wd_126, ⟨by decide, by decide⟩, fun h => absurd h (by decide), fun _ => rfl, zite_neg (by decide) ⟨TX1, 17, rfl, wd_1299, wd_1300, wd_1301, by decide +kernel, by decide⟩⟩, fun _ => trivial⟩
set_option maxRecDepth 100000 in
theorem en_11_324 : zE2 zFn "ReedOracles" 11 324 (3, 30, 1, 1, 2, 1) := ⟨⟨mt_30, rfl, rfl, wd_1309, wd_126, ⟨by decide, by decide⟩, fun h => absurd h (by decide), fun _ => rfl, zite_neg (by decide) ⟨TX1, 17, rfl, wd_1306, wd_1307, wd_1308, by decide +kernel, by decide⟩⟩, fun _ => trivial⟩
set_option maxRecDepth 100000 in
theorem en_11_327 : zE2 zFn "ReedOracles" 11 327 (3, 32, 2, 1, 2, 4) := ⟨⟨mt_32, rfl, rfl, wd_1313, wd_126, ⟨by decide, by decide⟩, fun h => absurd h (by decide), fun _ => rfl, zite_neg (by decide) ⟨TX1, 17, rfl, wd_1310, wd_1311, wd_1312, by decide +kernel, by decide⟩⟩, fun _ => trivial⟩
set_option maxRecDepth 100000 in
theorem en_11_330 : zE2 zFn "ReedOracles" 11 330 (3, 133, 6, 1, 8, 8) := ⟨⟨mt_133, rfl, rfl, wd_1321, wd_129, ⟨by decide, by decide⟩, fun h => absurd h (by decide), fun _ => rfl, zite_neg (by decide) ⟨TX7, 3, rfl, wd_1318, wd_1319, wd_1320, by decide +kernel, by decide⟩⟩, fun _ => trivial⟩
set_option maxRecDepth 100000 in
theorem en_11_333 : zE2 zFn "ReedOracles" 11 333 (3, 115, 2, 0, 7, 7) := ⟨⟨mt_115, rfl, rfl, wd_1330, wd_130, ⟨by decide, by decide⟩, fun _ => rfl, fun h => absurd rfl h, zite_neg (by decide) ⟨TX6, 3, rfl, wd_1327, wd_1328, wd_1329, by decide +kernel, by decide⟩⟩, fun _ => trivial⟩
set_option maxRecDepth 100000 in
theorem en_11_337 : zE2 zFn "ReedOracles" 11 337 (3, 118, 3, 1, 7, 4) := ⟨⟨mt_118, rfl, rfl, wd_1342, wd_130, ⟨by decide, by decide⟩, fun h => absurd h (by decide), fun _ => rfl, zite_neg (by decide) ⟨TX6, 3, rfl, wd_1339, wd_1340, wd_1341, by decide +kernel, by decide⟩⟩, fun _ => trivial⟩
set_option maxRecDepth 100000 in
theorem en_11_340 : zE2 zFn "ReedOracles" 11 340 (1, 385, 0, 0, 0, 0) := ⟨⟨RX6, TX6, 3, rfl, inT6, by decide, wd_492⟩, fun mn h => ⟨RX6, TX6, 3, tyX6, (.array .int), rfl, inT6, by decide, wd_492, tyX6_ok, nmX6, by decide +kernel, fun h => absurd h (by decide), fun h => absurd h (by decide), fun _ => Or.inr ⟨_, rfl⟩, fun _ => absurd (h (by decide)).2 (by decide)⟩⟩
set_option maxRecDepth 100000 in
theorem en_11_343 : zE2 zFn "ReedOracles" 11 343 (3, 119, 3, 1, 7, 5) := ⟨⟨mt_119, rfl, rfl, wd_1350, wd_130, ⟨by decide, by decide⟩, fun h => absurd h (by decide), fun _ => rfl, zite_neg (by decide) ⟨TX6, 3, rfl, wd_1347, wd_1348, wd_1349, by decide +kernel, by decide⟩⟩, fun _ => trivial⟩
set_option maxRecDepth 100000 in
theorem en_11_346 : zE2 zFn "ReedOracles" 11 346 (3, 122, 3, 1, 7, 7) := ⟨⟨mt_122, rfl, rfl, wd_1362, wd_130, ⟨by decide, by decide⟩, fun h => absurd h (by decide), fun _ => rfl, zite_neg (by decide) ⟨TX6, 3, rfl, wd_1359, wd_1360, wd_1361, by decide +kernel, by decide⟩⟩, fun _ => trivial⟩
set_option maxRecDepth 100000 in
theorem en_11_349 : zE2 zFn "ReedOracles" 11 349 (3, 121, 4, 1, 7, 8) := ⟨⟨mt_121, rfl, rfl, wd_1366, wd_130, ⟨by decide, by decide⟩, fun h => absurd h (by decide), fun _ => rfl, zite_neg (by decide) ⟨TX6, 3, rfl, wd_1368, wd_1364, wd_1365, by decide +kernel, by decide⟩⟩, fun _ => trivial⟩
set_option maxRecDepth 100000 in
theorem en_11_352 : zE2 zFn "ReedOracles" 11 352 (3, 190, 1, 1, 0, 1) := ⟨⟨mt_190, rfl, rfl, wd_548, wd_119, ⟨by decide, by decide⟩, fun h => absurd h (by decide), fun _ => rfl, ⟨wd_547, by decide +kernel, Or.inl wd_546⟩⟩, fun _ => trivial⟩
set_option maxRecDepth 100000 in
theorem en_11_355 : zE2 zFn "ReedOracles" 11 355 (1, 577, 0, 0, 0, 0) := ⟨⟨RX9, TX9, 7, rfl, inT9, by decide, wd_292⟩, fun mn h => ⟨RX9, TX9, 7, tyX9, (.array .int), rfl, inT9, by decide, wd_292, tyX9_ok, nmX9, by decide +kernel, fun h => absurd h (by decide), fun h => absurd h (by decide), fun _ => Or.inr ⟨_, rfl⟩, fun _ => absurd (h (by decide)).2 (by decide)⟩⟩
set_option maxRecDepth 100000 in
theorem en_11_358 : zE2 zFn "ReedOracles" 11 358 (3, 138, 2, 0, 10, 3) := ⟨⟨mt_138, rfl, rfl, wd_1380, wd_120, ⟨by decide, by decide⟩, fun _ => rfl, fun h => absurd rfl h, zite_neg (by decide) ⟨TX9, 7, rfl, wd_1377, wd_1378, wd_1379, by decide +kernel, by decide⟩⟩, fun _ => trivial⟩
set_option maxRecDepth 100000 in
theorem en_11_362 : zE2 zFn "ReedOracles" 11 362 (11, 0, 0, 0, 0, 0) := ⟨⟨wd_852, wd_734, wd_137, wd_735⟩, fun _ => trivial⟩
set_option maxRecDepth 100000 in
theorem en_11_367 : zE2 zFn "ReedOracles" 11 367 (12, 0, 0, 0, 0, 0) := ⟨⟨wd_872, wd_873, wd_137, wd_874⟩, fun _ => trivial⟩
set_option maxRecDepth 100000 in
theorem pf_11 : ∀ q ∈ zPl_11, zE2 zFn "ReedOracles" 11 q.1 q.2 := List.forall_mem_cons.mpr ⟨en_11_1, List.forall_mem_cons.mpr ⟨en_11_7, List.forall_mem_cons.mpr ⟨en_11_9, List.forall_mem_cons.mpr ⟨en_11_10, List.forall_mem_cons.mpr ⟨en_11_16, List.forall_mem_cons.mpr ⟨en_11_20, List.forall_mem_cons.mpr ⟨en_11_22, List.forall_mem_cons.mpr ⟨en_11_26, List.forall_mem_cons.mpr ⟨en_11_29, List.forall_mem_cons.mpr ⟨en_11_33, List.forall_mem_cons.mpr ⟨en_11_35, List.forall_mem_cons.mpr ⟨en_11_36, List.forall_mem_cons.mpr ⟨en_11_40, List.forall_mem_cons.mpr ⟨en_11_42, List.forall_mem_cons.mpr ⟨en_11_43, List.forall_mem_cons.mpr ⟨en_11_47, List.forall_mem_cons.mpr ⟨en_11_49, List.forall_mem_cons.mpr ⟨en_11_50, List.forall_mem_cons.mpr ⟨en_11_54, List.forall_mem_cons.mpr ⟨en_11_56, List.forall_mem_cons.mpr ⟨en_11_57, List.forall_mem_cons.mpr ⟨en_11_61, List.forall_mem_cons.mpr ⟨en_11_63, List.forall_mem_cons.mpr ⟨en_11_64, List.forall_mem_cons.mpr ⟨en_11_68, List.forall_mem_cons.mpr ⟨en_11_74, List.forall_mem_cons.mpr ⟨en_11_78, List.forall_mem_cons.mpr ⟨en_11_82, List.forall_mem_cons.mpr ⟨en_11_86, List.forall_mem_cons.mpr ⟨en_11_89, List.forall_mem_cons.mpr ⟨en_11_92, List.forall_mem_cons.mpr ⟨en_11_95, List.forall_mem_cons.mpr ⟨en_11_99, List.forall_mem_cons.mpr ⟨en_11_100, List.forall_mem_cons.mpr ⟨en_11_101, List.forall_mem_cons.mpr ⟨en_11_105, List.forall_mem_cons.mpr ⟨en_11_111, List.forall_mem_cons.mpr ⟨en_11_115, List.forall_mem_cons.mpr ⟨en_11_119, List.forall_mem_cons.mpr ⟨en_11_122, List.forall_mem_cons.mpr ⟨en_11_126, List.forall_mem_cons.mpr ⟨en_11_130, List.forall_mem_cons.mpr ⟨en_11_131, List.forall_mem_cons.mpr ⟨en_11_135, List.forall_mem_cons.mpr ⟨en_11_138, List.forall_mem_cons.mpr ⟨en_11_141, List.forall_mem_cons.mpr ⟨en_11_145, List.forall_mem_cons.mpr ⟨en_11_149, List.forall_mem_cons.mpr ⟨en_11_152, List.forall_mem_cons.mpr ⟨en_11_155, List.forall_mem_cons.mpr ⟨en_11_158, List.forall_mem_cons.mpr ⟨en_11_161, List.forall_mem_cons.mpr ⟨en_11_165, List.forall_mem_cons.mpr ⟨en_11_169, List.forall_mem_cons.mpr ⟨en_11_172, List.forall_mem_cons.mpr ⟨en_11_175, List.forall_mem_cons.mpr ⟨en_11_178, List.forall_mem_cons.mpr ⟨en_11_182, List.forall_mem_cons.mpr ⟨en_11_185, List.forall_mem_cons.mpr ⟨en_11_189, List.forall_mem_cons.mpr ⟨en_11_192, List.forall_mem_cons.mpr ⟨en_11_196, List.forall_mem_cons.mpr ⟨en_11_200, List.forall_mem_cons.mpr ⟨en_11_203, List.forall_mem_cons.mpr ⟨en_11_207, List.forall_mem_cons.mpr ⟨en_11_211, List.forall_mem_cons.mpr ⟨en_11_214, List.forall_mem_cons.mpr ⟨en_11_218, List.forall_mem_cons.mpr ⟨en_11_222, List.forall_mem_cons.mpr ⟨en_11_223, List.forall_mem_cons.mpr ⟨en_11_226, List.forall_mem_cons.mpr ⟨en_11_229, List.forall_mem_cons.mpr ⟨en_11_233, List.forall_mem_cons.mpr ⟨en_11_234, List.forall_mem_cons.mpr ⟨en_11_237, List.forall_mem_cons.mpr ⟨en_11_240, List.forall_mem_cons.mpr ⟨en_11_244, List.forall_mem_cons.mpr ⟨en_11_246, List.forall_mem_cons.mpr ⟨en_11_248, List.forall_mem_cons.mpr ⟨en_11_252, List.forall_mem_cons.mpr ⟨en_11_256, List.forall_mem_cons.mpr ⟨en_11_260, List.forall_mem_cons.mpr ⟨en_11_263, List.forall_mem_cons.mpr ⟨en_11_267, List.forall_mem_cons.mpr ⟨en_11_270, List.forall_mem_cons.mpr ⟨en_11_273, List.forall_mem_cons.mpr ⟨en_11_276, List.forall_mem_cons.mpr ⟨en_11_279, List.forall_mem_cons.mpr ⟨en_11_282, List.forall_mem_cons.mpr ⟨en_11_286, List.forall_mem_cons.mpr ⟨en_11_289, List.forall_mem_cons.mpr ⟨en_11_294, List.forall_mem_cons.mpr ⟨en_11_297, List.forall_mem_cons.mpr ⟨en_11_300, List.forall_mem_cons.mpr ⟨en_11_303, List.forall_mem_cons.mpr ⟨en_11_306, List.forall_mem_cons.mpr ⟨en_11_309, List.forall_mem_cons.mpr ⟨en_11_312, List.forall_mem_cons.mpr ⟨en_11_315, List.forall_mem_cons.mpr ⟨en_11_318, List.forall_mem_cons.mpr ⟨en_11_321, List.forall_mem_cons.mpr ⟨en_11_324, List.forall_mem_cons.mpr ⟨en_11_327, List.forall_mem_cons.mpr ⟨en_11_330, List.forall_mem_cons.mpr ⟨en_11_333, List.forall_mem_cons.mpr ⟨en_11_337, List.forall_mem_cons.mpr ⟨en_11_340, List.forall_mem_cons.mpr ⟨en_11_343, List.forall_mem_cons.mpr ⟨en_11_346, List.forall_mem_cons.mpr ⟨en_11_349, List.forall_mem_cons.mpr ⟨en_11_352, List.forall_mem_cons.mpr ⟨en_11_355, List.forall_mem_cons.mpr ⟨en_11_358, List.forall_mem_cons.mpr ⟨en_11_362, List.forall_mem_cons.mpr ⟨en_11_367, (fun _ h => absurd h List.not_mem_nil)⟩⟩⟩⟩⟩⟩⟩⟩⟩⟩⟩⟩⟩⟩⟩⟩⟩⟩⟩⟩⟩⟩⟩⟩⟩⟩⟩⟩⟩⟩⟩⟩⟩⟩⟩⟩⟩⟩⟩⟩⟩⟩⟩⟩⟩⟩⟩⟩⟩⟩⟩⟩⟩⟩⟩⟩⟩⟩⟩⟩⟩⟩⟩⟩⟩⟩⟩⟩⟩⟩⟩⟩⟩⟩⟩⟩⟩⟩⟩⟩⟩⟩⟩⟩⟩⟩⟩⟩⟩⟩⟩⟩⟩⟩⟩⟩⟩⟩⟩⟩⟩⟩⟩⟩⟩⟩⟩⟩⟩⟩⟩⟩⟩⟩⟩
set_option maxRecDepth 100000 in
theorem pk_11 : ∀ idx e, zlk zPl_11 idx = some e → zE2 zFn "ReedOracles" 11 idx e := fun idx e h => pf_11 _ (zlk_mem _ _ _ h)
set_option maxRecDepth 100000 in
theorem en_12_1 : zE2 zFn "ReedOraclesModel" 12 1 (9, 0, 0, 0, 0, 0) := ⟨⟨wd_1396, wd_146, wd_147⟩, fun _ => trivial⟩
set_option maxRecDepth 100000 in
theorem en_12_7 : zE2 zFn "ReedOraclesModel" 12 7 (1, 768, 0, 0, 0, 0) := ⟨⟨RX12, TX12, 43, rfl, inT12, by decide, wd_1397⟩, fun mn h => ⟨RX12, TX12, 43, tyX12, (.array .int), rfl, inT12, by decide, wd_1397, tyX12_ok, nmX12, by decide +kernel, fun h => absurd h (by decide), fun h => absurd h (by decide), fun _ => Or.inr ⟨_, rfl⟩, fun _ => ⟨(h (by decide)).1, rfl⟩⟩⟩
set_option maxRecDepth 100000 in
theorem en_12_13 : zE2 zFn "ReedOraclesModel" 12 13 (1, 769, 0, 0, 0, 0) := ⟨⟨RX12, TX12, 43, rfl, inT12, by decide, wd_1398⟩, fun mn h => ⟨RX12, TX12, 43, tyX12, (.array .boolean), rfl, inT12, by decide, wd_1398, tyX12_ok, nmX12, by decide +kernel, fun h => absurd h (by decide), fun h => absurd h (by decide), fun _ => Or.inr ⟨_, rfl⟩, fun _ => ⟨(h (by decide)).1, rfl⟩⟩⟩
set_option maxRecDepth 100000 in
theorem en_12_17 : zE2 zFn "ReedOraclesModel" 12 17 (1, 777, 0, 0, 0, 0) := ⟨⟨RX12, TX12, 43, rfl, inT12, by decide, wd_1406⟩, fun mn h => ⟨RX12, TX12, 43, tyX12, (.array .int), rfl, inT12, by decide, wd_1406, tyX12_ok, nmX12, by decide +kernel, fun h => absurd h (by decide), fun h => absurd h (by decide), fun _ => Or.inr ⟨_, rfl⟩, fun _ => ⟨(h (by decide)).1, rfl⟩⟩⟩
set_option maxRecDepth 100000 in
theorem en_12_20 : zE2 zFn "ReedOraclesModel" 12 20 (1, 785, 0, 0, 0, 0) := ⟨⟨RX12, TX12, 43, rfl, inT12, by decide, wd_1414⟩, fun mn h => ⟨RX12, TX12, 43, tyX12, (.array .int), rfl, inT12, by decide, wd_1414, tyX12_ok, nmX12, by decide +kernel, fun h => absurd h (by decide), fun h => absurd h (by decide), fun _ => Or.inr ⟨_, rfl⟩, fun _ => ⟨(h (by decide)).1, rfl⟩⟩⟩
set_option maxRecDepth 100000 in
theorem en_12_23 : zE2 zFn "ReedOraclesModel" 12 23 (1, 786, 0, 0, 0, 0) := ⟨⟨RX12, TX12, 43, rfl, inT12, by decide, wd_1415⟩, fun mn h => ⟨RX12, TX12, 43, tyX12, (.array .int), rfl, inT12, by decide, wd_1415, tyX12_ok, nmX12, by decide +kernel, fun h => absurd h (by decide), fun h => absurd h (by decide), fun _ => Or.inr ⟨_, rfl⟩, fun _ => ⟨(h (by decide)).1, rfl⟩⟩⟩
set_option maxRecDepth 100000 in
theorem en_12_26 : zE2 zFn "ReedOraclesModel" 12 26 (1, 787, 0, 0, 0, 0) := ⟨⟨RX12, TX12, 43, rfl, inT12, by decide, wd_1416⟩, fun mn h => ⟨RX12, TX12, 43, tyX12, (.array .int), rfl, inT12, by decide, wd_1416, tyX12_ok, nmX12, by decide +kernel, fun h => absurd h (by decide), fun h => absurd h (by decide), fun _ => Or.inr ⟨_, rfl⟩, fun _ => ⟨(h (by decide)).1, rfl⟩⟩⟩
set_option maxRecDepth 100000 in
theorem en_12_29 : zE2 zFn "ReedOraclesModel" 12 29 (1, 789, 0, 0, 0, 0) := ⟨⟨RX12, TX12, 43, rfl, inT12, by decide, wd_1418⟩, fun mn h => ⟨RX12, TX12, 43, tyX12, (.array .int), rfl, inT12, by decide, wd_1418, tyX12_ok, nmX12, by decide +kernel, fun h => absurd h (by decide), fun h => absurd h (by decide), fun _ => Or.inr ⟨_, rfl⟩, fun _ => ⟨(h (by decide)).1, rfl⟩⟩⟩
set_option maxRecDepth 100000 in
theorem en_12_32 : zE2 zFn "ReedOraclesModel" 12 32 (1, 790, 0, 0, 0, 0) := ⟨⟨RX12, TX12, 43, rfl, inT12, by decide, wd_1419⟩, fun mn h => ⟨RX12, TX12, 43, tyX12, (.array .int), rfl, inT12, by decide, wd_1419, tyX12_ok, nmX12, by decide +kernel, fun h => absurd h (by decide), fun h => absurd h (by decide), fun _ => Or.inr ⟨_, rfl⟩, fun _ => ⟨(h (by decide)).1, rfl⟩⟩⟩
set_option maxRecDepth 100000 in
theorem en_12_35 : zE2 zFn "ReedOraclesModel" 12 35 (1, 791, 0, 0, 0, 0) := ⟨⟨RX12, TX12, 43, rfl, inT12, by decide, wd_1420⟩, fun mn h => ⟨RX12, TX12, 43, tyX12, (.array .int), rfl, inT12, by decide, wd_1420, tyX12_ok, nmX12, by decide +kernel, fun h => absurd h (by decide), fun h => absurd h (by decide), fun _ => Or.inr ⟨_, rfl⟩, fun _ => ⟨(h (by decide)).1, rfl⟩⟩⟩
set_option maxRecDepth 100000 in
theorem en_12_38 : zE2 zFn "ReedOraclesModel" 12 38 (1, 802, 0, 0, 0, 0) := ⟨⟨RX12, TX12, 43, rfl, inT12, by decide, wd_1431⟩, fun mn h => ⟨RX12, TX12, 43, tyX12, (.array .int), rfl, inT12, by decide, wd_1431, tyX12_ok, nmX12, by decide +kernel, fun h => absurd h (by decide), fun h => absurd h (by decide), fun _ => Or.inr ⟨_, rfl⟩, fun _ => ⟨(h (by decide)).1, rfl⟩⟩⟩
set_option maxRecDepth 100000 in
theorem en_12_41 : zE2 zFn "ReedOraclesModel" 12 41 (1, 803, 0, 0, 0, 0) := ⟨⟨RX12, TX12, 43, rfl, inT12, by decide, wd_1432⟩, fun mn h => ⟨RX12, TX12, 43, tyX12, (.array .int), rfl, inT12, by decide, wd_1432, tyX12_ok, nmX12, by decide +kernel, fun h => absurd h (by decide), fun h => absurd h (by decide), fun _ => Or.inr ⟨_, rfl⟩, fun _ => ⟨(h (by decide)).1, rfl⟩⟩⟩
set_option maxRecDepth 100000 in
theorem en_12_44 : zE2 zFn "ReedOraclesModel" 12 44 (1, 804, 0, 0, 0, 0) := ⟨⟨RX12, TX12, 43, rfl, inT12, by decide, wd_1433⟩, fun mn h => ⟨RX12, TX12, 43, tyX12, (.array .int), rfl, inT12, by decide, wd_1433, tyX12_ok, nmX12, by decide +kernel, fun h => absurd h (by decide), fun h => absurd h (by decide), fun _ => Or.inr ⟨_, rfl⟩, fun _ => ⟨(h (by decide)).1, rfl⟩⟩⟩
set_option maxRecDepth 100000 in
theorem en_12_47 : zE2 zFn "ReedOraclesModel" 12 47 (1, 805, 0, 0, 0, 0) := ⟨⟨RX12, TX12, 43, rfl, inT12, by decide, wd_1434⟩, fun mn h => ⟨RX12, TX12, 43, tyX12, (.array .int), rfl, inT12, by decide, wd_1434, tyX12_ok, nmX12, by decide +kernel, fun h => absurd h (by decide), fun h => absurd h (by decide), fun _ => Or.inr ⟨_, rfl⟩, fun _ => ⟨(h (by decide)).1, rfl⟩⟩⟩
set_option maxRecDepth 100000 in
theorem en_12_50 : zE2 zFn "ReedOraclesModel" 12 50 (1, 806, 0, 0, 0, 0) := ⟨⟨RX12, TX12, 43, rfl, inT12, by decide, wd_1435⟩, fun mn h => ⟨RX12, TX12, 43, tyX12, (.array .int), rfl, inT12, by decide, wd_1435, tyX12_ok, nmX12, by decide +kernel, fun h => absurd h (by decide), fun h => absurd h (by decide), fun _ => Or.inr ⟨_, rfl⟩, fun _ => ⟨(h (by decide)).1, rfl⟩⟩⟩
set_option maxRecDepth 100000 in
theorem en_12_53 : zE2 zFn "ReedOraclesModel" 12 53 (1, 807, 0, 0, 0, 0) := ⟨⟨RX12, TX12, 43, rfl, inT12, by decide, wd_1436⟩, fun mn h => ⟨RX12, TX12, 43, tyX12, (.array .int), rfl, inT12, by decide, wd_1436, tyX12_ok, nmX12, by decide +kernel, fun h => absurd h (by decide), fun h => absurd h (by decide), fun _ => Or.inr ⟨_, rfl⟩, fun _ => ⟨(h (by decide)).1, rfl⟩⟩⟩
set_option maxRecDepth 100000 in
theorem en_12_56 : zE2 zFn "ReedOraclesModel" 12 56 (1, 809, 0, 0, 0, 0) := ⟨⟨RX12, TX12, 43, rfl, inT12, by decide, wd_1438⟩, fun mn h => ⟨RX12, TX12, 43, tyX12, (.array .int), rfl, inT12, by decide, wd_1438, tyX12_ok, nmX12, by decide +kernel, fun h => absurd h (by decide), fun h => absurd h (by decide), fun _ => Or.inr ⟨_, rfl⟩, fun _ => ⟨(h (by decide)).1, rfl⟩⟩⟩
set_option maxRecDepth 100000 in
theorem en_12_59 : zE2 zFn "ReedOraclesModel" 12 59 (0, 770, 0, 0, 0, 0) := ⟨⟨RX12, TX12, 43, rfl, inT12, by decide, wd_1399⟩, fun mn h => ⟨RX12, TX12, 43, tyX12, .int, rfl, inT12, by decide, wd_1399, tyX12_ok, nmX12, by decide +kernel, fun _ => rfl, fun h => absurd h (by decide), fun h => absurd h (by decide), fun h2 => absurd h2 (by decide)⟩⟩
set_option maxRecDepth 100000 in
theorem en_12_63 : zE2 zFn "ReedOraclesModel" 12 63 (3, 206, 4, 2, 0, 4) := ⟨⟨mt_206, rfl, rfl, wd_1565, wd_131, ⟨by decide, by decide⟩, fun h => absurd h (by decide), fun _ => rfl, ⟨wd_1564, by decide +kernel, Or.inl wd_1563⟩⟩, fun _ => trivial⟩
set_option maxRecDepth 100000 in
theorem en_12_67 : zE2 zFn "ReedOraclesModel" 12 67 (6, 0, 0, 0, 0, 1048576) := ⟨wd_1569, fun _ => trivial⟩
set_option maxRecDepth 100000 in
theorem en_12_69 : zE2 zFn "ReedOraclesModel" 12 69 (3, 207, 8, 2, 0, 8) := ⟨⟨mt_207, rfl, rfl, wd_1568, wd_131, ⟨by decide, by decide⟩, fun h => absurd h (by decide), fun _ => rfl, ⟨wd_1567, by decide +kernel, Or.inl wd_1566⟩⟩, fun _ => trivial⟩
set_option maxRecDepth 100000 in
theorem en_12_73 : zE2 zFn "ReedOraclesModel" 12 73 (0, 771, 0, 0, 0, 0) := ⟨⟨RX12, TX12, 43, rfl, inT12, by decide, wd_1400⟩, fun mn h => ⟨RX12, TX12, 43, tyX12, .int, rfl, inT12, by decide, wd_1400, tyX12_ok, nmX12, by decide +kernel, fun _ => rfl, fun h => absurd h (by decide), fun h => absurd h (by decide), fun h2 => absurd h2 (by decide)⟩⟩
set_option maxRecDepth 100000 in
theorem en_12_76 : zE2 zFn "ReedOraclesModel" 12 76 (3, 203, 2, 1, 13, 2) := ⟨⟨mt_203, rfl, rfl, wd_1554, wd_131, ⟨by decide, by decide⟩, fun h => absurd h (by decide), fun _ => rfl, zite_neg (by decide) ⟨TX12, 43, rfl, wd_1551, wd_1553, wd_50, by decide +kernel, by decide⟩⟩, fun _ => trivial⟩
set_option maxRecDepth 100000 in
theorem en_12_80 : zE2 zFn "ReedOraclesModel" 12 80 (0, 772, 0, 0, 0, 0) := ⟨⟨RX12, TX12, 43, rfl, inT12, by decide, wd_1401⟩, fun mn h => ⟨RX12, TX12, 43, tyX12, .int, rfl, inT12, by decide, wd_1401, tyX12_ok, nmX12, by decide +kernel, fun _ => rfl, fun h => absurd h (by decide), fun h => absurd h (by decide), fun h2 => absurd h2 (by decide)⟩⟩
set_option maxRecDepth 100000 in
theorem en_12_83 : zE2 zFn "ReedOraclesModel" 12 83 (0, 773, 0, 0, 0, 0) := ⟨⟨RX12, TX12, 43, rfl, inT12, by decide, wd_1402⟩, fun mn h => ⟨RX12, TX12, 43, tyX12, .int, rfl, inT12, by decide, wd_1402, tyX12_ok, nmX12, by decide +kernel, fun _ => rfl, fun h => absurd h (by decide), fun h => absurd h (by decide), fun h2 => absurd h2 (by decide)⟩⟩
set_option maxRecDepth 100000 in
theorem en_12_86 : zE2 zFn "ReedOraclesModel" 12 86 (3, 204, 1, 1, 0, 1) := ⟨⟨mt_204, rfl, rfl, wd_1557, wd_131, ⟨by decide, by decide⟩, fun h => absurd h (by decide), fun _ => rfl, ⟨wd_1556, by decide +kernel, Or.inl wd_1555⟩⟩, fun _ => trivial⟩
set_option maxRecDepth 100000 in
theorem en_12_90 : zE2 zFn "ReedOraclesModel" 12 90 (6, 0, 0, 0, 0, 32) := ⟨wd_1558, fun _ => trivial⟩
set_option maxRecDepth 100000 in
theorem en_12_92 : zE2 zFn "ReedOraclesModel" 12 92 (6, 0, 0, 0, 0, 96) := ⟨wd_1559, fun _ => trivial⟩
set_option maxRecDepth 100000 in
theorem en_12_94 : zE2 zFn "ReedOraclesModel" 12 94 (3, 208, 1, 1, 0, 2) := ⟨⟨mt_208, rfl, rfl, wd_1562, wd_131, ⟨by decide, by decide⟩, fun h => absurd h (by decide), fun _ => rfl, ⟨wd_1561, by decide +kernel, Or.inl wd_1560⟩⟩, fun _ => trivial⟩
set_option maxRecDepth 100000 in
theorem en_12_98 : zE2 zFn "ReedOraclesModel" 12 98 (0, 775, 0, 0, 0, 0) := ⟨⟨RX12, TX12, 43, rfl, inT12, by decide, wd_1404⟩, fun mn h => ⟨RX12, TX12, 43, tyX12, .int, rfl, inT12, by decide, wd_1404, tyX12_ok, nmX12, by decide +kernel, fun _ => rfl, fun h => absurd h (by decide), fun h => absurd h (by decide), fun h2 => absurd h2 (by decide)⟩⟩
set_option maxRecDepth 100000 in
theorem en_12_101 : zE2 zFn "ReedOraclesModel" 12 101 (3, 205, 1, 1, 0, 1) := ⟨⟨mt_205, rfl, rfl, wd_1572, wd_131, ⟨by decide, by decide⟩, fun h => absurd h (by decide), fun _ => rfl, ⟨wd_1571, by decide +kernel, Or.inl wd_1570⟩⟩, fun _ => trivial⟩
set_option maxRecDepth 100000 in
theorem en_12_104 : zE2 zFn "ReedOraclesModel" 12 104 (0, 774, 0, 0, 0, 0) := ⟨⟨RX12, TX12, 43, rfl, inT12, by decide, wd_1403⟩, fun mn h => ⟨RX12, TX12, 43, tyX12, .int, rfl, inT12, by decide, wd_1403, tyX12_ok, nmX12, by decide +kernel, fun _ => rfl, fun h => absurd h (by decide), fun h => absurd h (by decide), fun h2 => absurd h2 (by decide)⟩⟩
set_option maxRecDepth 100000 in
theorem en_12_107 : zE2 zFn "ReedOraclesModel" 12 107 (2, 776, 0, 0, 0, 0) := ⟨⟨RX12, TX12, 43, rfl, inT12, by decide, wd_1405⟩, fun mn h => ⟨RX12, TX12, 43, tyX12, .boolean, rfl, inT12, by decide, wd_1405, tyX12_ok, nmX12, by decide +kernel, fun h => absurd h (by decide), fun _ => rfl, fun h => absurd h (by decide), fun h2 => absurd h2 (by decide)⟩⟩
set_option maxRecDepth 100000 in
theorem en_12_111 : zE2 zFn "ReedOraclesModel" 12 111 (3, 210, 1, 0, 13, 1) := ⟨⟨mt_210, rfl, rfl, wd_1588, wd_131, ⟨by decide, by decide⟩, fun _ => rfl, fun h => absurd rfl h, zite_neg (by decide) ⟨TX12, 43, rfl, wd_1585, wd_1587, wd_54, by decide +kernel, by decide⟩⟩, fun _ => trivial⟩
set_option maxRecDepth 100000 in
theorem en_12_114 : zE2 zFn "ReedOraclesModel" 12 114 (3, 200, 3, 1, 0, 3) := ⟨⟨mt_200, rfl, rfl, wd_1542, wd_131, ⟨by decide, by decide⟩, fun h => absurd h (by decide), fun _ => rfl, ⟨wd_1541, by decide +kernel, Or.inl wd_1540⟩⟩, fun _ => trivial⟩
set_option maxRecDepth 100000 in
theorem en_12_118 : zE2 zFn "ReedOraclesModel" 12 118 (3, 211, 3, 0, 13, 3) := ⟨⟨mt_211, rfl, rfl, wd_1592, wd_131, ⟨by decide, by decide⟩, fun _ => rfl, fun h => absurd rfl h, zite_neg (by decide) ⟨TX12, 43, rfl, wd_1589, wd_1591, wd_55, by decide +kernel, by decide⟩⟩, fun _ => trivial⟩
set_option maxRecDepth 100000 in
theorem en_12_122 : zE2 zFn "ReedOraclesModel" 12 122 (3, 209, 1, 0, 13, 4) := ⟨⟨mt_209, rfl, rfl, wd_1550, wd_131, ⟨by decide, by decide⟩, fun _ => rfl, fun h => absurd rfl h, zite_neg (by decide) ⟨TX12, 43, rfl, wd_1547, wd_1549, wd_49, by decide +kernel, by decide⟩⟩, fun _ => trivial⟩
set_option maxRecDepth 100000 in
theorem en_12_125 : zE2 zFn "ReedOraclesModel" 12 125 (3, 212, 3, 1, 13, 4) := ⟨⟨mt_212, rfl, rfl, wd_1584, wd_131, ⟨by decide, by decide⟩, fun h => absurd h (by decide), fun _ => rfl, zite_neg (by decide) ⟨TX12, 43, rfl, wd_1581, wd_1583, wd_53, by decide +kernel, by decide⟩⟩, fun _ => trivial⟩
set_option maxRecDepth 100000 in
theorem en_12_129 : zE2 zFn "ReedOraclesModel" 12 129 (3, 215, 2, 1, 13, 2) := ⟨⟨mt_215, rfl, rfl, wd_1580, wd_131, ⟨by decide, by decide⟩, fun h => absurd h (by decide), fun _ => rfl, zite_neg (by decide) ⟨TX12, 43, rfl, wd_1577, wd_1579, wd_52, by decide +kernel, by decide⟩⟩, fun _ => trivial⟩
set_option maxRecDepth 100000 in
theorem en_12_132 : zE2 zFn "ReedOraclesModel" 12 132 (3, 213, 3, 1, 13, 4) := ⟨⟨mt_213, rfl, rfl, wd_1596, wd_131, ⟨by decide, by decide⟩, fun h => absurd h (by decide), fun _ => rfl, zite_neg (by decide) ⟨TX12, 43, rfl, wd_1593, wd_1595, wd_56, by decide +kernel, by decide⟩⟩, fun _ => trivial⟩
set_option maxRecDepth 100000 in
theorem en_12_135 : zE2 zFn "ReedOraclesModel" 12 135 (3, 217, 8, 0, 13, 10) := ⟨⟨mt_217, rfl, rfl, wd_1600, wd_131, ⟨by decide, by decide⟩, fun _ => rfl, fun h => absurd rfl h, zite_neg (by decide) ⟨TX12, 43, rfl, wd_1597, wd_1599, wd_57, by decide +kernel, by decide⟩⟩, fun _ => trivial⟩
set_option maxRecDepth 100000 in
theorem en_12_139 : zE2 zFn "ReedOraclesModel" 12 139 (3, 214, 1, 0, 13, 1) := ⟨⟨mt_214, rfl, rfl, wd_1604, wd_131, ⟨by decide, by decide⟩, fun _ => rfl, fun h => absurd rfl h, zite_neg (by decide) ⟨TX12, 43, rfl, wd_1601, wd_1603, wd_58, by decide +kernel, by decide⟩⟩, fun _ => trivial⟩
set_option maxRecDepth 100000 in
theorem en_12_142 : zE2 zFn "ReedOraclesModel" 12 142 (3, 216, 3, 1, 13, 6) := ⟨⟨mt_216, rfl, rfl, wd_1612, wd_131, ⟨by decide, by decide⟩, fun h => absurd h (by decide), fun _ => rfl, zite_neg (by decide) ⟨TX12, 43, rfl, wd_1609, wd_1611, wd_60, by decide +kernel, by decide⟩⟩, fun _ => trivial⟩
set_option maxRecDepth 100000 in
theorem en_12_145 : zE2 zFn "ReedOraclesModel" 12 145 (3, 223, 3, 1, 13, 3) := ⟨⟨mt_223, rfl, rfl, wd_1546, wd_131, ⟨by decide, by decide⟩, fun h => absurd h (by decide), fun _ => rfl, zite_neg (by decide) ⟨TX12, 43, rfl, wd_1543, wd_1545, wd_48, by decide +kernel, by decide⟩⟩, fun _ => trivial⟩
set_option maxRecDepth 100000 in
theorem en_12_149 : zE2 zFn "ReedOraclesModel" 12 149 (3, 218, 1, 0, 13, 4) := ⟨⟨mt_218, rfl, rfl, wd_1576, wd_131, ⟨by decide, by decide⟩, fun _ => rfl, fun h => absurd rfl h, zite_neg (by decide) ⟨TX12, 43, rfl, wd_1573, wd_1575, wd_51, by decide +kernel, by decide⟩⟩, fun _ => trivial⟩
set_option maxRecDepth 100000 in
theorem en_12_152 : zE2 zFn "ReedOraclesModel" 12 152 (3, 219, 1, 0, 13, 10) := ⟨⟨mt_219, rfl, rfl, wd_1608, wd_131, ⟨by decide, by decide⟩, fun _ => rfl, fun h => absurd rfl h, zite_neg (by decide) ⟨TX12, 43, rfl, wd_1605, wd_1607, wd_59, by decide +kernel, by decide⟩⟩, fun _ => trivial⟩
set_option maxRecDepth 100000 in
theorem en_12_155 : zE2 zFn "ReedOraclesModel" 12 155 (3, 220, 1, 0, 13, 7) := ⟨⟨mt_220, rfl, rfl, wd_1616, wd_131, ⟨by decide, by decide⟩, fun _ => rfl, fun h => absurd rfl h, zite_neg (by decide) ⟨TX12, 43, rfl, wd_1613, wd_1615, wd_61, by decide +kernel, by decide⟩⟩, fun _ => trivial⟩
set_option maxRecDepth 100000 in
theorem en_12_158 : zE2 zFn "ReedOraclesModel" 12 158 (3, 222, 1, 1, 0, 1) := ⟨⟨mt_222, rfl, rfl, wd_1619, wd_131, ⟨by decide, by decide⟩, fun h => absurd h (by decide), fun _ => rfl, ⟨wd_1618, by decide +kernel, Or.inl wd_1617⟩⟩, fun _ => trivial⟩
set_option maxRecDepth 100000 in
theorem en_12_161 : zE2 zFn "ReedOraclesModel" 12 161 (3, 221, 2, 1, 0, 2) := ⟨⟨mt_221, rfl, rfl, wd_1622, wd_131, ⟨by decide, by decide⟩, fun h => absurd h (by decide), fun _ => rfl, ⟨wd_1621, by decide +kernel, Or.inl wd_1620⟩⟩, fun _ => trivial⟩
set_option maxRecDepth 100000 in
theorem en_12_164 : zE2 zFn "ReedOraclesModel" 12 164 (0, 778, 0, 0, 0, 0) := ⟨⟨RX12, TX12, 43, rfl, inT12, by decide, wd_1407⟩, fun mn h => ⟨RX12, TX12, 43, tyX12, .int, rfl, inT12, by decide, wd_1407, tyX12_ok, nmX12, by decide +kernel, fun _ => rfl, fun h => absurd h (by decide), fun h => absurd h (by decide), fun h2 => absurd h2 (by decide)⟩⟩
set_option maxRecDepth 100000 in
theorem en_12_167 : zE2 zFn "ReedOraclesModel" 12 167 (0, 779, 0, 0, 0, 0) := ⟨⟨RX12, TX12, 43, rfl, inT12, by decide, wd_1408⟩, fun mn h => ⟨RX12, TX12, 43, tyX12, .int, rfl, inT12, by decide, wd_1408, tyX12_ok, nmX12, by decide +kernel, fun _ => rfl, fun h => absurd h (by decide), fun h => absurd h (by decide), fun h2 => absurd h2 (by decide)⟩⟩
set_option maxRecDepth 100000 in
theorem en_12_170 : zE2 zFn "ReedOraclesModel" 12 170 (0, 780, 0, 0, 0, 0) := ⟨⟨RX12, TX12, 43, rfl, inT12, by decide, wd_1409⟩, fun mn h => ⟨RX12, TX12, 43, tyX12, .int, rfl, inT12, by decide, wd_1409, tyX12_ok, nmX12, by decide +kernel, fun _ => rfl, fun h => absurd h (by decide), fun h => absurd h (by decide), fun h2 => absurd h2 (by decide)⟩⟩
set_option maxRecDepth 100000 in
theorem en_12_173 : zE2 zFn "ReedOraclesModel" 12 173 (0, 781, 0, 0, 0, 0) := ⟨⟨RX12, TX12, 43, rfl, inT12, by decide, wd_1410⟩, fun mn h => ⟨RX12, TX12, 43, tyX12, .int, rfl, inT12, by decide, wd_1410, tyX12_ok, nmX12, by decide +kernel, fun _ => rfl, fun h => absurd h (by decide), fun h => absurd h (by decide), fun h2 => absurd h2 (by decide)⟩⟩
set_option maxRecDepth 100000 in
theorem en_12_176 : zE2 zFn "ReedOraclesModel" 12 176 (3, 226, 2, 1, 13, 2) := ⟨⟨mt_226, rfl, rfl, wd_1634, wd_131, ⟨by decide, by decide⟩, fun h => absurd h (by decide), fun _ => rfl, zite_neg (by decide) ⟨TX12, 43, rfl, wd_1631, wd_1633, wd_62, by decide +kernel, by decide⟩⟩, fun _ => trivial⟩
set_option maxRecDepth 100000 in
theorem en_12_179 : zE2 zFn "ReedOraclesModel" 12 179 (3, 227, 2, 1, 13, 2) := ⟨⟨mt_227, rfl, rfl, wd_1638, wd_131, ⟨by decide, by decide⟩, fun h => absurd h (by decide), fun _ => rfl, zite_neg (by decide) ⟨TX12, 43, rfl, wd_1635, wd_1637, wd_63, by decide +kernel, by decide⟩⟩, fun _ => trivial⟩
set_option maxRecDepth 100000 in
theorem en_12_182 : zE2 zFn "ReedOraclesModel" 12 182 (3, 230, 2, 1, 13, 2) := ⟨⟨mt_230, rfl, rfl, wd_1642, wd_131, ⟨by decide, by decide⟩, fun h => absurd h (by decide), fun _ => rfl, zite_neg (by decide) ⟨TX12, 43, rfl, wd_1639, wd_1641, wd_64, by decide +kernel, by decide⟩⟩, fun _ => trivial⟩
set_option maxRecDepth 100000 in
theorem en_12_185 : zE2 zFn "ReedOraclesModel" 12 185 (3, 231, 2, 1, 13, 2) := ⟨⟨mt_231, rfl, rfl, wd_1646, wd_131, ⟨by decide, by decide⟩, fun h => absurd h (by decide), fun _ => rfl, zite_neg (by decide) ⟨TX12, 43, rfl, wd_1643, wd_1645, wd_65, by decide +kernel, by decide⟩⟩, fun _ => trivial⟩
set_option maxRecDepth 100000 in
theorem en_12_188 : zE2 zFn "ReedOraclesModel" 12 188 (3, 228, 2, 1, 13, 2) := ⟨⟨mt_228, rfl, rfl, wd_1650, wd_131, ⟨by decide, by decide⟩, fun h => absurd h (by decide), fun _ => rfl, zite_neg (by decide) ⟨TX12, 43, rfl, wd_1647, wd_1649, wd_66, by decide +kernel, by decide⟩⟩, fun _ => trivial⟩
set_option maxRecDepth 100000 in
theorem en_12_191 : zE2 zFn "ReedOraclesModel" 12 191 (3, 232, 2, 1, 13, 2) := ⟨⟨mt_232, rfl, rfl, wd_1654, wd_131, ⟨by decide, by decide⟩, fun h => absurd h (by decide), fun _ => rfl, zite_neg (by decide) ⟨TX12, 43, rfl, wd_1651, wd_1653, wd_67, by decide +kernel, by decide⟩⟩, fun _ => trivial⟩
set_option maxRecDepth 100000 in
theorem en_12_194 : zE2 zFn "ReedOraclesModel" 12 194 (3, 229, 2, 1, 13, 2) := ⟨⟨mt_229, rfl, rfl, wd_1658, wd_131, ⟨by decide, by decide⟩, fun h => absurd h (by decide), fun _ => rfl, zite_neg (by decide) ⟨TX12, 43, rfl, wd_1655, wd_1657, wd_68, by decide +kernel, by decide⟩⟩, fun _ => trivial⟩
set_option maxRecDepth 100000 in
theorem en_12_197 : zE2 zFn "ReedOraclesModel" 12 197 (3, 233, 2, 1, 13, 2) := ⟨⟨mt_233, rfl, rfl, wd_1662, wd_131, ⟨by decide, by decide⟩, fun h => absurd h (by decide), fun _ => rfl, zite_neg (by decide) ⟨TX12, 43, rfl, wd_1659, wd_1661, wd_69, by decide +kernel, by decide⟩⟩, fun _ => trivial⟩
set_option maxRecDepth 100000 in
theorem en_12_200 : zE2 zFn "ReedOraclesModel" 12 200 (3, 234, 2, 1, 13, 2) := ⟨⟨mt_234, rfl, rfl, wd_1666, wd_131, ⟨by decide, by decide⟩, fun h => absurd h (by decide), fun _ => rfl, zite_neg (by decide) ⟨TX12, 43, rfl, wd_1663, wd_1665, wd_70, by decide +kernel, by decide⟩⟩, fun _ => trivial⟩
set_option maxRecDepth 100000 in
theorem en_12_203 : zE2 zFn "ReedOraclesModel" 12 203 (0, 782, 0, 0, 0, 0) := ⟨⟨RX12, TX12, 43, rfl, inT12, by decide, wd_1411⟩, fun mn h => ⟨RX12, TX12, 43, tyX12, .int, rfl, inT12, by decide, wd_1411, tyX12_ok, nmX12, by decide +kernel, fun _ => rfl, fun h => absurd h (by decide), fun h => absurd h (by decide), fun h2 => absurd h2 (by decide)⟩⟩
set_option maxRecDepth 100000 in
theorem en_12_206 : zE2 zFn "ReedOraclesModel" 12 206 (0, 783, 0, 0, 0, 0) := ⟨⟨RX12, TX12, 43, rfl, inT12, by decide, wd_1412⟩, fun mn h => ⟨RX12, TX12, 43, tyX12, .int, rfl, inT12, by decide, wd_1412, tyX12_ok, nmX12, by decide +kernel, fun _ => rfl, fun h => absurd h (by decide), fun h => absurd h (by decide), fun h2 => absurd h2 (by decide)⟩⟩
set_option maxRecDepth 100000 in
theorem en_12_209 : zE2 zFn "ReedOraclesModel" 12 209 (0, 784, 0, 0, 0, 0) := ⟨⟨RX12, TX12, 43, rfl, inT12, by decide, wd_1413⟩, fun mn h => ⟨RX12, TX12, 43, tyX12, .int, rfl, inT12, by decide, wd_1413, tyX12_ok, nmX12, by decide +kernel, fun _ => rfl, fun h => absurd h (by decide), fun h => absurd h (by decide), fun h2 => absurd h2 (by decide)⟩⟩
set_option maxRecDepth 100000 in
theorem en_12_212 : zE2 zFn "ReedOraclesModel" 12 212 (3, 237, 3, 1, 13, 3) := ⟨⟨mt_237, rfl, rfl, wd_1686, wd_131, ⟨by decide, by decide⟩, fun h => absurd h (by decide), fun _ => rfl, zite_neg (by decide) ⟨TX12, 43, rfl, wd_1683, wd_1685, wd_74, by decide +kernel, by decide⟩⟩, fun _ => trivial⟩
set_option maxRecDepth 100000 in
theorem en_12_215 : zE2 zFn "ReedOraclesModel" 12 215 (3, 238, 2, 1, 13, 2) := ⟨⟨mt_238, rfl, rfl, wd_1690, wd_131, ⟨by decide, by decide⟩, fun h => absurd h (by decide), fun _ => rfl, zite_neg (by decide) ⟨TX12, 43, rfl, wd_1687, wd_1689, wd_75, by decide +kernel, by decide⟩⟩, fun _ => trivial⟩
set_option maxRecDepth 100000 in
theorem en_12_218 : zE2 zFn "ReedOraclesModel" 12 218 (3, 240, 5, 1, 13, 5) := ⟨⟨mt_240, rfl, rfl, wd_1674, wd_131, ⟨by decide, by decide⟩, fun h => absurd h (by decide), fun _ => rfl, zite_neg (by decide) ⟨TX12, 43, rfl, wd_1671, wd_1673, wd_71, by decide +kernel, by decide⟩⟩, fun _ => trivial⟩
set_option maxRecDepth 100000 in
theorem en_12_222 : zE2 zFn "ReedOraclesModel" 12 222 (3, 236, 2, 0, 13, 2) := ⟨⟨mt_236, rfl, rfl, wd_1678, wd_131, ⟨by decide, by decide⟩, fun _ => rfl, fun h => absurd rfl h, zite_neg (by decide) ⟨TX12, 43, rfl, wd_1675, wd_1677, wd_72, by decide +kernel, by decide⟩⟩, fun _ => trivial⟩
set_option maxRecDepth 100000 in
theorem en_12_226 : zE2 zFn "ReedOraclesModel" 12 226 (3, 239, 3, 1, 13, 3) := ⟨⟨mt_239, rfl, rfl, wd_1682, wd_131, ⟨by decide, by decide⟩, fun h => absurd h (by decide), fun _ => rfl, zite_neg (by decide) ⟨TX12, 43, rfl, wd_1679, wd_1681, wd_73, by decide +kernel, by decide⟩⟩, fun _ => trivial⟩
set_option maxRecDepth 100000 in
theorem en_12_229 : zE2 zFn "ReedOraclesModel" 12 229 (5, 0, 0, 0, 0, 99999) := ⟨wd_1699, fun _ => trivial⟩
set_option maxRecDepth 100000 in
theorem en_12_230 : zE2 zFn "ReedOraclesModel" 12 230 (3, 242, 2, 1, 0, 5) := ⟨⟨mt_242, rfl, rfl, wd_1702, wd_131, ⟨by decide, by decide⟩, fun h => absurd h (by decide), fun _ => rfl, ⟨wd_1701, by decide +kernel, Or.inl wd_1700⟩⟩, fun _ => trivial⟩
set_option maxRecDepth 100000 in
theorem en_12_233 : zE2 zFn "ReedOraclesModel" 12 233 (3, 243, 4, 0, 13, 7) := ⟨⟨mt_243, rfl, rfl, wd_1698, wd_131, ⟨by decide, by decide⟩, fun _ => rfl, fun h => absurd rfl h, zite_neg (by decide) ⟨TX12, 43, rfl, wd_1695, wd_1697, wd_76, by decide +kernel, by decide⟩⟩, fun _ => trivial⟩
set_option maxRecDepth 100000 in
theorem en_12_237 : zE2 zFn "ReedOraclesModel" 12 237 (3, 245, 5, 1, 13, 5) := ⟨⟨mt_245, rfl, rfl, wd_1718, wd_131, ⟨by decide, by decide⟩, fun h => absurd h (by decide), fun _ => rfl, zite_neg (by decide) ⟨TX12, 43, rfl, wd_1715, wd_1717, wd_79, by decide +kernel, by decide⟩⟩, fun _ => trivial⟩
set_option maxRecDepth 100000 in
theorem en_12_241 : zE2 zFn "ReedOraclesModel" 12 241 (3, 247, 3, 1, 13, 3) := ⟨⟨mt_247, rfl, rfl, wd_1710, wd_131, ⟨by decide, by decide⟩, fun h => absurd h (by decide), fun _ => rfl, zite_neg (by decide) ⟨TX12, 43, rfl, wd_1707, wd_1709, wd_77, by decide +kernel, by decide⟩⟩, fun _ => trivial⟩
set_option maxRecDepth 100000 in
theorem en_12_244 : zE2 zFn "ReedOraclesModel" 12 244 (3, 246, 6, 1, 13, 6) := ⟨⟨mt_246, rfl, rfl, wd_1714, wd_131, ⟨by decide, by decide⟩, fun h => absurd h (by decide), fun _ => rfl, zite_neg (by decide) ⟨TX12, 43, rfl, wd_1711, wd_1713, wd_78, by decide +kernel, by decide⟩⟩, fun _ => trivial⟩
set_option maxRecDepth 100000 in
theorem en_12_248 : zE2 zFn "ReedOraclesModel" 12 248 (3, 249, 1, 1, 0, 3) := ⟨⟨mt_249, rfl, rfl, wd_1729, wd_131, ⟨by decide, by decide⟩, fun h => absurd h (by decide), fun _ => rfl, ⟨wd_1728, by decide +kernel, Or.inl wd_1727⟩⟩, fun _ => trivial⟩
set_option maxRecDepth 100000 in
theorem en_12_251 : zE2 zFn "ReedOraclesModel" 12 251 (0, 788, 0, 0, 0, 0) := ⟨⟨RX12, TX12, 43, rfl, inT12, by decide, wd_1417⟩, fun mn h => ⟨RX12, TX12, 43, tyX12, .int, rfl, inT12, by decide, wd_1417, tyX12_ok, nmX12, by decide +kernel, fun _ => rfl, fun h => absurd h (by decide), fun h => absurd h (by decide), fun h2 => absurd h2 (by decide)⟩⟩
set_option maxRecDepth 100000 in
theorem en_12_254 : zE2 zFn "ReedOraclesModel" 12 254 (3, 250, 3, 0, 13, 8) := ⟨⟨mt_250, rfl, rfl, wd_1726, wd_131, ⟨by decide, by decide⟩, fun _ => rfl, fun h => absurd rfl h, zite_neg (by decide) ⟨TX12, 43, rfl, wd_1723, wd_1725, wd_80, by decide +kernel, by decide⟩⟩, fun _ => trivial⟩
set_option maxRecDepth 100000 in
theorem en_12_257 : zE2 zFn "ReedOraclesModel" 12 257 (3, 256, 3, 0, 13, 3) := ⟨⟨mt_256, rfl, rfl, wd_1753, wd_131, ⟨by decide, by decide⟩, fun _ => rfl, fun h => absurd rfl h, zite_neg (by decide) ⟨TX12, 43, rfl, wd_1750, wd_1752, wd_81, by decide +kernel, by decide⟩⟩, fun _ => trivial⟩
set_option maxRecDepth 100000 in
theorem en_12_260 : zE2 zFn "ReedOraclesModel" 12 260 (3, 260, 5, 1, 13, 5) := ⟨⟨mt_260, rfl, rfl, wd_1769, wd_131, ⟨by decide, by decide⟩, fun h => absurd h (by decide), fun _ => rfl, zite_neg (by decide) ⟨TX12, 43, rfl, wd_1766, wd_1768, wd_82, by decide +kernel, by decide⟩⟩, fun _ => trivial⟩
set_option maxRecDepth 100000 in
theorem en_12_263 : zE2 zFn "ReedOraclesModel" 12 263 (3, 263, 3, 1, 13, 6) := ⟨⟨mt_263, rfl, rfl, wd_1781, wd_131, ⟨by decide, by decide⟩, fun h => absurd h (by decide), fun _ => rfl, zite_neg (by decide) ⟨TX12, 43, rfl, wd_1778, wd_1780, wd_83, by decide +kernel, by decide⟩⟩, fun _ => trivial⟩
set_option maxRecDepth 100000 in
theorem en_12_266 : zE2 zFn "ReedOraclesModel" 12 266 (3, 265, 4, 1, 13, 7) := ⟨⟨mt_265, rfl, rfl, wd_1793, wd_131, ⟨by decide, by decide⟩, fun h => absurd h (by decide), fun _ => rfl, zite_neg (by decide) ⟨TX12, 43, rfl, wd_1790, wd_1792, wd_85, by decide +kernel, by decide⟩⟩, fun _ => trivial⟩
set_option maxRecDepth 100000 in
theorem en_12_269 : zE2 zFn "ReedOraclesModel" 12 269 (3, 266, 3, 1, 13, 6) := ⟨⟨mt_266, rfl, rfl, wd_1789, wd_131, ⟨by decide, by decide⟩, fun h => absurd h (by decide), fun _ => rfl, zite_neg (by decide) ⟨TX12, 43, rfl, wd_1786, wd_1788, wd_84, by decide +kernel, by decide⟩⟩, fun _ => trivial⟩
set_option maxRecDepth 100000 in
theorem en_12_272 : zE2 zFn "ReedOraclesModel" 12 272 (3, 268, 4, 1, 13, 4) := ⟨⟨mt_268, rfl, rfl, wd_1801, wd_131, ⟨by decide, by decide⟩, fun h => absurd h (by decide), fun _ => rfl, zite_neg (by decide) ⟨TX12, 43, rfl, wd_1798, wd_1800, wd_86, by decide +kernel, by decide⟩⟩, fun _ => trivial⟩
set_option maxRecDepth 100000 in
theorem en_12_276 : zE2 zFn "ReedOraclesModel" 12 276 (3, 269, 4, 1, 13, 4) := ⟨⟨mt_269, rfl, rfl, wd_1809, wd_131, ⟨by decide, by decide⟩, fun h => absurd h (by decide), fun _ => rfl, zite_neg (by decide) ⟨TX12, 43, rfl, wd_1806, wd_1808, wd_87, by decide +kernel, by decide⟩⟩, fun _ => trivial⟩
set_option maxRecDepth 100000 in
theorem en_12_279 : zE2 zFn "ReedOraclesModel" 12 279 (3, 271, 3, 1, 0, 3) := ⟨⟨mt_271, rfl, rfl, wd_1812, wd_131, ⟨by decide, by decide⟩, fun h => absurd h (by decide), fun _ => rfl, ⟨wd_1811, by decide +kernel, Or.inl wd_1810⟩⟩, fun _ => trivial⟩
set_option maxRecDepth 100000 in
theorem en_12_282 : zE2 zFn "ReedOraclesModel" 12 282 (3, 273, 3, 1, 13, 6) := ⟨⟨mt_273, rfl, rfl, wd_1820, wd_131, ⟨by decide, by decide⟩, fun h => absurd h (by decide), fun _ => rfl, zite_neg (by decide) ⟨TX12, 43, rfl, wd_1817, wd_1819, wd_88, by decide +kernel, by decide⟩⟩, fun _ => trivial⟩
set_option maxRecDepth 100000 in
theorem en_12_285 : zE2 zFn "ReedOraclesModel" 12 285 (3, 274, 2, 1, 13, 4) := ⟨⟨mt_274, rfl, rfl, wd_1824, wd_131, ⟨by decide, by decide⟩, fun h => absurd h (by decide), fun _ => rfl, zite_neg (by decide) ⟨TX12, 43, rfl, wd_1821, wd_1823, wd_89, by decide +kernel, by decide⟩⟩, fun _ => trivial⟩
set_option maxRecDepth 100000 in
theorem en_12_288 : zE2 zFn "ReedOraclesModel" 12 288 (3, 276, 3, 1, 13, 5) := ⟨⟨mt_276, rfl, rfl, wd_1844, wd_131, ⟨by decide, by decide⟩, fun h => absurd h (by decide), fun _ => rfl, zite_neg (by decide) ⟨TX12, 43, rfl, wd_1841, wd_1843, wd_93, by decide +kernel, by decide⟩⟩, fun _ => trivial⟩
set_option maxRecDepth 100000 in
theorem en_12_291 : zE2 zFn "ReedOraclesModel" 12 291 (3, 278, 2, 1, 13, 4) := ⟨⟨mt_278, rfl, rfl, wd_1836, wd_131, ⟨by decide, by decide⟩, fun h => absurd h (by decide), fun _ => rfl, zite_neg (by decide) ⟨TX12, 43, rfl, wd_1833, wd_1835, wd_91, by decide +kernel, by decide⟩⟩, fun _ => trivial⟩
set_option maxRecDepth 100000 in
theorem en_12_294 : zE2 zFn "ReedOraclesModel" 12 294 (3, 277, 2, 1, 13, 4) := ⟨⟨mt_277, rfl, rfl, wd_1840, wd_131, ⟨by decide, by decide⟩, fun h => absurd h (by decide), fun _ => rfl, zite_neg (by decide) ⟨TX12, 43, rfl, wd_1837, wd_1839, wd_92, by decide +kernel, by decide⟩⟩, fun _ => trivial⟩
set_option maxRecDepth 100000 in
theorem en_12_297 : zE2 zFn "ReedOraclesModel" 12 297 (3, 279, 1, 1, 13, 5) := ⟨⟨mt_279, rfl, rfl, wd_1832, wd_131, ⟨by decide, by decide⟩, fun h => absurd h (by decide), fun _ => rfl, zite_neg (by decide) ⟨TX12, 43, rfl, wd_1829, wd_1831, wd_90, by decide +kernel, by decide⟩⟩, fun _ => trivial⟩
set_option maxRecDepth 100000 in
theorem en_12_301 : zE2 zFn "ReedOraclesModel" 12 301 (3, 282, 3, 1, 13, 7) := ⟨⟨mt_282, rfl, rfl, wd_1856, wd_131, ⟨by decide, by decide⟩, fun h => absurd h (by decide), fun _ => rfl, zite_neg (by decide) ⟨TX12, 43, rfl, wd_1853, wd_1855, wd_94, by decide +kernel, by decide⟩⟩, fun _ => trivial⟩
set_option maxRecDepth 100000 in
theorem en_12_304 : zE2 zFn "ReedOraclesModel" 12 304 (3, 284, 3, 1, 13, 7) := ⟨⟨mt_284, rfl, rfl, wd_1864, wd_131, ⟨by decide, by decide⟩, fun h => absurd h (by decide), fun _ => rfl, zite_neg (by decide) ⟨TX12, 43, rfl, wd_1861, wd_1863, wd_95, by decide +kernel, by decide⟩⟩, fun _ => trivial⟩
set_option maxRecDepth 100000 in
theorem en_12_307 : zE2 zFn "ReedOraclesModel" 12 307 (0, 792, 0, 0, 0, 0) := ⟨⟨RX12, TX12, 43, rfl, inT12, by decide, wd_1421⟩, fun mn h => ⟨RX12, TX12, 43, tyX12, .int, rfl, inT12, by decide, wd_1421, tyX12_ok, nmX12, by decide +kernel, fun _ => rfl, fun h => absurd h (by decide), fun h => absurd h (by decide), fun h2 => absurd h2 (by decide)⟩⟩
set_option maxRecDepth 100000 in
theorem en_12_310 : zE2 zFn "ReedOraclesModel" 12 310 (3, 286, 2, 1, 13, 2) := ⟨⟨mt_286, rfl, rfl, wd_1872, wd_131, ⟨by decide, by decide⟩, fun h => absurd h (by decide), fun _ => rfl, zite_neg (by decide) ⟨TX12, 43, rfl, wd_1869, wd_1871, wd_96, by decide +kernel, by decide⟩⟩, fun _ => trivial⟩
set_option maxRecDepth 100000 in
theorem en_12_313 : zE2 zFn "ReedOraclesModel" 12 313 (0, 793, 0, 0, 0, 0) := ⟨⟨RX12, TX12, 43, rfl, inT12, by decide, wd_1422⟩, fun mn h => ⟨RX12, TX12, 43, tyX12, .int, rfl, inT12, by decide, wd_1422, tyX12_ok, nmX12, by decide +kernel, fun _ => rfl, fun h => absurd h (by decide), fun h => absurd h (by decide), fun h2 => absurd h2 (by decide)⟩⟩
set_option maxRecDepth 100000 in
theorem en_12_316 : zE2 zFn "ReedOraclesModel" 12 316 (0, 794, 0, 0, 0, 0) := ⟨⟨RX12, TX12, 43, rfl, inT12, by decide, wd_1423⟩, fun mn h => ⟨RX12, TX12, 43, tyX12, .int, rfl, inT12, by decide, wd_1423, tyX12_ok, nmX12, by decide +kernel, fun _ => rfl, fun h => absurd h (by decide), fun h => absurd h (by decide), fun h2 => absurd h2 (by decide)⟩⟩
set_option maxRecDepth 100000 in
theorem en_12_319 : zE2 zFn "ReedOraclesModel" 12 319 (0, 795, 0, 0, 0, 0) := ⟨⟨RX12, TX12, 43, rfl, inT12, by decide, wd_1424⟩, fun mn h => ⟨RX12, TX12, 43, tyX12, .int, rfl, inT12, by decide, wd_1424, tyX12_ok, nmX12, by decide +kernel, fun _ => rfl, fun h => absurd h (by decide), fun h => absurd h (by decide), fun h2 => absurd h2 (by decide)⟩⟩
set_option maxRecDepth 100000 in
theorem en_12_322 : zE2 zFn "ReedOraclesModel" 12 322 (0, 796, 0, 0, 0, 0) := ⟨⟨RX12, TX12, 43, rfl, inT12, by decide, wd_1425⟩, fun mn h => ⟨RX12, TX12, 43, tyX12, .int, rfl, inT12, by decide, wd_1425, tyX12_ok, nmX12, by decide +kernel, fun _ => rfl, fun h => absurd h (by decide), fun h => absurd h (by decide), fun h2 => absurd h2 (by decide)⟩⟩
set_option maxRecDepth 100000 in
theorem en_12_325 : zE2 zFn "ReedOraclesModel" 12 325 (0, 797, 0, 0, 0, 0) := ⟨⟨RX12, TX12, 43, rfl, inT12, by decide, wd_1426⟩, fun mn h => ⟨RX12, TX12, 43, tyX12, .int, rfl, inT12, by decide, wd_1426, tyX12_ok, nmX12, by decide +kernel, fun _ => rfl, fun h => absurd h (by decide), fun h => absurd h (by decide), fun h2 => absurd h2 (by decide)⟩⟩
set_option maxRecDepth 100000 in
theorem en_12_328 : zE2 zFn "ReedOraclesModel" 12 328 (0, 798, 0, 0, 0, 0) := ⟨⟨RX12, TX12, 43, rfl, inT12, by decide, wd_1427⟩, fun mn h => ⟨RX12, TX12, 43, tyX12, .int, rfl, inT12, by decide, wd_1427, tyX12_ok, nmX12, by decide +kernel, fun _ => rfl, fun h => absurd h (by decide), fun h => absurd h (by decide), fun h2 => absurd h2 (by decide)⟩⟩
set_option maxRecDepth 100000 in
theorem en_12_331 : zE2 zFn "ReedOraclesModel" 12 331 (0, 799, 0, 0, 0, 0) := ⟨⟨RX12, TX12, 43, rfl, inT12, by decide, wd_1428⟩, fun mn h => ⟨RX12, TX12, 43, tyX12, .int, rfl, inT12, by decide, wd_1428, tyX12_ok, nmX12, by decide +kernel, fun _ => rfl, fun h => absurd h (by decide), fun h => absurd h (by decide), fun h2 => absurd h2 (by decide)⟩⟩
set_option maxRecDepth 100000 in
theorem en_12_334 : zE2 zFn "ReedOraclesModel" 12 334 (0, 800, 0, 0, 0, 0) := ⟨⟨RX12, TX12, 43, rfl, inT12, by decide, wd_1429⟩, fun mn h => ⟨RX12, TX12, 43, tyX12, .int, rfl, inT12, by decide, wd_1429, tyX12_ok, nmX12, by decide +kernel, fun _ => rfl, fun h => absurd h (by decide), fun h => absurd h (by decide), fun h2 => absurd h2 (by decide)⟩⟩
set_option maxRecDepth 100000 in
theorem en_12_337 : zE2 zFn "ReedOraclesModel" 12 337 (0, 801, 0, 0, 0, 0) := ⟨⟨RX12, TX12, 43, rfl, inT12, by decide, wd_1430⟩, fun mn h => ⟨RX12, TX12, 43, tyX12, .int, rfl, inT12, by decide, wd_1430, tyX12_ok, nmX12, by decide +kernel, fun _ => rfl, fun h => absurd h (by decide), fun h => absurd h (by decide), fun h2 => absurd h2 (by decide)⟩⟩
set_option maxRecDepth 100000 in
theorem en_12_340 : zE2 zFn "ReedOraclesModel" 12 340 (3, 289, 2, 1, 13, 2) := ⟨⟨mt_289, rfl, rfl, wd_1900, wd_131, ⟨by decide, by decide⟩, fun h => absurd h (by decide), fun _ => rfl, zite_neg (by decide) ⟨TX12, 43, rfl, wd_1897, wd_1899, wd_102, by decide +kernel, by decide⟩⟩, fun _ => trivial⟩
set_option maxRecDepth 100000 in
theorem en_12_343 : zE2 zFn "ReedOraclesModel" 12 343 (3, 290, 2, 1, 13, 2) := ⟨⟨mt_290, rfl, rfl, wd_1904, wd_131, ⟨by decide, by decide⟩, fun h => absurd h (by decide), fun _ => rfl, zite_neg (by decide) ⟨TX12, 43, rfl, wd_1901, wd_1903, wd_103, by decide +kernel, by decide⟩⟩, fun _ => trivial⟩
set_option maxRecDepth 100000 in
theorem en_12_346 : zE2 zFn "ReedOraclesModel" 12 346 (3, 291, 4, 1, 13, 5) := ⟨⟨mt_291, rfl, rfl, wd_1908, wd_131, ⟨by decide, by decide⟩, fun h => absurd h (by decide), fun _ => rfl, zite_neg (by decide) ⟨TX12, 43, rfl, wd_1905, wd_1907, wd_104, by decide +kernel, by decide⟩⟩, fun _ => trivial⟩
set_option maxRecDepth 100000 in
theorem en_12_349 : zE2 zFn "ReedOraclesModel" 12 349 (3, 292, 4, 1, 13, 5) := ⟨⟨mt_292, rfl, rfl, wd_1896, wd_131, ⟨by decide, by decide⟩, fun h => absurd h (by decide), fun _ => rfl, zite_neg (by decide) ⟨TX12, 43, rfl, wd_1893, wd_1895, wd_101, by decide +kernel, by decide⟩⟩, fun _ => trivial⟩
set_option maxRecDepth 100000 in
theorem en_12_352 : zE2 zFn "ReedOraclesModel" 12 352 (3, 293, 6, 1, 13, 8) := ⟨⟨mt_293, rfl, rfl, wd_1912, wd_131, ⟨by decide, by decide⟩, fun h => absurd h (by decide), fun _ => rfl, zite_neg (by decide) ⟨TX12, 43, rfl, wd_1909, wd_1911, wd_105, by decide +kernel, by decide⟩⟩, fun _ => trivial⟩
set_option maxRecDepth 100000 in
theorem en_12_356 : zE2 zFn "ReedOraclesModel" 12 356 (3, 294, 3, 1, 13, 3) := ⟨⟨mt_294, rfl, rfl, wd_1916, wd_131, ⟨by decide, by decide⟩, fun h => absurd h (by decide), fun _ => rfl, zite_neg (by decide) ⟨TX12, 43, rfl, wd_1913, wd_1915, wd_106, by decide +kernel, by decide⟩⟩, fun _ => trivial⟩
set_option maxRecDepth 100000 in
theorem en_12_360 : zE2 zFn "ReedOraclesModel" 12 360 (3, 295, 1, 1, 13, 2) := ⟨⟨mt_295, rfl, rfl, wd_1920, wd_131, ⟨by decide, by decide⟩, fun h => absurd h (by decide), fun _ => rfl, zite_neg (by decide) ⟨TX12, 43, rfl, wd_1917, wd_1919, wd_107, by decide +kernel, by decide⟩⟩, fun _ => trivial⟩
set_option maxRecDepth 100000 in
theorem en_12_363 : zE2 zFn "ReedOraclesModel" 12 363 (3, 296, 7, 1, 13, 7) := ⟨⟨mt_296, rfl, rfl, wd_1892, wd_131, ⟨by decide, by decide⟩, fun h => absurd h (by decide), fun _ => rfl, zite_neg (by decide) ⟨TX12, 43, rfl, wd_1889, wd_1891, wd_100, by decide +kernel, by decide⟩⟩, fun _ => trivial⟩
set_option maxRecDepth 100000 in
theorem en_12_367 : zE2 zFn "ReedOraclesModel" 12 367 (3, 288, 1, 0, 13, 2) := ⟨⟨mt_288, rfl, rfl, wd_1884, wd_131, ⟨by decide, by decide⟩, fun _ => rfl, fun h => absurd rfl h, zite_neg (by decide) ⟨TX12, 43, rfl, wd_1881, wd_1883, wd_98, by decide +kernel, by decide⟩⟩, fun _ => trivial⟩
set_option maxRecDepth 100000 in
theorem en_12_370 : zE2 zFn "ReedOraclesModel" 12 370 (3, 297, 2, 1, 13, 3) := ⟨⟨mt_297, rfl, rfl, wd_1888, wd_131, ⟨by decide, by decide⟩, fun h => absurd h (by decide), fun _ => rfl, zite_neg (by decide) ⟨TX12, 43, rfl, wd_1885, wd_1887, wd_99, by decide +kernel, by decide⟩⟩, fun _ => trivial⟩
set_option maxRecDepth 100000 in
theorem en_12_373 : zE2 zFn "ReedOraclesModel" 12 373 (3, 298, 2, 0, 13, 2) := ⟨⟨mt_298, rfl, rfl, wd_1880, wd_131, ⟨by decide, by decide⟩, fun _ => rfl, fun h => absurd rfl h, zite_neg (by decide) ⟨TX12, 43, rfl, wd_1877, wd_1879, wd_97, by decide +kernel, by decide⟩⟩, fun _ => trivial⟩
set_option maxRecDepth 100000 in
theorem en_12_376 : zE2 zFn "ReedOraclesModel" 12 376 (3, 300, 2, 1, 0, 4) := ⟨⟨mt_300, rfl, rfl, wd_1927, wd_131, ⟨by decide, by decide⟩, fun h => absurd h (by decide), fun _ => rfl, ⟨wd_1926, by decide +kernel, Or.inl wd_1925⟩⟩, fun _ => trivial⟩
set_option maxRecDepth 100000 in
theorem en_12_380 : zE2 zFn "ReedOraclesModel" 12 380 (3, 302, 2, 1, 13, 3) := ⟨⟨mt_302, rfl, rfl, wd_1935, wd_131, ⟨by decide, by decide⟩, fun h => absurd h (by decide), fun _ => rfl, zite_neg (by decide) ⟨TX12, 43, rfl, wd_1932, wd_1934, wd_108, by decide +kernel, by decide⟩⟩, fun _ => trivial⟩
set_option maxRecDepth 100000 in
theorem en_12_383 : zE2 zFn "ReedOraclesModel" 12 383 (0, 808, 0, 0, 0, 0) := ⟨⟨RX12, TX12, 43, rfl, inT12, by decide, wd_1437⟩, fun mn h => ⟨RX12, TX12, 43, tyX12, .int, rfl, inT12, by decide, wd_1437, tyX12_ok, nmX12, by decide +kernel, fun _ => rfl, fun h => absurd h (by decide), fun h => absurd h (by decide), fun h2 => absurd h2 (by decide)⟩⟩
set_option maxRecDepth 100000 in
theorem en_12_386 : zE2 zFn "ReedOraclesModel" 12 386 (3, 304, 2, 1, 13, 2) := ⟨⟨mt_304, rfl, rfl, wd_1943, wd_131, ⟨by decide, by decide⟩, fun h => absurd h (by decide), fun _ => rfl, zite_neg (by decide) ⟨TX12, 43, rfl, wd_1940, wd_1942, wd_109, by decide +kernel, by decide⟩⟩, fun _ => trivial⟩
set_option maxRecDepth 100000 in
theorem en_12_389 : zE2 zFn "ReedOraclesModel" 12 389 (3, 306, 5, 1, 13, 5) := ⟨⟨mt_306, rfl, rfl, wd_1959, wd_131, ⟨by decide, by decide⟩, fun h => absurd h (by decide), fun _ => rfl, zite_neg (by decide) ⟨TX12, 43, rfl, wd_1956, wd_1958, wd_112, by decide +kernel, by decide⟩⟩, fun _ => trivial⟩
set_option maxRecDepth 100000 in
theorem en_12_392 : zE2 zFn "ReedOraclesModel" 12 392 (3, 307, 2, 1, 13, 5) := ⟨⟨mt_307, rfl, rfl, wd_1955, wd_131, ⟨by decide, by decide⟩, fun h => absurd h (by decide), fun _ => rfl, zite_neg (by decide) ⟨TX12, 43, rfl, wd_1952, wd_1954, wd_111, by decide +kernel, by decide⟩⟩, fun _ => trivial⟩
set_option maxRecDepth 100000 in
theorem en_12_395 : zE2 zFn "ReedOraclesModel" 12 395 (3, 309, 3, 1, 13, 6) := ⟨⟨mt_309, rfl, rfl, wd_1971, wd_131, ⟨by decide, by decide⟩, fun h => absurd h (by decide), fun _ => rfl, zite_neg (by decide) ⟨TX12, 43, rfl, wd_1968, wd_1970, wd_115, by decide +kernel, by decide⟩⟩, fun _ => trivial⟩
set_option maxRecDepth 100000 in
theorem en_12_398 : zE2 zFn "ReedOraclesModel" 12 398 (3, 308, 1, 1, 13, 3) := ⟨⟨mt_308, rfl, rfl, wd_1951, wd_131, ⟨by decide, by decide⟩, fun h => absurd h (by decide), fun _ => rfl, zite_neg (by decide) ⟨TX12, 43, rfl, wd_1948, wd_1950, wd_110, by decide +kernel, by decide⟩⟩, fun _ => trivial⟩
set_option maxRecDepth 100000 in
theorem en_12_401 : zE2 zFn "ReedOraclesModel" 12 401 (3, 311, 1, 1, 13, 3) := ⟨⟨mt_311, rfl, rfl, wd_1963, wd_131, ⟨by decide, by decide⟩, fun h => absurd h (by decide), fun _ => rfl, zite_neg (by decide) ⟨TX12, 43, rfl, wd_1960, wd_1962, wd_113, by decide +kernel, by decide⟩⟩, fun _ => trivial⟩
set_option maxRecDepth 100000 in
theorem en_12_405 : zE2 zFn "ReedOraclesModel" 12 405 (3, 310, 1, 1, 13, 6) := ⟨⟨mt_310, rfl, rfl, wd_1967, wd_131, ⟨by decide, by decide⟩, fun h => absurd h (by decide), fun _ => rfl, zite_neg (by decide) ⟨TX12, 43, rfl, wd_1964, wd_1966, wd_114, by decide +kernel, by decide⟩⟩, fun _ => trivial⟩
set_option maxRecDepth 100000 in
theorem en_12_408 : zE2 zFn "ReedOraclesModel" 12 408 (6, 0, 0, 0, 0, (-1)) := ⟨wd_1976, fun _ => trivial⟩
set_option maxRecDepth 100000 in
theorem en_12_410 : zE2 zFn "ReedOraclesModel" 12 410 (3, 313, 2, 2, 0, 10) := ⟨⟨mt_313, rfl, rfl, wd_1979, wd_131, ⟨by decide, by decide⟩, fun h => absurd h (by decide), fun _ => rfl, ⟨wd_1978, by decide +kernel, Or.inl wd_1977⟩⟩, fun _ => trivial⟩
set_option maxRecDepth 100000 in
theorem en_12_414 : zE2 zFn "ReedOraclesModel" 12 414 (3, 314, 2, 2, 0, 6) := ⟨⟨mt_314, rfl, rfl, wd_1986, wd_131, ⟨by decide, by decide⟩, fun h => absurd h (by decide), fun _ => rfl, ⟨wd_1985, by decide +kernel, Or.inl wd_1984⟩⟩, fun _ => trivial⟩
set_option maxRecDepth 100000 in
theorem en_12_418 : zE2 zFn "ReedOraclesModel" 12 418 (6, 0, 0, 0, 0, 10) := ⟨wd_1987, fun _ => trivial⟩
set_option maxRecDepth 100000 in
theorem en_12_420 : zE2 zFn "ReedOraclesModel" 12 420 (0, 810, 0, 0, 0, 0) := ⟨⟨RX12, TX12, 43, rfl, inT12, by decide, wd_1439⟩, fun mn h => ⟨RX12, TX12, 43, tyX12, .int, rfl, inT12, by decide, wd_1439, tyX12_ok, nmX12, by decide +kernel, fun _ => rfl, fun h => absurd h (by decide), fun h => absurd h (by decide), fun h2 => absurd h2 (by decide)⟩⟩
set_option maxRecDepth 100000 in
theorem en_12_423 : zE2 zFn "ReedOraclesModel" 12 423 (5, 0, 0, 0, 0, 1103515245) := ⟨wd_2000, fun _ => trivial⟩
set_option maxRecDepth 100000 in
theorem en_12_424 : zE2 zFn "ReedOraclesModel" 12 424 (3, 317, 2, 1, 13, 2) := ⟨⟨mt_317, rfl, rfl, wd_1999, wd_131, ⟨by decide, by decide⟩, fun h => absurd h (by decide), fun _ => rfl, zite_neg (by decide) ⟨TX12, 43, rfl, wd_1996, wd_1998, wd_117, by decide +kernel, by decide⟩⟩, fun _ => trivial⟩
set_option maxRecDepth 100000 in
theorem en_12_427 : zE2 zFn "ReedOraclesModel" 12 427 (3, 318, 1, 0, 13, 4) := ⟨⟨mt_318, rfl, rfl, wd_1995, wd_131, ⟨by decide, by decide⟩, fun _ => rfl, fun h => absurd rfl h, zite_neg (by decide) ⟨TX12, 43, rfl, wd_1992, wd_1994, wd_116, by decide +kernel, by decide⟩⟩, fun _ => trivial⟩
set_option maxRecDepth 100000 in
theorem pf_12 : ∀ q ∈ zPl_12, zE2 zFn "ReedOraclesModel" 12 q.1 q.2 := List.forall_mem_cons.mpr ⟨en_12_1, List.forall_mem_cons.mpr ⟨en_12_7, List.forall_mem_cons.mpr ⟨en_12_13, List.forall_mem_cons.mpr ⟨en_12_17, List.forall_mem_cons.mpr ⟨en_12_20, List.forall_mem_cons.mpr ⟨en_12_23, List.forall_mem_cons.mpr ⟨en_12_26, List.forall_mem_cons.mpr ⟨en_12_29, List.forall_mem_cons.mpr ⟨en_12_32, List.forall_mem_cons.mpr ⟨en_12_35, List.forall_mem_cons.mpr ⟨en_12_38, List.forall_mem_cons.mpr ⟨en_12_41, List.forall_mem_cons.mpr ⟨en_12_44, List.forall_mem_cons.mpr ⟨en_12_47, List.forall_mem_cons.mpr ⟨en_12_50, List.forall_mem_cons.mpr ⟨en_12_53, List.forall_mem_cons.mpr ⟨en_12_56, List.forall_mem_cons.mpr ⟨en_12_59, List.forall_mem_cons.mpr ⟨en_12_63, List.forall_mem_cons.mpr ⟨en_12_67, List.forall_mem_cons.mpr ⟨en_12_69, List.forall_mem_cons.mpr ⟨en_12_73, List.forall_mem_cons.mpr ⟨en_12_76, List.forall_mem_cons.mpr ⟨en_12_80, List.forall_mem_cons.mpr ⟨en_12_83, List.forall_mem_cons.mpr ⟨en_12_86, List.forall_mem_cons.mpr ⟨en_12_90, List.forall_mem_cons.mpr ⟨en_12_92, List.forall_mem_cons.mpr ⟨en_12_94, List.forall_mem_cons.mpr ⟨en_12_98, List.forall_mem_cons.mpr ⟨en_12_101, List.forall_mem_cons.mpr ⟨en_12_104, List.forall_mem_cons.mpr ⟨en_12_107, List.forall_mem_cons.mpr ⟨en_12_111, List.forall_mem_cons.mpr ⟨en_12_114, List.forall_mem_cons.mpr ⟨en_12_118, List.forall_mem_cons.mpr ⟨en_12_122, List.forall_mem_cons.mpr ⟨en_12_125, List.forall_mem_cons.mpr ⟨en_12_129, List.forall_mem_cons.mpr ⟨en_12_132, List.forall_mem_cons.mpr ⟨en_12_135, List.forall_mem_cons.mpr ⟨en_12_139, List.forall_mem_cons.mpr ⟨en_12_142, List.forall_mem_cons.mpr ⟨en_12_145, List.forall_mem_cons.mpr ⟨en_12_149, List.forall_mem_cons.mpr ⟨en_12_152, List.forall_mem_cons.mpr ⟨en_12_155, List.forall_mem_cons.mpr ⟨en_12_158, List.forall_mem_cons.mpr ⟨en_12_161, List.forall_mem_cons.mpr ⟨en_12_164, List.forall_mem_cons.mpr ⟨en_12_167, List.forall_mem_cons.mpr ⟨en_12_170, List.forall_mem_cons.mpr ⟨en_12_173, List.forall_mem_cons.mpr ⟨en_12_176, List.forall_mem_cons.mpr ⟨en_12_179, List.forall_mem_cons.mpr ⟨en_12_182, List.forall_mem_cons.mpr ⟨en_12_185, List.forall_mem_cons.mpr ⟨en_12_188, List.forall_mem_cons.mpr ⟨en_12_191, List.forall_mem_cons.mpr ⟨en_12_194, List.forall_mem_cons.mpr ⟨en_12_197, List.forall_mem_cons.mpr ⟨en_12_200, List.forall_mem_cons.mpr ⟨en_12_203, List.forall_mem_cons.mpr ⟨en_12_206, List.forall_mem_cons.mpr ⟨en_12_209, List.forall_mem_cons.mpr ⟨en_12_212, List.forall_mem_cons.mpr ⟨en_12_215, List.forall_mem_cons.mpr ⟨en_12_218, List.forall_mem_cons.mpr ⟨en_12_222, List.forall_mem_cons.mpr ⟨en_12_226, List.forall_mem_cons.mpr ⟨en_12_229, List.forall_mem_cons.mpr ⟨en_12_230, List.forall_mem_cons.mpr ⟨en_12_233, List.forall_mem_cons.mpr ⟨en_12_237, List.forall_mem_cons.mpr ⟨en_12_241, List.forall_mem_cons.mpr ⟨en_12_244, List.forall_mem_cons.mpr ⟨en_12_248, List.forall_mem_cons.mpr ⟨en_12_251, List.forall_mem_cons.mpr ⟨en_12_254, List.forall_mem_cons.mpr ⟨en_12_257, List.forall_mem_cons.mpr ⟨en_12_260, List.forall_mem_cons.mpr ⟨en_12_263, List.forall_mem_cons.mpr ⟨en_12_266, List.forall_mem_cons.mpr ⟨en_12_269, List.forall_mem_cons.mpr ⟨en_12_272, List.forall_mem_cons.mpr ⟨en_12_276, List.forall_mem_cons.mpr ⟨en_12_279, List.forall_mem_cons.mpr ⟨en_12_282, List.forall_mem_cons.mpr ⟨en_12_285, List.forall_mem_cons.mpr ⟨en_12_288, List.forall_mem_cons.mpr ⟨en_12_291, List.forall_mem_cons.mpr ⟨en_12_294, List.forall_mem_cons.mpr ⟨en_12_297, List.forall_mem_cons.mpr ⟨en_12_301, List.forall_mem_cons.mpr ⟨en_12_304, List.forall_mem_cons.mpr ⟨en_12_307, List.forall_mem_cons.mpr ⟨en_12_310, List.forall_mem_cons.mpr ⟨en_12_313, List.forall_mem_cons.mpr ⟨en_12_316, List.forall_mem_cons.mpr ⟨en_12_319, List.forall_mem_cons.mpr ⟨en_12_322, List.forall_mem_cons.mpr ⟨en_12_325, List.forall_mem_cons.mpr ⟨en_12_328, List.forall_mem_cons.mpr ⟨en_12_331, List.forall_mem_cons.mpr ⟨en_12_334, List.forall_mem_cons.mpr ⟨en_12_337, List.forall_mem_cons.mpr ⟨en_12_340, List.forall_mem_cons.mpr ⟨en_12_343, List.forall_mem_cons.mpr ⟨en_12_346, List.forall_mem_cons.mpr ⟨en_12_349, List.forall_mem_cons.mpr ⟨en_12_352, List.forall_mem_cons.mpr ⟨en_12_356, List.forall_mem_cons.mpr ⟨en_12_360, List.forall_mem_cons.mpr ⟨en_12_363, List.forall_mem_cons.mpr ⟨en_12_367, List.forall_mem_cons.mpr ⟨en_12_370, List.forall_mem_cons.mpr ⟨en_12_373, List.forall_mem_cons.mpr ⟨en_12_376, List.forall_mem_cons.mpr ⟨en_12_380, List.forall_mem_cons.mpr ⟨en_12_383, List.forall_mem_cons.mpr ⟨en_12_386, List.forall_mem_cons.mpr ⟨en_12_389, List.forall_mem_cons.mpr ⟨en_12_392, List.forall_mem_cons.mpr ⟨en_12_395, List.forall_mem_cons.mpr ⟨en_12_398, List.forall_mem_cons.mpr ⟨en_12_401, List.forall_mem_cons.mpr ⟨en_12_405, List.forall_mem_cons.mpr ⟨en_12_408, List.forall_mem_cons.mpr ⟨en_12_410, List.forall_mem_cons.mpr ⟨en_12_414, List.forall_mem_cons.mpr ⟨en_12_418, List.forall_mem_cons.mpr ⟨en_12_420, List.forall_mem_cons.mpr ⟨en_12_423, List.forall_mem_cons.mpr ⟨en_12_424, List.forall_mem_cons.mpr ⟨en_12_427, (fun _ h => absurd h List.not_mem_nil)⟩⟩⟩⟩⟩⟩⟩⟩⟩⟩⟩⟩⟩⟩⟩⟩⟩⟩⟩⟩⟩⟩⟩⟩⟩⟩⟩⟩⟩⟩⟩⟩⟩⟩⟩⟩⟩⟩⟩⟩⟩⟩⟩⟩⟩⟩⟩⟩⟩⟩⟩⟩⟩⟩⟩⟩⟩⟩⟩⟩⟩⟩⟩⟩⟩⟩⟩⟩⟩⟩⟩⟩⟩⟩⟩⟩⟩⟩⟩⟩⟩⟩⟩⟩⟩⟩⟩⟩⟩⟩⟩⟩⟩⟩⟩⟩⟩⟩⟩⟩⟩⟩⟩⟩⟩⟩⟩⟩⟩⟩⟩⟩⟩⟩⟩⟩⟩⟩⟩⟩⟩⟩⟩⟩⟩⟩⟩⟩⟩⟩⟩⟩⟩⟩⟩
set_option maxRecDepth 100000 in
theorem pk_12 : ∀ idx e, zlk zPl_12 idx = some e → zE2 zFn "ReedOraclesModel" 12 idx e := fun idx e h => pf_12 _ (zlk_mem _ _ _ h)
set_option maxRecDepth 100000 in
theorem en_13_7 : zE2 zFn "ReedOraclesLaw" 13 7 (4, 11, 0, 0, 0, 0) := ⟨⟨RX11, TX11, 8, tyX11, rfl, inT11, tyX11_ok, wd_140, wd_141, wd_119, by decide +kernel, rfl⟩, fun _ => trivial⟩
set_option maxRecDepth 100000 in
theorem en_13_9 : zE2 zFn "ReedOraclesLaw" 13 9 (3, 149, 1, 0, 12, 1) := ⟨⟨mt_149, rfl, rfl, wd_144, wd_119, ⟨by decide, by decide⟩, fun _ => rfl, fun h => absurd rfl h, zite_pos (by decide) ⟨wd_142, wd_143, by decide +kernel, by decide, rfl⟩⟩, fun _ => trivial⟩
set_option maxRecDepth 100000 in
theorem en_13_10 : zE2 zFn "ReedOraclesLaw" 13 10 (4, 12, 0, 0, 0, 0) := ⟨⟨RX12, TX12, 43, tyX12, rfl, inT12, tyX12_ok, wd_1391, wd_1392, wd_131, by decide +kernel, rfl⟩, fun _ => trivial⟩
set_option maxRecDepth 100000 in
theorem en_13_12 : zE2 zFn "ReedOraclesLaw" 13 12 (3, 199, 1, 0, 13, 1) := ⟨⟨mt_199, rfl, rfl, wd_1395, wd_131, ⟨by decide, by decide⟩, fun _ => rfl, fun h => absurd rfl h, zite_pos (by decide) ⟨wd_1393, wd_1394, by decide +kernel, by decide, rfl⟩⟩, fun _ => trivial⟩
set_option maxRecDepth 100000 in
theorem en_13_13 : zE2 zFn "ReedOraclesLaw" 13 13 (3, 150, 6, 1, 12, 7) := ⟨⟨mt_150, rfl, rfl, wd_529, wd_119, ⟨by decide, by decide⟩, fun h => absurd h (by decide), fun _ => rfl, zite_neg (by decide) ⟨TX11, 8, rfl, wd_526, wd_527, wd_528, by decide +kernel, by decide⟩⟩, fun _ => trivial⟩
set_option maxRecDepth 100000 in
theorem en_13_17 : zE2 zFn "ReedOraclesLaw" 13 17 (3, 201, 6, 1, 13, 8) := ⟨⟨mt_201, rfl, rfl, wd_1531, wd_131, ⟨by decide, by decide⟩, fun h => absurd h (by decide), fun _ => rfl, zite_neg (by decide) ⟨TX12, 43, rfl, wd_1528, wd_1529, wd_1530, by decide +kernel, by decide⟩⟩, fun _ => trivial⟩
set_option maxRecDepth 100000 in
theorem en_13_18 : zE2 zFn "ReedOraclesLaw" 13 18 (3, 151, 2, 1, 12, 2) := ⟨⟨mt_151, rfl, rfl, wd_537, wd_119, ⟨by decide, by decide⟩, fun h => absurd h (by decide), fun _ => rfl, zite_neg (by decide) ⟨TX11, 8, rfl, wd_534, wd_535, wd_536, by decide +kernel, by decide⟩⟩, fun _ => trivial⟩
set_option maxRecDepth 100000 in
theorem en_13_22 : zE2 zFn "ReedOraclesLaw" 13 22 (3, 202, 2, 1, 13, 2) := ⟨⟨mt_202, rfl, rfl, wd_1535, wd_131, ⟨by decide, by decide⟩, fun h => absurd h (by decide), fun _ => rfl, zite_neg (by decide) ⟨TX12, 43, rfl, wd_1532, wd_1533, wd_1534, by decide +kernel, by decide⟩⟩, fun _ => trivial⟩
set_option maxRecDepth 100000 in
theorem en_13_23 : zE2 zFn "ReedOraclesLaw" 13 23 (3, 152, 3, 1, 12, 4) := ⟨⟨mt_152, rfl, rfl, wd_541, wd_119, ⟨by decide, by decide⟩, fun h => absurd h (by decide), fun _ => rfl, zite_neg (by decide) ⟨TX11, 8, rfl, wd_538, wd_539, wd_540, by decide +kernel, by decide⟩⟩, fun _ => trivial⟩
set_option maxRecDepth 100000 in
theorem en_13_27 : zE2 zFn "ReedOraclesLaw" 13 27 (3, 224, 3, 1, 13, 5) := ⟨⟨mt_224, rfl, rfl, wd_1539, wd_131, ⟨by decide, by decide⟩, fun h => absurd h (by decide), fun _ => rfl, zite_neg (by decide) ⟨TX12, 43, rfl, wd_1536, wd_1537, wd_1538, by decide +kernel, by decide⟩⟩, fun _ => trivial⟩
set_option maxRecDepth 100000 in
theorem en_13_28 : zE2 zFn "ReedOraclesLaw" 13 28 (3, 153, 2, 1, 12, 2) := ⟨⟨mt_153, rfl, rfl, wd_739, wd_119, ⟨by decide, by decide⟩, fun h => absurd h (by decide), fun _ => rfl, zite_neg (by decide) ⟨TX11, 8, rfl, wd_736, wd_737, wd_738, by decide +kernel, by decide⟩⟩, fun _ => trivial⟩
set_option maxRecDepth 100000 in
theorem en_13_31 : zE2 zFn "ReedOraclesLaw" 13 31 (3, 225, 2, 1, 13, 2) := ⟨⟨mt_225, rfl, rfl, wd_1626, wd_131, ⟨by decide, by decide⟩, fun h => absurd h (by decide), fun _ => rfl, zite_neg (by decide) ⟨TX12, 43, rfl, wd_1623, wd_1624, wd_1625, by decide +kernel, by decide⟩⟩, fun _ => trivial⟩
set_option maxRecDepth 100000 in
theorem en_13_32 : zE2 zFn "ReedOraclesLaw" 13 32 (3, 154, 3, 1, 12, 4) := ⟨⟨mt_154, rfl, rfl, wd_743, wd_119, ⟨by decide, by decide⟩, fun h => absurd h (by decide), fun _ => rfl, zite_neg (by decide) ⟨TX11, 8, rfl, wd_740, wd_741, wd_742, by decide +kernel, by decide⟩⟩, fun _ => trivial⟩
set_option maxRecDepth 100000 in
theorem en_13_35 : zE2 zFn "ReedOraclesLaw" 13 35 (3, 235, 3, 1, 13, 4) := ⟨⟨mt_235, rfl, rfl, wd_1630, wd_131, ⟨by decide, by decide⟩, fun h => absurd h (by decide), fun _ => rfl, zite_neg (by decide) ⟨TX12, 43, rfl, wd_1627, wd_1628, wd_1629, by decide +kernel, by decide⟩⟩, fun _ => trivial⟩
set_option maxRecDepth 100000 in
theorem en_13_36 : zE2 zFn "ReedOraclesLaw" 13 36 (3, 155, 6, 1, 12, 8) := ⟨⟨mt_155, rfl, rfl, wd_771, wd_119, ⟨by decide, by decide⟩, fun h => absurd h (by decide), fun _ => rfl, zite_neg (by decide) ⟨TX11, 8, rfl, wd_768, wd_769, wd_770, by decide +kernel, by decide⟩⟩, fun _ => trivial⟩
set_option maxRecDepth 100000 in
theorem en_13_40 : zE2 zFn "ReedOraclesLaw" 13 40 (3, 241, 6, 1, 13, 6) := ⟨⟨mt_241, rfl, rfl, wd_1670, wd_131, ⟨by decide, by decide⟩, fun h => absurd h (by decide), fun _ => rfl, zite_neg (by decide) ⟨TX12, 43, rfl, wd_1667, wd_1668, wd_1669, by decide +kernel, by decide⟩⟩, fun _ => trivial⟩
set_option maxRecDepth 100000 in
theorem en_13_41 : zE2 zFn "ReedOraclesLaw" 13 41 (3, 156, 4, 1, 12, 5) := ⟨⟨mt_156, rfl, rfl, wd_795, wd_119, ⟨by decide, by decide⟩, fun h => absurd h (by decide), fun _ => rfl, zite_neg (by decide) ⟨TX11, 8, rfl, wd_792, wd_793, wd_794, by decide +kernel, by decide⟩⟩, fun _ => trivial⟩
set_option maxRecDepth 100000 in
theorem en_13_45 : zE2 zFn "ReedOraclesLaw" 13 45 (3, 287, 4, 1, 13, 4) := ⟨⟨mt_287, rfl, rfl, wd_1868, wd_131, ⟨by decide, by decide⟩, fun h => absurd h (by decide), fun _ => rfl, zite_neg (by decide) ⟨TX12, 43, rfl, wd_1865, wd_1866, wd_1867, by decide +kernel, by decide⟩⟩, fun _ => trivial⟩
set_option maxRecDepth 100000 in
theorem en_13_46 : zE2 zFn "ReedOraclesLaw" 13 46 (3, 157, 3, 1, 12, 5) := ⟨⟨mt_157, rfl, rfl, wd_811, wd_119, ⟨by decide, by decide⟩, fun h => absurd h (by decide), fun _ => rfl, zite_neg (by decide) ⟨TX11, 8, rfl, wd_808, wd_809, wd_810, by decide +kernel, by decide⟩⟩, fun _ => trivial⟩
set_option maxRecDepth 100000 in
theorem en_13_49 : zE2 zFn "ReedOraclesLaw" 13 49 (3, 299, 3, 1, 13, 3) := ⟨⟨mt_299, rfl, rfl, wd_1876, wd_131, ⟨by decide, by decide⟩, fun h => absurd h (by decide), fun _ => rfl, zite_neg (by decide) ⟨TX12, 43, rfl, wd_1873, wd_1874, wd_1875, by decide +kernel, by decide⟩⟩, fun _ => trivial⟩
set_option maxRecDepth 100000 in
theorem en_13_50 : zE2 zFn "ReedOraclesLaw" 13 50 (3, 158, 5, 1, 12, 7) := ⟨⟨mt_158, rfl, rfl, wd_886, wd_119, ⟨by decide, by decide⟩, fun h => absurd h (by decide), fun _ => rfl, zite_neg (by decide) ⟨TX11, 8, rfl, wd_883, wd_884, wd_885, by decide +kernel, by decide⟩⟩, fun _ => trivial⟩
set_option maxRecDepth 100000 in
theorem en_13_54 : zE2 zFn "ReedOraclesLaw" 13 54 (3, 303, 5, 1, 13, 5) := ⟨⟨mt_303, rfl, rfl, wd_1931, wd_131, ⟨by decide, by decide⟩, fun h => absurd h (by decide), fun _ => rfl, zite_neg (by decide) ⟨TX12, 43, rfl, wd_1928, wd_1929, wd_1930, by decide +kernel, by decide⟩⟩, fun _ => trivial⟩
set_option maxRecDepth 100000 in
theorem en_13_55 : zE2 zFn "ReedOraclesLaw" 13 55 (3, 159, 7, 1, 12, 8) := ⟨⟨mt_159, rfl, rfl, wd_898, wd_119, ⟨by decide, by decide⟩, fun h => absurd h (by decide), fun _ => rfl, zite_neg (by decide) ⟨TX11, 8, rfl, wd_895, wd_896, wd_897, by decide +kernel, by decide⟩⟩, fun _ => trivial⟩
set_option maxRecDepth 100000 in
theorem en_13_59 : zE2 zFn "ReedOraclesLaw" 13 59 (3, 244, 7, 1, 13, 10) := ⟨⟨mt_244, rfl, rfl, wd_1694, wd_131, ⟨by decide, by decide⟩, fun h => absurd h (by decide), fun _ => rfl, zite_neg (by decide) ⟨TX12, 43, rfl, wd_1691, wd_1692, wd_1693, by decide +kernel, by decide⟩⟩, fun _ => trivial⟩
set_option maxRecDepth 100000 in
theorem en_13_60 : zE2 zFn "ReedOraclesLaw" 13 60 (3, 160, 5, 1, 12, 6) := ⟨⟨mt_160, rfl, rfl, wd_947, wd_119, ⟨by decide, by decide⟩, fun h => absurd h (by decide), fun _ => rfl, zite_neg (by decide) ⟨TX11, 8, rfl, wd_944, wd_945, wd_946, by decide +kernel, by decide⟩⟩, fun _ => trivial⟩
set_option maxRecDepth 100000 in
theorem en_13_63 : zE2 zFn "ReedOraclesLaw" 13 63 (3, 248, 5, 1, 13, 9) := ⟨⟨mt_248, rfl, rfl, wd_1706, wd_131, ⟨by decide, by decide⟩, fun h => absurd h (by decide), fun _ => rfl, zite_neg (by decide) ⟨TX12, 43, rfl, wd_1703, wd_1704, wd_1705, by decide +kernel, by decide⟩⟩, fun _ => trivial⟩
set_option maxRecDepth 100000 in
theorem en_13_64 : zE2 zFn "ReedOraclesLaw" 13 64 (3, 161, 5, 1, 12, 6) := ⟨⟨mt_161, rfl, rfl, wd_984, wd_119, ⟨by decide, by decide⟩, fun h => absurd h (by decide), fun _ => rfl, zite_neg (by decide) ⟨TX11, 8, rfl, wd_981, wd_982, wd_983, by decide +kernel, by decide⟩⟩, fun _ => trivial⟩
set_option maxRecDepth 100000 in
theorem en_13_68 : zE2 zFn "ReedOraclesLaw" 13 68 (3, 251, 5, 1, 13, 5) := ⟨⟨mt_251, rfl, rfl, wd_1722, wd_131, ⟨by decide, by decide⟩, fun h => absurd h (by decide), fun _ => rfl, zite_neg (by decide) ⟨TX12, 43, rfl, wd_1719, wd_1720, wd_1721, by decide +kernel, by decide⟩⟩, fun _ => trivial⟩
set_option maxRecDepth 100000 in
theorem en_13_69 : zE2 zFn "ReedOraclesLaw" 13 69 (3, 162, 4, 1, 12, 5) := ⟨⟨mt_162, rfl, rfl, wd_1024, wd_119, ⟨by decide, by decide⟩, fun h => absurd h (by decide), fun _ => rfl, zite_neg (by decide) ⟨TX11, 8, rfl, wd_1021, wd_1022, wd_1023, by decide +kernel, by decide⟩⟩, fun _ => trivial⟩
set_option maxRecDepth 100000 in
theorem en_13_72 : zE2 zFn "ReedOraclesLaw" 13 72 (3, 252, 4, 1, 13, 8) := ⟨⟨mt_252, rfl, rfl, wd_1733, wd_131, ⟨by decide, by decide⟩, fun h => absurd h (by decide), fun _ => rfl, zite_neg (by decide) ⟨TX12, 43, rfl, wd_1730, wd_1731, wd_1732, by decide +kernel, by decide⟩⟩, fun _ => trivial⟩
set_option maxRecDepth 100000 in
theorem en_13_73 : zE2 zFn "ReedOraclesLaw" 13 73 (3, 163, 2, 1, 12, 3) := ⟨⟨mt_163, rfl, rfl, wd_1033, wd_119, ⟨by decide, by decide⟩, fun h => absurd h (by decide), fun _ => rfl, zite_neg (by decide) ⟨TX11, 8, rfl, wd_1030, wd_1031, wd_1032, by decide +kernel, by decide⟩⟩, fun _ => trivial⟩
set_option maxRecDepth 100000 in
theorem en_13_76 : zE2 zFn "ReedOraclesLaw" 13 76 (3, 253, 2, 1, 13, 6) := ⟨⟨mt_253, rfl, rfl, wd_1737, wd_131, ⟨by decide, by decide⟩, fun h => absurd h (by decide), fun _ => rfl, zite_neg (by decide) ⟨TX12, 43, rfl, wd_1734, wd_1735, wd_1736, by decide +kernel, by decide⟩⟩, fun _ => trivial⟩
set_option maxRecDepth 100000 in
theorem en_13_77 : zE2 zFn "ReedOraclesLaw" 13 77 (3, 164, 4, 1, 12, 5) := ⟨⟨mt_164, rfl, rfl, wd_1047, wd_119, ⟨by decide, by decide⟩, fun h => absurd h (by decide), fun _ => rfl, zite_neg (by decide) ⟨TX11, 8, rfl, wd_1044, wd_1045, wd_1046, by decide +kernel, by decide⟩⟩, fun _ => trivial⟩
set_option maxRecDepth 100000 in
theorem en_13_80 : zE2 zFn "ReedOraclesLaw" 13 80 (3, 254, 4, 1, 13, 7) := ⟨⟨mt_254, rfl, rfl, wd_1741, wd_131, ⟨by decide, by decide⟩, fun h => absurd h (by decide), fun _ => rfl, zite_neg (by decide) ⟨TX12, 43, rfl, wd_1738, wd_1739, wd_1740, by decide +kernel, by decide⟩⟩, fun _ => trivial⟩
set_option maxRecDepth 100000 in
theorem en_13_81 : zE2 zFn "ReedOraclesLaw" 13 81 (3, 165, 6, 1, 12, 7) := ⟨⟨mt_165, rfl, rfl, wd_1055, wd_119, ⟨by decide, by decide⟩, fun h => absurd h (by decide), fun _ => rfl, zite_neg (by decide) ⟨TX11, 8, rfl, wd_1052, wd_1053, wd_1054, by decide +kernel, by decide⟩⟩, fun _ => trivial⟩
set_option maxRecDepth 100000 in
theorem en_13_84 : zE2 zFn "ReedOraclesLaw" 13 84 (3, 255, 6, 1, 13, 7) := ⟨⟨mt_255, rfl, rfl, wd_1745, wd_131, ⟨by decide, by decide⟩, fun h => absurd h (by decide), fun _ => rfl, zite_neg (by decide) ⟨TX12, 43, rfl, wd_1742, wd_1743, wd_1744, by decide +kernel, by decide⟩⟩, fun _ => trivial⟩
set_option maxRecDepth 100000 in
theorem en_13_85 : zE2 zFn "ReedOraclesLaw" 13 85 (3, 166, 4, 1, 12, 5) := ⟨⟨mt_166, rfl, rfl, wd_1064, wd_119, ⟨by decide, by decide⟩, fun h => absurd h (by decide), fun _ => rfl, zite_neg (by decide) ⟨TX11, 8, rfl, wd_1061, wd_1062, wd_1063, by decide +kernel, by decide⟩⟩, fun _ => trivial⟩
set_option maxRecDepth 100000 in
theorem en_13_88 : zE2 zFn "ReedOraclesLaw" 13 88 (3, 305, 4, 1, 13, 4) := ⟨⟨mt_305, rfl, rfl, wd_1939, wd_131, ⟨by decide, by decide⟩, fun h => absurd h (by decide), fun _ => rfl, zite_neg (by decide) ⟨TX12, 43, rfl, wd_1936, wd_1937, wd_1938, by decide +kernel, by decide⟩⟩, fun _ => trivial⟩
set_option maxRecDepth 100000 in
theorem en_13_89 : zE2 zFn "ReedOraclesLaw" 13 89 (3, 167, 4, 1, 12, 6) := ⟨⟨mt_167, rfl, rfl, wd_1076, wd_119, ⟨by decide, by decide⟩, fun h => absurd h (by decide), fun _ => rfl, zite_neg (by decide) ⟨TX11, 8, rfl, wd_1073, wd_1074, wd_1075, by decide +kernel, by decide⟩⟩, fun _ => trivial⟩
set_option maxRecDepth 100000 in
theorem en_13_92 : zE2 zFn "ReedOraclesLaw" 13 92 (3, 312, 4, 1, 13, 8) := ⟨⟨mt_312, rfl, rfl, wd_1947, wd_131, ⟨by decide, by decide⟩, fun h => absurd h (by decide), fun _ => rfl, zite_neg (by decide) ⟨TX12, 43, rfl, wd_1944, wd_1945, wd_1946, by decide +kernel, by decide⟩⟩, fun _ => trivial⟩
set_option maxRecDepth 100000 in
theorem en_13_93 : zE2 zFn "ReedOraclesLaw" 13 93 (3, 168, 6, 2, 12, 13) := ⟨⟨mt_168, rfl, rfl, wd_1123, wd_119, ⟨by decide, by decide⟩, fun h => absurd h (by decide), fun _ => rfl, zite_neg (by decide) ⟨TX11, 8, rfl, wd_1120, wd_1121, wd_1122, by decide +kernel, by decide⟩⟩, fun _ => trivial⟩
set_option maxRecDepth 100000 in
theorem en_13_97 : zE2 zFn "ReedOraclesLaw" 13 97 (3, 316, 6, 2, 13, 14) := ⟨⟨mt_316, rfl, rfl, wd_1983, wd_131, ⟨by decide, by decide⟩, fun h => absurd h (by decide), fun _ => rfl, zite_neg (by decide) ⟨TX12, 43, rfl, wd_1980, wd_1981, wd_1982, by decide +kernel, by decide⟩⟩, fun _ => trivial⟩
set_option maxRecDepth 100000 in
theorem en_13_98 : zE2 zFn "ReedOraclesLaw" 13 98 (3, 169, 5, 1, 12, 6) := ⟨⟨mt_169, rfl, rfl, wd_1141, wd_119, ⟨by decide, by decide⟩, fun h => absurd h (by decide), fun _ => rfl, zite_neg (by decide) ⟨TX11, 8, rfl, wd_1138, wd_1139, wd_1140, by decide +kernel, by decide⟩⟩, fun _ => trivial⟩
set_option maxRecDepth 100000 in
theorem en_13_101 : zE2 zFn "ReedOraclesLaw" 13 101 (3, 319, 5, 1, 13, 6) := ⟨⟨mt_319, rfl, rfl, wd_1991, wd_131, ⟨by decide, by decide⟩, fun h => absurd h (by decide), fun _ => rfl, zite_neg (by decide) ⟨TX12, 43, rfl, wd_1988, wd_1989, wd_1990, by decide +kernel, by decide⟩⟩, fun _ => trivial⟩
set_option maxRecDepth 100000 in
theorem en_13_102 : zE2 zFn "ReedOraclesLaw" 13 102 (3, 170, 6, 1, 12, 7) := ⟨⟨mt_170, rfl, rfl, wd_1158, wd_119, ⟨by decide, by decide⟩, fun h => absurd h (by decide), fun _ => rfl, zite_neg (by decide) ⟨TX11, 8, rfl, wd_1155, wd_1156, wd_1157, by decide +kernel, by decide⟩⟩, fun _ => trivial⟩
set_option maxRecDepth 100000 in
theorem en_13_105 : zE2 zFn "ReedOraclesLaw" 13 105 (3, 257, 6, 1, 13, 6) := ⟨⟨mt_257, rfl, rfl, wd_1749, wd_131, ⟨by decide, by decide⟩, fun h => absurd h (by decide), fun _ => rfl, zite_neg (by decide) ⟨TX12, 43, rfl, wd_1746, wd_1747, wd_1748, by decide +kernel, by decide⟩⟩, fun _ => trivial⟩
set_option maxRecDepth 100000 in
theorem en_13_106 : zE2 zFn "ReedOraclesLaw" 13 106 (3, 171, 6, 1, 12, 7) := ⟨⟨mt_171, rfl, rfl, wd_1163, wd_119, ⟨by decide, by decide⟩, fun h => absurd h (by decide), fun _ => rfl, zite_neg (by decide) ⟨TX11, 8, rfl, wd_1160, wd_1161, wd_1162, by decide +kernel, by decide⟩⟩, fun _ => trivial⟩
set_option maxRecDepth 100000 in
theorem en_13_109 : zE2 zFn "ReedOraclesLaw" 13 109 (3, 258, 6, 1, 13, 7) := ⟨⟨mt_258, rfl, rfl, wd_1757, wd_131, ⟨by decide, by decide⟩, fun h => absurd h (by decide), fun _ => rfl, zite_neg (by decide) ⟨TX12, 43, rfl, wd_1754, wd_1755, wd_1756, by decide +kernel, by decide⟩⟩, fun _ => trivial⟩
set_option maxRecDepth 100000 in
theorem en_13_110 : zE2 zFn "ReedOraclesLaw" 13 110 (3, 172, 4, 1, 12, 5) := ⟨⟨mt_172, rfl, rfl, wd_1172, wd_119, ⟨by decide, by decide⟩, fun h => absurd h (by decide), fun _ => rfl, zite_neg (by decide) ⟨TX11, 8, rfl, wd_1169, wd_1170, wd_1171, by decide +kernel, by decide⟩⟩, fun _ => trivial⟩
set_option maxRecDepth 100000 in
theorem en_13_113 : zE2 zFn "ReedOraclesLaw" 13 113 (3, 259, 4, 1, 13, 6) := ⟨⟨mt_259, rfl, rfl, wd_1761, wd_131, ⟨by decide, by decide⟩, fun h => absurd h (by decide), fun _ => rfl, zite_neg (by decide) ⟨TX12, 43, rfl, wd_1758, wd_1759, wd_1760, by decide +kernel, by decide⟩⟩, fun _ => trivial⟩
set_option maxRecDepth 100000 in
theorem en_13_114 : zE2 zFn "ReedOraclesLaw" 13 114 (3, 173, 5, 1, 12, 6) := ⟨⟨mt_173, rfl, rfl, wd_1181, wd_119, ⟨by decide, by decide⟩, fun h => absurd h (by decide), fun _ => rfl, zite_neg (by decide) ⟨TX11, 8, rfl, wd_1178, wd_1179, wd_1180, by decide +kernel, by decide⟩⟩, fun _ => trivial⟩
set_option maxRecDepth 100000 in
theorem en_13_117 : zE2 zFn "ReedOraclesLaw" 13 117 (3, 261, 5, 1, 13, 8) := ⟨⟨mt_261, rfl, rfl, wd_1765, wd_131, ⟨by decide, by decide⟩, fun h => absurd h (by decide), fun _ => rfl, zite_neg (by decide) ⟨TX12, 43, rfl, wd_1762, wd_1763, wd_1764, by decide +kernel, by decide⟩⟩, fun _ => trivial⟩
set_option maxRecDepth 100000 in
theorem en_13_118 : zE2 zFn "ReedOraclesLaw" 13 118 (3, 174, 5, 1, 12, 6) := ⟨⟨mt_174, rfl, rfl, wd_1205, wd_119, ⟨by decide, by decide⟩, fun h => absurd h (by decide), fun _ => rfl, zite_neg (by decide) ⟨TX11, 8, rfl, wd_1202, wd_1203, wd_1204, by decide +kernel, by decide⟩⟩, fun _ => trivial⟩
set_option maxRecDepth 100000 in
theorem en_13_121 : zE2 zFn "ReedOraclesLaw" 13 121 (3, 262, 5, 1, 13, 9) := ⟨⟨mt_262, rfl, rfl, wd_1773, wd_131, ⟨by decide, by decide⟩, fun h => absurd h (by decide), fun _ => rfl, zite_neg (by decide) ⟨TX12, 43, rfl, wd_1770, wd_1771, wd_1772, by decide +kernel, by decide⟩⟩, fun _ => trivial⟩
set_option maxRecDepth 100000 in
theorem en_13_122 : zE2 zFn "ReedOraclesLaw" 13 122 (3, 175, 4, 1, 12, 6) := ⟨⟨mt_175, rfl, rfl, wd_1215, wd_119, ⟨by decide, by decide⟩, fun h => absurd h (by decide), fun _ => rfl, zite_neg (by decide) ⟨TX11, 8, rfl, wd_1212, wd_1213, wd_1214, by decide +kernel, by decide⟩⟩, fun _ => trivial⟩
set_option maxRecDepth 100000 in
theorem en_13_126 : zE2 zFn "ReedOraclesLaw" 13 126 (3, 264, 4, 1, 13, 6) := ⟨⟨mt_264, rfl, rfl, wd_1777, wd_131, ⟨by decide, by decide⟩, fun h => absurd h (by decide), fun _ => rfl, zite_neg (by decide) ⟨TX12, 43, rfl, wd_1774, wd_1775, wd_1776, by decide +kernel, by decide⟩⟩, fun _ => trivial⟩
set_option maxRecDepth 100000 in
theorem en_13_127 : zE2 zFn "ReedOraclesLaw" 13 127 (3, 176, 4, 1, 12, 6) := ⟨⟨mt_176, rfl, rfl, wd_1232, wd_119, ⟨by decide, by decide⟩, fun h => absurd h (by decide), fun _ => rfl, zite_neg (by decide) ⟨TX11, 8, rfl, wd_1229, wd_1230, wd_1231, by decide +kernel, by decide⟩⟩, fun _ => trivial⟩
set_option maxRecDepth 100000 in
theorem en_13_130 : zE2 zFn "ReedOraclesLaw" 13 130 (3, 267, 4, 1, 13, 6) := ⟨⟨mt_267, rfl, rfl, wd_1785, wd_131, ⟨by decide, by decide⟩, fun h => absurd h (by decide), fun _ => rfl, zite_neg (by decide) ⟨TX12, 43, rfl, wd_1782, wd_1783, wd_1784, by decide +kernel, by decide⟩⟩, fun _ => trivial⟩
set_option maxRecDepth 100000 in
theorem en_13_131 : zE2 zFn "ReedOraclesLaw" 13 131 (3, 177, 3, 1, 12, 4) := ⟨⟨mt_177, rfl, rfl, wd_1245, wd_119, ⟨by decide, by decide⟩, fun h => absurd h (by decide), fun _ => rfl, zite_neg (by decide) ⟨TX11, 8, rfl, wd_1242, wd_1243, wd_1244, by decide +kernel, by decide⟩⟩, fun _ => trivial⟩
set_option maxRecDepth 100000 in
theorem en_13_134 : zE2 zFn "ReedOraclesLaw" 13 134 (3, 270, 3, 1, 13, 8) := ⟨⟨mt_270, rfl, rfl, wd_1797, wd_131, ⟨by decide, by decide⟩, fun h => absurd h (by decide), fun _ => rfl, zite_neg (by decide) ⟨TX12, 43, rfl, wd_1794, wd_1795, wd_1796, by decide +kernel, by decide⟩⟩, fun _ => trivial⟩
set_option maxRecDepth 100000 in
theorem en_13_135 : zE2 zFn "ReedOraclesLaw" 13 135 (3, 178, 4, 1, 12, 5) := ⟨⟨mt_178, rfl, rfl, wd_1257, wd_119, ⟨by decide, by decide⟩, fun h => absurd h (by decide), fun _ => rfl, zite_neg (by decide) ⟨TX11, 8, rfl, wd_1254, wd_1255, wd_1256, by decide +kernel, by decide⟩⟩, fun _ => trivial⟩
set_option maxRecDepth 100000 in
theorem en_13_138 : zE2 zFn "ReedOraclesLaw" 13 138 (3, 272, 4, 1, 13, 8) := ⟨⟨mt_272, rfl, rfl, wd_1805, wd_131, ⟨by decide, by decide⟩, fun h => absurd h (by decide), fun _ => rfl, zite_neg (by decide) ⟨TX12, 43, rfl, wd_1802, wd_1803, wd_1804, by decide +kernel, by decide⟩⟩, fun _ => trivial⟩
set_option maxRecDepth 100000 in
theorem en_13_139 : zE2 zFn "ReedOraclesLaw" 13 139 (3, 179, 3, 1, 12, 5) := ⟨⟨mt_179, rfl, rfl, wd_1265, wd_119, ⟨by decide, by decide⟩, fun h => absurd h (by decide), fun _ => rfl, zite_neg (by decide) ⟨TX11, 8, rfl, wd_1262, wd_1263, wd_1264, by decide +kernel, by decide⟩⟩, fun _ => trivial⟩
set_option maxRecDepth 100000 in
theorem en_13_142 : zE2 zFn "ReedOraclesLaw" 13 142 (3, 275, 3, 1, 13, 6) := ⟨⟨mt_275, rfl, rfl, wd_1816, wd_131, ⟨by decide, by decide⟩, fun h => absurd h (by decide), fun _ => rfl, zite_neg (by decide) ⟨TX12, 43, rfl, wd_1813, wd_1814, wd_1815, by decide +kernel, by decide⟩⟩, fun _ => trivial⟩
set_option maxRecDepth 100000 in
theorem en_13_143 : zE2 zFn "ReedOraclesLaw" 13 143 (3, 180, 4, 1, 12, 6) := ⟨⟨mt_180, rfl, rfl, wd_1285, wd_119, ⟨by decide, by decide⟩, fun h => absurd h (by decide), fun _ => rfl, zite_neg (by decide) ⟨TX11, 8, rfl, wd_1282, wd_1283, wd_1284, by decide +kernel, by decide⟩⟩, fun _ => trivial⟩
set_option maxRecDepth 100000 in
theorem en_13_146 : zE2 zFn "ReedOraclesLaw" 13 146 (3, 285, 4, 1, 13, 6) := ⟨⟨mt_285, rfl, rfl, wd_1860, wd_131, ⟨by decide, by decide⟩, fun h => absurd h (by decide), fun _ => rfl, zite_neg (by decide) ⟨TX12, 43, rfl, wd_1857, wd_1858, wd_1859, by decide +kernel, by decide⟩⟩, fun _ => trivial⟩
set_option maxRecDepth 100000 in
theorem en_13_147 : zE2 zFn "ReedOraclesLaw" 13 147 (3, 181, 4, 1, 12, 6) := ⟨⟨mt_181, rfl, rfl, wd_1298, wd_119, ⟨by decide, by decide⟩, fun h => absurd h (by decide), fun _ => rfl, zite_neg (by decide) ⟨TX11, 8, rfl, wd_1295, wd_1296, wd_1297, by decide +kernel, by decide⟩⟩, fun _ => trivial⟩
set_option maxRecDepth 100000 in
theorem en_13_150 : zE2 zFn "ReedOraclesLaw" 13 150 (3, 301, 4, 1, 13, 7) := ⟨⟨mt_301, rfl, rfl, wd_1924, wd_131, ⟨by decide, by decide⟩, fun h => absurd h (by decide), fun _ => rfl, zite_neg (by decide) ⟨TX12, 43, rfl, wd_1921, wd_1922, wd_1923, by decide +kernel, by decide⟩⟩, fun _ => trivial⟩
set_option maxRecDepth 100000 in
theorem en_13_151 : zE2 zFn "ReedOraclesLaw" 13 151 (3, 182, 7, 2, 12, 10) := ⟨⟨mt_182, rfl, rfl, wd_1317, wd_119, ⟨by decide, by decide⟩, fun h => absurd h (by decide), fun _ => rfl, zite_neg (by decide) ⟨TX11, 8, rfl, wd_1314, wd_1315, wd_1316, by decide +kernel, by decide⟩⟩, fun _ => trivial⟩
set_option maxRecDepth 100000 in
theorem en_13_155 : zE2 zFn "ReedOraclesLaw" 13 155 (3, 315, 7, 2, 13, 12) := ⟨⟨mt_315, rfl, rfl, wd_1975, wd_131, ⟨by decide, by decide⟩, fun h => absurd h (by decide), fun _ => rfl, zite_neg (by decide) ⟨TX12, 43, rfl, wd_1972, wd_1973, wd_1974, by decide +kernel, by decide⟩⟩, fun _ => trivial⟩
set_option maxRecDepth 100000 in
theorem en_13_156 : zE2 zFn "ReedOraclesLaw" 13 156 (3, 183, 4, 1, 12, 5) := ⟨⟨mt_183, rfl, rfl, wd_1326, wd_119, ⟨by decide, by decide⟩, fun h => absurd h (by decide), fun _ => rfl, zite_neg (by decide) ⟨TX11, 8, rfl, wd_1323, wd_1324, wd_1325, by decide +kernel, by decide⟩⟩, fun _ => trivial⟩
set_option maxRecDepth 100000 in
theorem en_13_159 : zE2 zFn "ReedOraclesLaw" 13 159 (3, 280, 4, 1, 13, 6) := ⟨⟨mt_280, rfl, rfl, wd_1828, wd_131, ⟨by decide, by decide⟩, fun h => absurd h (by decide), fun _ => rfl, zite_neg (by decide) ⟨TX12, 43, rfl, wd_1825, wd_1826, wd_1827, by decide +kernel, by decide⟩⟩, fun _ => trivial⟩
set_option maxRecDepth 100000 in
theorem en_13_160 : zE2 zFn "ReedOraclesLaw" 13 160 (3, 184, 3, 1, 12, 4) := ⟨⟨mt_184, rfl, rfl, wd_1346, wd_119, ⟨by decide, by decide⟩, fun h => absurd h (by decide), fun _ => rfl, zite_neg (by decide) ⟨TX11, 8, rfl, wd_1343, wd_1344, wd_1345, by decide +kernel, by decide⟩⟩, fun _ => trivial⟩
set_option maxRecDepth 100000 in
theorem en_13_163 : zE2 zFn "ReedOraclesLaw" 13 163 (3, 281, 3, 1, 13, 7) := ⟨⟨mt_281, rfl, rfl, wd_1848, wd_131, ⟨by decide, by decide⟩, fun h => absurd h (by decide), fun _ => rfl, zite_neg (by decide) ⟨TX12, 43, rfl, wd_1845, wd_1846, wd_1847, by decide +kernel, by decide⟩⟩, fun _ => trivial⟩
set_option maxRecDepth 100000 in
theorem en_13_164 : zE2 zFn "ReedOraclesLaw" 13 164 (3, 185, 4, 1, 12, 6) := ⟨⟨mt_185, rfl, rfl, wd_1358, wd_119, ⟨by decide, by decide⟩, fun h => absurd h (by decide), fun _ => rfl, zite_neg (by decide) ⟨TX11, 8, rfl, wd_1355, wd_1356, wd_1357, by decide +kernel, by decide⟩⟩, fun _ => trivial⟩
set_option maxRecDepth 100000 in
theorem en_13_167 : zE2 zFn "ReedOraclesLaw" 13 167 (3, 283, 4, 1, 13, 6) := ⟨⟨mt_283, rfl, rfl, wd_1852, wd_131, ⟨by decide, by decide⟩, fun h => absurd h (by decide), fun _ => rfl, zite_neg (by decide) ⟨TX12, 43, rfl, wd_1849, wd_1850, wd_1851, by decide +kernel, by decide⟩⟩, fun _ => trivial⟩
set_option maxRecDepth 100000 in
theorem en_13_168 : zE2 zFn "ReedOraclesLaw" 13 168 (3, 186, 2, 1, 12, 2) := ⟨⟨mt_186, rfl, rfl, wd_1372, wd_119, ⟨by decide, by decide⟩, fun h => absurd h (by decide), fun _ => rfl, zite_neg (by decide) ⟨TX11, 8, rfl, wd_1369, wd_1370, wd_1371, by decide +kernel, by decide⟩⟩, fun _ => trivial⟩
set_option maxRecDepth 100000 in
theorem en_13_171 : zE2 zFn "ReedOraclesLaw" 13 171 (3, 320, 2, 1, 13, 2) := ⟨⟨mt_320, rfl, rfl, wd_2004, wd_131, ⟨by decide, by decide⟩, fun h => absurd h (by decide), fun _ => rfl, zite_neg (by decide) ⟨TX12, 43, rfl, wd_2001, wd_2002, wd_2003, by decide +kernel, by decide⟩⟩, fun _ => trivial⟩
set_option maxRecDepth 100000 in
theorem en_13_172 : zE2 zFn "ReedOraclesLaw" 13 172 (3, 187, 2, 1, 12, 2) := ⟨⟨mt_187, rfl, rfl, wd_1376, wd_119, ⟨by decide, by decide⟩, fun h => absurd h (by decide), fun _ => rfl, zite_neg (by decide) ⟨TX11, 8, rfl, wd_1373, wd_1374, wd_1375, by decide +kernel, by decide⟩⟩, fun _ => trivial⟩
set_option maxRecDepth 100000 in
theorem en_13_176 : zE2 zFn "ReedOraclesLaw" 13 176 (3, 321, 2, 1, 13, 3) := ⟨⟨mt_321, rfl, rfl, wd_2008, wd_131, ⟨by decide, by decide⟩, fun h => absurd h (by decide), fun _ => rfl, zite_neg (by decide) ⟨TX12, 43, rfl, wd_2005, wd_2006, wd_2007, by decide +kernel, by decide⟩⟩, fun _ => trivial⟩
set_option maxRecDepth 100000 in
theorem en_13_177 : zE2 zFn "ReedOraclesLaw" 13 177 (3, 188, 2, 1, 12, 2) := ⟨⟨mt_188, rfl, rfl, wd_1390, wd_119, ⟨by decide, by decide⟩, fun h => absurd h (by decide), fun _ => rfl, zite_neg (by decide) ⟨TX11, 8, rfl, wd_1387, wd_1388, wd_1389, by decide +kernel, by decide⟩⟩, fun _ => trivial⟩
set_option maxRecDepth 100000 in
theorem en_13_180 : zE2 zFn "ReedOraclesLaw" 13 180 (3, 322, 2, 1, 13, 3) := ⟨⟨mt_322, rfl, rfl, wd_2012, wd_131, ⟨by decide, by decide⟩, fun h => absurd h (by decide), fun _ => rfl, zite_neg (by decide) ⟨TX12, 43, rfl, wd_2009, wd_2010, wd_2011, by decide +kernel, by decide⟩⟩, fun _ => trivial⟩
set_option maxRecDepth 100000 in
theorem pf_13 : ∀ q ∈ zPl_13, zE2 zFn "ReedOraclesLaw" 13 q.1 q.2 := List.forall_mem_cons.mpr ⟨en_13_7, List.forall_mem_cons.mpr ⟨en_13_9, List.forall_mem_cons.mpr ⟨en_13_10, List.forall_mem_cons.mpr ⟨en_13_12, List.forall_mem_cons.mpr ⟨en_13_13, List.forall_mem_cons.mpr ⟨en_13_17, List.forall_mem_cons.mpr ⟨en_13_18, List.forall_mem_cons.mpr ⟨en_13_22, List.forall_mem_cons.mpr ⟨en_13_23, List.forall_mem_cons.mpr ⟨en_13_27, List.forall_mem_cons.mpr ⟨en_13_28, List.forall_mem_cons.mpr ⟨en_13_31, List.forall_mem_cons.mpr ⟨en_13_32, List.forall_mem_cons.mpr ⟨en_13_35, List.forall_mem_cons.mpr ⟨en_13_36, List.forall_mem_cons.mpr ⟨en_13_40, List.forall_mem_cons.mpr ⟨en_13_41, List.forall_mem_cons.mpr ⟨en_13_45, List.forall_mem_cons.mpr ⟨en_13_46, List.forall_mem_cons.mpr ⟨en_13_49, List.forall_mem_cons.mpr ⟨en_13_50, List.forall_mem_cons.mpr ⟨en_13_54, List.forall_mem_cons.mpr ⟨en_13_55, List.forall_mem_cons.mpr ⟨en_13_59, List.forall_mem_cons.mpr ⟨en_13_60, List.forall_mem_cons.mpr ⟨en_13_63, List.forall_mem_cons.mpr ⟨en_13_64, List.forall_mem_cons.mpr ⟨en_13_68, List.forall_mem_cons.mpr ⟨en_13_69, List.forall_mem_cons.mpr ⟨en_13_72, List.forall_mem_cons.mpr ⟨en_13_73, List.forall_mem_cons.mpr ⟨en_13_76, List.forall_mem_cons.mpr ⟨en_13_77, List.forall_mem_cons.mpr ⟨en_13_80, List.forall_mem_cons.mpr ⟨en_13_81, List.forall_mem_cons.mpr ⟨en_13_84, List.forall_mem_cons.mpr ⟨en_13_85, List.forall_mem_cons.mpr ⟨en_13_88, List.forall_mem_cons.mpr ⟨en_13_89, List.forall_mem_cons.mpr ⟨en_13_92, List.forall_mem_cons.mpr ⟨en_13_93, List.forall_mem_cons.mpr ⟨en_13_97, List.forall_mem_cons.mpr ⟨en_13_98, List.forall_mem_cons.mpr ⟨en_13_101, List.forall_mem_cons.mpr ⟨en_13_102, List.forall_mem_cons.mpr ⟨en_13_105, List.forall_mem_cons.mpr ⟨en_13_106, List.forall_mem_cons.mpr ⟨en_13_109, List.forall_mem_cons.mpr ⟨en_13_110, List.forall_mem_cons.mpr ⟨en_13_113, List.forall_mem_cons.mpr ⟨en_13_114, List.forall_mem_cons.mpr ⟨en_13_117, List.forall_mem_cons.mpr ⟨en_13_118, List.forall_mem_cons.mpr ⟨en_13_121, List.forall_mem_cons.mpr ⟨en_13_122, List.forall_mem_cons.mpr ⟨en_13_126, List.forall_mem_cons.mpr ⟨en_13_127, List.forall_mem_cons.mpr ⟨en_13_130, List.forall_mem_cons.mpr ⟨en_13_131, List.forall_mem_cons.mpr ⟨en_13_134, List.forall_mem_cons.mpr ⟨en_13_135, List.forall_mem_cons.mpr ⟨en_13_138, List.forall_mem_cons.mpr ⟨en_13_139, List.forall_mem_cons.mpr ⟨en_13_142, List.forall_mem_cons.mpr ⟨en_13_143, List.forall_mem_cons.mpr ⟨en_13_146, List.forall_mem_cons.mpr ⟨en_13_147, List.forall_mem_cons.mpr ⟨en_13_150, List.forall_mem_cons.mpr ⟨en_13_151, List.forall_mem_cons.mpr ⟨en_13_155, List.forall_mem_cons.mpr ⟨en_13_156, List.forall_mem_cons.mpr ⟨en_13_159, List.forall_mem_cons.mpr ⟨en_13_160, List.forall_mem_cons.mpr ⟨en_13_163, List.forall_mem_cons.mpr ⟨en_13_164, List.forall_mem_cons.mpr ⟨en_13_167, List.forall_mem_cons.mpr ⟨en_13_168, List.forall_mem_cons.mpr ⟨en_13_171, List.forall_mem_cons.mpr ⟨en_13_172, List.forall_mem_cons.mpr ⟨en_13_176, List.forall_mem_cons.mpr ⟨en_13_177, List.forall_mem_cons.mpr ⟨en_13_180, (fun _ h => absurd h List.not_mem_nil)⟩⟩⟩⟩⟩⟩⟩⟩⟩⟩⟩⟩⟩⟩⟩⟩⟩⟩⟩⟩⟩⟩⟩⟩⟩⟩⟩⟩⟩⟩⟩⟩⟩⟩⟩⟩⟩⟩⟩⟩⟩⟩⟩⟩⟩⟩⟩⟩⟩⟩⟩⟩⟩⟩⟩⟩⟩⟩⟩⟩⟩⟩⟩⟩⟩⟩⟩⟩⟩⟩⟩⟩⟩⟩⟩⟩⟩⟩⟩⟩⟩⟩
set_option maxRecDepth 100000 in
theorem pk_13 : ∀ idx e, zlk zPl_13 idx = some e → zE2 zFn "ReedOraclesLaw" 13 idx e := fun idx e h => pf_13 _ (zlk_mem _ _ _ h)
set_option maxRecDepth 100000 in
theorem pf_14 : ∀ q ∈ zPl_14, zE2 zFn "java/util/Arrays" 14 q.1 q.2 := (fun _ h => absurd h List.not_mem_nil)
set_option maxRecDepth 100000 in
theorem pk_14 : ∀ idx e, zlk zPl_14 idx = some e → zE2 zFn "java/util/Arrays" 14 idx e := fun idx e h => pf_14 _ (zlk_mem _ _ _ h)
set_option maxRecDepth 100000 in
theorem en_15_265 : zE2 zFn "java/lang/Integer" 15 265 (5, 0, 0, 0, 0, 1431655765) := ⟨wd_1010, fun _ => trivial⟩
set_option maxRecDepth 100000 in
theorem en_15_266 : zE2 zFn "java/lang/Integer" 15 266 (5, 0, 0, 0, 0, 858993459) := ⟨wd_1011, fun _ => trivial⟩
set_option maxRecDepth 100000 in
theorem en_15_267 : zE2 zFn "java/lang/Integer" 15 267 (5, 0, 0, 0, 0, 252645135) := ⟨wd_1012, fun _ => trivial⟩
set_option maxRecDepth 100000 in
theorem pf_15 : ∀ q ∈ zPl_15, zE2 zFn "java/lang/Integer" 15 q.1 q.2 := List.forall_mem_cons.mpr ⟨en_15_265, List.forall_mem_cons.mpr ⟨en_15_266, List.forall_mem_cons.mpr ⟨en_15_267, (fun _ h => absurd h List.not_mem_nil)⟩⟩⟩
set_option maxRecDepth 100000 in
theorem pk_15 : ∀ idx e, zlk zPl_15 idx = some e → zE2 zFn "java/lang/Integer" 15 idx e := fun idx e h => pf_15 _ (zlk_mem _ _ _ h)
set_option maxRecDepth 100000 in
theorem zacl : Cond.arrayClass .int ∈ zT ∧ Cond.arrayClass .byte ∈ zT ∧ Cond.arrayClass .boolean ∈ zT := ⟨wd_246, wd_171, wd_1527⟩
