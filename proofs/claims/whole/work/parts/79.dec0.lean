def zdk (bytes : ByteArray) (x : zIns) : Bool := decide (decode bytes x.1 = .ok (x.2.1, x.2.2))
set_option maxRecDepth 100000 in
theorem dk_0 : (in_0.all (zdk prog_2_method_1_code)) = true := by decide +kernel
set_option maxRecDepth 100000 in
theorem dk_1 : (in_1.all (zdk prog_2_method_2_code)) = true := by decide +kernel
set_option maxRecDepth 100000 in
theorem dk_2 : (in_2.all (zdk prog_2_method_3_code)) = true := by decide +kernel
set_option maxRecDepth 100000 in
theorem dk_3 : (in_3.all (zdk prog_2_method_4_code)) = true := by decide +kernel
set_option maxRecDepth 100000 in
theorem dk_4 : (in_4.all (zdk prog_2_method_5_code)) = true := by decide +kernel
set_option maxRecDepth 100000 in
theorem dk_5 : (in_5.all (zdk prog_2_method_6_code)) = true := by decide +kernel
set_option maxRecDepth 100000 in
theorem dk_6 : (in_6.all (zdk prog_2_method_7_code)) = true := by decide +kernel
set_option maxRecDepth 100000 in
theorem dk_7 : (in_7.all (zdk prog_2_method_8_code)) = true := by decide +kernel
set_option maxRecDepth 100000 in
theorem dk_8 : (in_8.all (zdk prog_2_method_9_code)) = true := by decide +kernel
set_option maxRecDepth 100000 in
theorem dk_9 : (in_9.all (zdk prog_2_method_10_code)) = true := by decide +kernel
set_option maxRecDepth 100000 in
theorem dk_10 : (in_10.all (zdk prog_2_method_11_code)) = true := by decide +kernel
set_option maxRecDepth 100000 in
theorem dk_11 : (in_11.all (zdk prog_3_method_1_code)) = true := by decide +kernel
set_option maxRecDepth 100000 in
theorem dk_12 : (in_12.all (zdk prog_3_method_2_code)) = true := by decide +kernel
set_option maxRecDepth 100000 in
theorem dk_13 : (in_13.all (zdk prog_3_method_3_code)) = true := by decide +kernel
set_option maxRecDepth 100000 in
theorem dk_14 : (in_14.all (zdk prog_3_method_4_code)) = true := by decide +kernel
set_option maxRecDepth 100000 in
theorem dk_15 : (in_15.all (zdk prog_3_method_5_code)) = true := by decide +kernel
set_option maxRecDepth 100000 in
theorem dk_16 : (in_16.all (zdk prog_3_method_6_code)) = true := by decide +kernel
set_option maxRecDepth 100000 in
theorem dk_17 : (in_17.all (zdk prog_3_method_7_code)) = true := by decide +kernel
set_option maxRecDepth 100000 in
theorem dk_18 : (in_18.all (zdk prog_3_method_8_code)) = true := by decide +kernel
set_option maxRecDepth 100000 in
theorem dk_19 : (in_19.all (zdk prog_3_method_9_code)) = true := by decide +kernel
set_option maxRecDepth 100000 in
theorem dk_20 : (in_20.all (zdk prog_3_method_10_code)) = true := by decide +kernel
set_option maxRecDepth 100000 in
theorem dk_21 : (in_21.all (zdk prog_3_method_11_code)) = true := by decide +kernel
set_option maxRecDepth 100000 in
theorem dk_22 : (in_22.all (zdk prog_3_method_12_code)) = true := by decide +kernel
set_option maxRecDepth 100000 in
theorem dk_23 : (in_23.all (zdk prog_3_method_13_code)) = true := by decide +kernel
set_option maxRecDepth 100000 in
theorem dk_24 : (in_24.all (zdk prog_3_method_14_code)) = true := by decide +kernel
set_option maxRecDepth 100000 in
theorem dk_25 : (in_25.all (zdk prog_3_method_15_code)) = true := by decide +kernel
set_option maxRecDepth 100000 in
theorem dk_26 : (in_26.all (zdk prog_3_method_16_code)) = true := by decide +kernel
set_option maxRecDepth 100000 in
theorem dk_27 : (in_27.all (zdk prog_3_method_17_code)) = true := by decide +kernel
set_option maxRecDepth 100000 in
theorem dk_28 : (in_28.all (zdk prog_3_method_18_code)) = true := by decide +kernel
set_option maxRecDepth 100000 in
theorem dk_29 : (in_29.all (zdk prog_3_method_19_code)) = true := by decide +kernel
set_option maxRecDepth 100000 in
theorem dk_30 : (in_30.all (zdk prog_3_method_20_code)) = true := by decide +kernel
set_option maxRecDepth 100000 in
theorem dk_31 : (in_31.all (zdk prog_3_method_21_code)) = true := by decide +kernel
set_option maxRecDepth 100000 in
theorem dk_32 : (in_32.all (zdk prog_3_method_22_code)) = true := by decide +kernel
set_option maxRecDepth 100000 in
theorem dk_33 : (in_33.all (zdk prog_4_method_1_code)) = true := by decide +kernel
set_option maxRecDepth 100000 in
theorem dk_34 : (in_34.all (zdk prog_4_method_2_code)) = true := by decide +kernel
set_option maxRecDepth 100000 in
theorem dk_35 : (in_35.all (zdk prog_4_method_3_code)) = true := by decide +kernel
set_option maxRecDepth 100000 in
theorem dk_36 : (in_36.all (zdk prog_4_method_4_code)) = true := by decide +kernel
set_option maxRecDepth 100000 in
theorem dk_37 : (in_37.all (zdk prog_4_method_5_code)) = true := by decide +kernel
set_option maxRecDepth 100000 in
theorem dk_38 : (in_38.all (zdk prog_4_method_6_code)) = true := by decide +kernel
set_option maxRecDepth 100000 in
theorem dk_39 : (in_39.all (zdk prog_4_method_7_code)) = true := by decide +kernel
set_option maxRecDepth 100000 in
theorem dk_40 : (in_40.all (zdk prog_4_method_8_code)) = true := by decide +kernel
set_option maxRecDepth 100000 in
theorem dk_41 : (in_41.all (zdk prog_4_method_9_code)) = true := by decide +kernel
set_option maxRecDepth 100000 in
theorem dk_42 : (in_42.all (zdk prog_4_method_10_code)) = true := by decide +kernel
set_option maxRecDepth 100000 in
theorem dk_43 : (in_43.all (zdk prog_4_method_11_code)) = true := by decide +kernel
set_option maxRecDepth 100000 in
theorem dk_44 : (in_44.all (zdk prog_4_method_12_code)) = true := by decide +kernel
set_option maxRecDepth 100000 in
theorem dk_45 : (in_45.all (zdk prog_4_method_13_code)) = true := by decide +kernel
set_option maxRecDepth 100000 in
theorem dk_46 : (in_46.all (zdk prog_4_method_14_code)) = true := by decide +kernel
set_option maxRecDepth 100000 in
theorem dk_47 : (in_47.all (zdk prog_4_method_15_code)) = true := by decide +kernel
set_option maxRecDepth 100000 in
theorem dk_48 : (in_48.all (zdk prog_4_method_16_code)) = true := by decide +kernel
set_option maxRecDepth 100000 in
theorem dk_49 : (in_49.all (zdk prog_4_method_17_code)) = true := by decide +kernel
set_option maxRecDepth 100000 in
theorem dk_50 : (in_50.all (zdk prog_4_method_18_code)) = true := by decide +kernel
set_option maxRecDepth 100000 in
theorem dk_51 : (in_51.all (zdk prog_4_method_19_code)) = true := by decide +kernel
set_option maxRecDepth 100000 in
theorem dk_52 : (in_52.all (zdk prog_5_method_1_code)) = true := by decide +kernel
set_option maxRecDepth 100000 in
theorem dk_53 : (in_53.all (zdk prog_5_method_2_code)) = true := by decide +kernel
set_option maxRecDepth 100000 in
theorem dk_54 : (in_54.all (zdk prog_5_method_3_code)) = true := by decide +kernel
set_option maxRecDepth 100000 in
theorem dk_55 : (in_55.all (zdk prog_5_method_4_code)) = true := by decide +kernel
set_option maxRecDepth 100000 in
theorem dk_56 : (in_56.all (zdk prog_6_method_1_code)) = true := by decide +kernel
set_option maxRecDepth 100000 in
theorem dk_57 : (in_57.all (zdk prog_6_method_2_code)) = true := by decide +kernel
set_option maxRecDepth 100000 in
theorem dk_58 : (in_58.all (zdk prog_6_method_3_code)) = true := by decide +kernel
set_option maxRecDepth 100000 in
theorem dk_59 : (in_59.all (zdk prog_6_method_4_code)) = true := by decide +kernel
set_option maxRecDepth 100000 in
theorem dk_60 : (in_60.all (zdk prog_6_method_5_code)) = true := by decide +kernel
set_option maxRecDepth 100000 in
theorem dk_61 : (in_61.all (zdk prog_6_method_6_code)) = true := by decide +kernel
set_option maxRecDepth 100000 in
theorem dk_62 : (in_62.all (zdk prog_6_method_7_code)) = true := by decide +kernel
set_option maxRecDepth 100000 in
theorem dk_63 : (in_63.all (zdk prog_6_method_8_code)) = true := by decide +kernel
set_option maxRecDepth 100000 in
theorem dk_64 : (in_64.all (zdk prog_6_method_9_code)) = true := by decide +kernel
set_option maxRecDepth 100000 in
theorem dk_65 : (in_65.all (zdk prog_6_method_10_code)) = true := by decide +kernel
set_option maxRecDepth 100000 in
theorem dk_66 : (in_66.all (zdk prog_6_method_11_code)) = true := by decide +kernel
set_option maxRecDepth 100000 in
theorem dk_67 : (in_67.all (zdk prog_6_method_12_code)) = true := by decide +kernel
set_option maxRecDepth 100000 in
theorem dk_68 : (in_68.all (zdk prog_6_method_13_code)) = true := by decide +kernel
set_option maxRecDepth 100000 in
theorem dk_69 : (in_69.all (zdk prog_6_method_14_code)) = true := by decide +kernel
set_option maxRecDepth 100000 in
theorem dk_70 : (in_70.all (zdk prog_6_method_15_code)) = true := by decide +kernel
set_option maxRecDepth 100000 in
theorem dk_71 : (in_71.all (zdk prog_6_method_16_code)) = true := by decide +kernel
set_option maxRecDepth 100000 in
theorem dk_72 : (in_72.all (zdk prog_6_method_17_code)) = true := by decide +kernel
set_option maxRecDepth 100000 in
theorem dk_73 : (in_73.all (zdk prog_6_method_18_code)) = true := by decide +kernel
set_option maxRecDepth 100000 in
theorem dk_74 : (in_74.all (zdk prog_7_method_1_code)) = true := by decide +kernel
set_option maxRecDepth 100000 in
theorem dk_75 : (in_75.all (zdk prog_7_method_2_code)) = true := by decide +kernel
set_option maxRecDepth 100000 in
theorem dk_76 : (in_76.all (zdk prog_7_method_3_code)) = true := by decide +kernel
set_option maxRecDepth 100000 in
theorem dk_77 : (in_77.all (zdk prog_7_method_4_code)) = true := by decide +kernel
set_option maxRecDepth 100000 in
theorem dk_78 : (in_78.all (zdk prog_7_method_5_code)) = true := by decide +kernel
set_option maxRecDepth 100000 in
theorem dk_79 : (in_79.all (zdk prog_7_method_6_code)) = true := by decide +kernel
set_option maxRecDepth 100000 in
theorem dk_80 : (in_80.all (zdk prog_7_method_7_code)) = true := by decide +kernel
set_option maxRecDepth 100000 in
theorem dk_81 : (in_81.all (zdk prog_7_method_8_code)) = true := by decide +kernel
set_option maxRecDepth 100000 in
theorem dk_82 : (in_82.all (zdk prog_7_method_9_code)) = true := by decide +kernel
set_option maxRecDepth 100000 in
theorem dk_83 : (in_83.all (zdk prog_7_method_10_code)) = true := by decide +kernel
set_option maxRecDepth 100000 in
theorem dk_84 : (in_84.all (zdk prog_7_method_11_code)) = true := by decide +kernel
set_option maxRecDepth 100000 in
theorem dk_85 : (in_85.all (zdk prog_7_method_12_code)) = true := by decide +kernel
set_option maxRecDepth 100000 in
theorem dk_86 : (in_86.all (zdk prog_7_method_13_code)) = true := by decide +kernel
set_option maxRecDepth 100000 in
theorem dk_87 : (in_87.all (zdk prog_7_method_14_code)) = true := by decide +kernel
set_option maxRecDepth 100000 in
theorem dk_88 : (in_88.all (zdk prog_7_method_15_code)) = true := by decide +kernel
set_option maxRecDepth 100000 in
theorem dk_89 : (in_89.all (zdk prog_7_method_16_code)) = true := by decide +kernel
set_option maxRecDepth 100000 in
theorem dk_90 : (in_90.all (zdk prog_7_method_17_code)) = true := by decide +kernel
set_option maxRecDepth 100000 in
theorem dk_91 : (in_91.all (zdk prog_7_method_18_code)) = true := by decide +kernel
set_option maxRecDepth 100000 in
theorem dk_92 : (in_92.all (zdk prog_8_method_1_code)) = true := by decide +kernel
set_option maxRecDepth 100000 in
theorem dk_93 : (in_93.all (zdk prog_8_method_2_code)) = true := by decide +kernel
set_option maxRecDepth 100000 in
theorem dk_94 : (in_94.all (zdk prog_8_method_3_code)) = true := by decide +kernel
set_option maxRecDepth 100000 in
theorem dk_95 : (in_95.all (zdk prog_8_method_4_code)) = true := by decide +kernel
set_option maxRecDepth 100000 in
theorem dk_96 : (in_96.all (zdk prog_8_method_5_code)) = true := by decide +kernel
set_option maxRecDepth 100000 in
theorem dk_97 : (in_97.all (zdk prog_8_method_6_code)) = true := by decide +kernel
set_option maxRecDepth 100000 in
theorem dk_98 : (in_98.all (zdk prog_8_method_7_code)) = true := by decide +kernel
set_option maxRecDepth 100000 in
theorem dk_99 : (in_99.all (zdk prog_8_method_8_code)) = true := by decide +kernel
set_option maxRecDepth 100000 in
theorem dk_100 : (in_100.all (zdk prog_8_method_9_code)) = true := by decide +kernel
set_option maxRecDepth 100000 in
theorem dk_101 : (in_101.all (zdk prog_8_method_10_code)) = true := by decide +kernel
set_option maxRecDepth 100000 in
theorem dk_102 : (in_102.all (zdk prog_8_method_11_code)) = true := by decide +kernel
set_option maxRecDepth 100000 in
theorem dk_103 : (in_103.all (zdk prog_8_method_12_code)) = true := by decide +kernel
set_option maxRecDepth 100000 in
theorem dk_104 : (in_104.all (zdk prog_8_method_13_code)) = true := by decide +kernel
set_option maxRecDepth 100000 in
theorem dk_105 : (in_105.all (zdk prog_8_method_14_code)) = true := by decide +kernel
set_option maxRecDepth 100000 in
theorem dk_106 : (in_106.all (zdk prog_8_method_15_code)) = true := by decide +kernel
set_option maxRecDepth 100000 in
theorem dk_107 : (in_107.all (zdk prog_8_method_16_code)) = true := by decide +kernel
set_option maxRecDepth 100000 in
theorem dk_108 : (in_108.all (zdk prog_8_method_17_code)) = true := by decide +kernel
set_option maxRecDepth 100000 in
theorem dk_109 : (in_109.all (zdk prog_8_method_18_code)) = true := by decide +kernel
set_option maxRecDepth 100000 in
theorem dk_110 : (in_110.all (zdk prog_8_method_19_code)) = true := by decide +kernel
set_option maxRecDepth 100000 in
theorem dk_111 : (in_111.all (zdk prog_8_method_20_code)) = true := by decide +kernel
set_option maxRecDepth 100000 in
theorem dk_112 : (in_112.all (zdk prog_8_method_21_code)) = true := by decide +kernel
set_option maxRecDepth 100000 in
theorem dk_113 : (in_113.all (zdk prog_8_method_22_code)) = true := by decide +kernel
set_option maxRecDepth 100000 in
theorem dk_114 : (in_114.all (zdk prog_8_method_23_code)) = true := by decide +kernel
set_option maxRecDepth 100000 in
theorem dk_115 : (in_115.all (zdk prog_8_method_24_code)) = true := by decide +kernel
set_option maxRecDepth 100000 in
theorem dk_116 : (in_116.all (zdk prog_8_method_25_code)) = true := by decide +kernel
set_option maxRecDepth 100000 in
theorem dk_117 : (in_117.all (zdk prog_8_method_26_code)) = true := by decide +kernel
set_option maxRecDepth 100000 in
theorem dk_118 : (in_118.all (zdk prog_8_method_27_code)) = true := by decide +kernel
set_option maxRecDepth 100000 in
theorem dk_119 : (in_119.all (zdk prog_8_method_28_code)) = true := by decide +kernel
set_option maxRecDepth 100000 in
theorem dk_120 : (in_120.all (zdk prog_8_method_29_code)) = true := by decide +kernel
set_option maxRecDepth 100000 in
theorem dk_121 : (in_121.all (zdk prog_8_method_30_code)) = true := by decide +kernel
set_option maxRecDepth 100000 in
theorem dk_122 : (in_122.all (zdk prog_8_method_31_code)) = true := by decide +kernel
set_option maxRecDepth 100000 in
theorem dk_123 : (in_123.all (zdk prog_9_method_1_code)) = true := by decide +kernel
set_option maxRecDepth 100000 in
theorem dk_124 : (in_124.all (zdk prog_9_method_2_code)) = true := by decide +kernel
set_option maxRecDepth 100000 in
theorem dk_125 : (in_125.all (zdk prog_9_method_3_code)) = true := by decide +kernel
set_option maxRecDepth 100000 in
theorem dk_126 : (in_126.all (zdk prog_9_method_4_code)) = true := by decide +kernel
set_option maxRecDepth 100000 in
theorem dk_127 : (in_127.all (zdk prog_9_method_5_code)) = true := by decide +kernel
set_option maxRecDepth 100000 in
theorem dk_128 : (in_128.all (zdk prog_9_method_6_code)) = true := by decide +kernel
set_option maxRecDepth 100000 in
theorem dk_129 : (in_129.all (zdk prog_9_method_7_code)) = true := by decide +kernel
set_option maxRecDepth 100000 in
theorem dk_130 : (in_130.all (zdk prog_9_method_8_code)) = true := by decide +kernel
set_option maxRecDepth 100000 in
theorem dk_131 : (in_131.all (zdk prog_9_method_9_code)) = true := by decide +kernel
set_option maxRecDepth 100000 in
theorem dk_132 : (in_132.all (zdk prog_9_method_10_code)) = true := by decide +kernel
set_option maxRecDepth 100000 in
theorem dk_133 : (in_133.all (zdk prog_9_method_11_code)) = true := by decide +kernel
set_option maxRecDepth 100000 in
theorem dk_134 : (in_134.all (zdk prog_10_method_1_code)) = true := by decide +kernel
set_option maxRecDepth 100000 in
theorem dk_135 : (in_135.all (zdk prog_10_method_2_code)) = true := by decide +kernel
set_option maxRecDepth 100000 in
theorem dk_136 : (in_136.all (zdk prog_10_method_3_code)) = true := by decide +kernel
set_option maxRecDepth 100000 in
theorem dk_137 : (in_137.all (zdk prog_11_method_1_code)) = true := by decide +kernel
set_option maxRecDepth 100000 in
theorem dk_138 : (in_138.all (zdk prog_11_method_2_code)) = true := by decide +kernel
set_option maxRecDepth 100000 in
theorem dk_139 : (in_139.all (zdk prog_11_method_3_code)) = true := by decide +kernel
set_option maxRecDepth 100000 in
theorem dk_140 : (in_140.all (zdk prog_11_method_4_code)) = true := by decide +kernel
set_option maxRecDepth 100000 in
theorem dk_141 : (in_141.all (zdk prog_11_method_5_code)) = true := by decide +kernel
set_option maxRecDepth 100000 in
theorem dk_142 : (in_142.all (zdk prog_11_method_6_code)) = true := by decide +kernel
set_option maxRecDepth 100000 in
theorem dk_143 : (in_143.all (zdk prog_11_method_7_code)) = true := by decide +kernel
set_option maxRecDepth 100000 in
theorem dk_144 : (in_144.all (zdk prog_12_method_1_code)) = true := by decide +kernel
set_option maxRecDepth 100000 in
theorem dk_145 : (in_145.all (zdk prog_12_method_2_code)) = true := by decide +kernel
set_option maxRecDepth 100000 in
theorem dk_146 : (in_146.all (zdk prog_12_method_3_code)) = true := by decide +kernel
set_option maxRecDepth 100000 in
theorem dk_147 : (in_147.all (zdk prog_12_method_4_code)) = true := by decide +kernel
set_option maxRecDepth 100000 in
theorem dk_148 : (in_148.all (zdk prog_12_method_5_code)) = true := by decide +kernel
set_option maxRecDepth 100000 in
theorem dk_149 : (in_149.all (zdk prog_1_method_1_code)) = true := by decide +kernel
set_option maxRecDepth 100000 in
theorem dk_150 : (in_150.all (zdk prog_1_method_2_code)) = true := by decide +kernel
set_option maxRecDepth 100000 in
theorem dk_151 : (in_151.all (zdk prog_1_method_3_code)) = true := by decide +kernel
set_option maxRecDepth 100000 in
theorem dk_152 : (in_152.all (zdk prog_1_method_4_code)) = true := by decide +kernel
set_option maxRecDepth 100000 in
theorem dk_153 : (in_153.all (zdk prog_1_method_5_code)) = true := by decide +kernel
set_option maxRecDepth 100000 in
theorem dk_154 : (in_154.all (zdk prog_1_method_6_code)) = true := by decide +kernel
set_option maxRecDepth 100000 in
theorem dk_155 : (in_155.all (zdk prog_1_method_7_code)) = true := by decide +kernel
set_option maxRecDepth 100000 in
theorem dk_156 : (in_156.all (zdk prog_1_method_8_code)) = true := by decide +kernel
set_option maxRecDepth 100000 in
theorem dk_157 : (in_157.all (zdk prog_1_method_9_code)) = true := by decide +kernel
set_option maxRecDepth 100000 in
theorem dk_158 : (in_158.all (zdk prog_1_method_10_code)) = true := by decide +kernel
set_option maxRecDepth 100000 in
theorem dk_159 : (in_159.all (zdk prog_1_method_11_code)) = true := by decide +kernel
set_option maxRecDepth 100000 in
theorem dk_160 : (in_160.all (zdk prog_1_method_12_code)) = true := by decide +kernel
set_option maxRecDepth 100000 in
theorem dk_161 : (in_161.all (zdk prog_1_method_13_code)) = true := by decide +kernel
set_option maxRecDepth 100000 in
theorem dk_162 : (in_162.all (zdk prog_1_method_14_code)) = true := by decide +kernel
set_option maxRecDepth 100000 in
theorem dk_163 : (in_163.all (zdk prog_1_method_15_code)) = true := by decide +kernel
set_option maxRecDepth 100000 in
theorem dk_164 : (in_164.all (zdk prog_1_method_16_code)) = true := by decide +kernel
set_option maxRecDepth 100000 in
theorem dk_165 : (in_165.all (zdk prog_1_method_17_code)) = true := by decide +kernel
set_option maxRecDepth 100000 in
theorem dk_166 : (in_166.all (zdk prog_1_method_18_code)) = true := by decide +kernel
set_option maxRecDepth 100000 in
theorem dk_167 : (in_167.all (zdk prog_1_method_19_code)) = true := by decide +kernel
set_option maxRecDepth 100000 in
theorem dk_168 : (in_168.all (zdk prog_1_method_20_code)) = true := by decide +kernel
set_option maxRecDepth 100000 in
theorem dk_169 : (in_169.all (zdk prog_1_method_21_code)) = true := by decide +kernel
set_option maxRecDepth 100000 in
theorem dk_170 : (in_170.all (zdk prog_1_method_22_code)) = true := by decide +kernel
set_option maxRecDepth 100000 in
theorem dk_171 : (in_171.all (zdk prog_1_method_23_code)) = true := by decide +kernel
set_option maxRecDepth 100000 in
theorem dk_172 : (in_172.all (zdk prog_1_method_24_code)) = true := by decide +kernel
