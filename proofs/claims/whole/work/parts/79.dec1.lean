set_option maxRecDepth 100000 in
theorem dk_173 : (in_173.all (zdk prog_1_method_25_code)) = true := by decide +kernel
set_option maxRecDepth 100000 in
theorem dk_174 : (in_174.all (zdk prog_1_method_26_code)) = true := by decide +kernel
set_option maxRecDepth 100000 in
theorem dk_175 : (in_175.all (zdk prog_1_method_27_code)) = true := by decide +kernel
set_option maxRecDepth 100000 in
theorem dk_176 : (in_176.all (zdk prog_1_method_28_code)) = true := by decide +kernel
set_option maxRecDepth 100000 in
theorem dk_177 : (in_177.all (zdk prog_1_method_29_code)) = true := by decide +kernel
set_option maxRecDepth 100000 in
theorem dk_178 : (in_178.all (zdk prog_1_method_30_code)) = true := by decide +kernel
set_option maxRecDepth 100000 in
theorem dk_179 : (in_179.all (zdk prog_1_method_31_code)) = true := by decide +kernel
set_option maxRecDepth 100000 in
theorem dk_180 : (in_180.all (zdk prog_1_method_32_code)) = true := by decide +kernel
set_option maxRecDepth 100000 in
theorem dk_181 : (in_181.all (zdk prog_1_method_33_code)) = true := by decide +kernel
set_option maxRecDepth 100000 in
theorem dk_182 : (in_182.all (zdk prog_1_method_34_code)) = true := by decide +kernel
set_option maxRecDepth 100000 in
theorem dk_183 : (in_183.all (zdk prog_1_method_35_code)) = true := by decide +kernel
set_option maxRecDepth 100000 in
theorem dk_184 : (in_184.all (zdk prog_1_method_36_code)) = true := by decide +kernel
set_option maxRecDepth 100000 in
theorem dk_185 : (in_185.all (zdk prog_1_method_37_code)) = true := by decide +kernel
set_option maxRecDepth 100000 in
theorem dk_186 : (in_186.all (zdk prog_1_method_38_code)) = true := by decide +kernel
set_option maxRecDepth 100000 in
theorem dk_187 : (in_187.all (zdk prog_1_method_39_code)) = true := by decide +kernel
set_option maxRecDepth 100000 in
theorem dk_188 : (in_188.all (zdk prog_1_method_40_code)) = true := by decide +kernel
set_option maxRecDepth 100000 in
theorem dk_189 : (in_189.all (zdk prog_1_method_41_code)) = true := by decide +kernel
set_option maxRecDepth 100000 in
theorem dk_190 : (in_190.all (zdk prog_1_method_42_code)) = true := by decide +kernel
set_option maxRecDepth 100000 in
theorem dk_191 : (in_191.all (zdk prog_1_method_43_code)) = true := by decide +kernel
set_option maxRecDepth 100000 in
theorem dk_192 : (in_192.all (zdk prog_1_method_44_code)) = true := by decide +kernel
set_option maxRecDepth 100000 in
theorem dk_193 : (in_193.all (zdk prog_1_method_45_code)) = true := by decide +kernel
set_option maxRecDepth 100000 in
theorem dk_194 : (in_194.all (zdk prog_1_method_46_code)) = true := by decide +kernel
set_option maxRecDepth 100000 in
theorem dk_195 : (in_195.all (zdk prog_1_method_47_code)) = true := by decide +kernel
set_option maxRecDepth 100000 in
theorem dk_196 : (in_196.all (zdk prog_1_method_48_code)) = true := by decide +kernel
set_option maxRecDepth 100000 in
theorem dk_197 : (in_197.all (zdk prog_1_method_49_code)) = true := by decide +kernel
set_option maxRecDepth 100000 in
theorem dk_198 : (in_198.all (zdk prog_1_method_50_code)) = true := by decide +kernel
set_option maxRecDepth 100000 in
theorem dk_199 : (in_199.all (zdk prog_14_method_1_code)) = true := by decide +kernel
set_option maxRecDepth 100000 in
theorem dk_200 : (in_200.all (zdk prog_14_method_2_code)) = true := by decide +kernel
set_option maxRecDepth 100000 in
theorem dk_201 : (in_201.all (zdk prog_14_method_3_code)) = true := by decide +kernel
set_option maxRecDepth 100000 in
theorem dk_202 : (in_202.all (zdk prog_14_method_4_code)) = true := by decide +kernel
set_option maxRecDepth 100000 in
theorem dk_203 : (in_203.all (zdk prog_14_method_5_code)) = true := by decide +kernel
set_option maxRecDepth 100000 in
theorem dk_204 : (in_204.all (zdk prog_14_method_6_code)) = true := by decide +kernel
set_option maxRecDepth 100000 in
theorem dk_205 : (in_205.all (zdk prog_14_method_7_code)) = true := by decide +kernel
set_option maxRecDepth 100000 in
theorem dk_206 : (in_206.all (zdk prog_14_method_8_code)) = true := by decide +kernel
set_option maxRecDepth 100000 in
theorem dk_207 : (in_207.all (zdk prog_14_method_9_code)) = true := by decide +kernel
set_option maxRecDepth 100000 in
theorem dk_208 : (in_208.all (zdk prog_14_method_10_code)) = true := by decide +kernel
set_option maxRecDepth 100000 in
theorem dk_209 : (in_209.all (zdk prog_14_method_11_code)) = true := by decide +kernel
set_option maxRecDepth 100000 in
theorem dk_210 : (in_210.all (zdk prog_14_method_12_code)) = true := by decide +kernel
set_option maxRecDepth 100000 in
theorem dk_211 : (in_211.all (zdk prog_14_method_13_code)) = true := by decide +kernel
set_option maxRecDepth 100000 in
theorem dk_212 : (in_212.all (zdk prog_14_method_14_code)) = true := by decide +kernel
set_option maxRecDepth 100000 in
theorem dk_213 : (in_213.all (zdk prog_14_method_15_code)) = true := by decide +kernel
set_option maxRecDepth 100000 in
theorem dk_214 : (in_214.all (zdk prog_14_method_16_code)) = true := by decide +kernel
set_option maxRecDepth 100000 in
theorem dk_215 : (in_215.all (zdk prog_14_method_17_code)) = true := by decide +kernel
set_option maxRecDepth 100000 in
theorem dk_216 : (in_216.all (zdk prog_14_method_18_code)) = true := by decide +kernel
set_option maxRecDepth 100000 in
theorem dk_217 : (in_217.all (zdk prog_14_method_19_code)) = true := by decide +kernel
set_option maxRecDepth 100000 in
theorem dk_218 : (in_218.all (zdk prog_14_method_20_code)) = true := by decide +kernel
set_option maxRecDepth 100000 in
theorem dk_219 : (in_219.all (zdk prog_14_method_21_code)) = true := by decide +kernel
set_option maxRecDepth 100000 in
theorem dk_220 : (in_220.all (zdk prog_14_method_22_code)) = true := by decide +kernel
set_option maxRecDepth 100000 in
theorem dk_221 : (in_221.all (zdk prog_14_method_23_code)) = true := by decide +kernel
set_option maxRecDepth 100000 in
theorem dk_222 : (in_222.all (zdk prog_14_method_24_code)) = true := by decide +kernel
set_option maxRecDepth 100000 in
theorem dk_223 : (in_223.all (zdk prog_14_method_25_code)) = true := by decide +kernel
set_option maxRecDepth 100000 in
theorem dk_224 : (in_224.all (zdk prog_14_method_26_code)) = true := by decide +kernel
set_option maxRecDepth 100000 in
theorem dk_225 : (in_225.all (zdk prog_14_method_27_code)) = true := by decide +kernel
set_option maxRecDepth 100000 in
theorem dk_226 : (in_226.all (zdk prog_14_method_28_code)) = true := by decide +kernel
set_option maxRecDepth 100000 in
theorem dk_227 : (in_227.all (zdk prog_14_method_29_code)) = true := by decide +kernel
set_option maxRecDepth 100000 in
theorem dk_228 : (in_228.all (zdk prog_14_method_30_code)) = true := by decide +kernel
set_option maxRecDepth 100000 in
theorem dk_229 : (in_229.all (zdk prog_14_method_31_code)) = true := by decide +kernel
set_option maxRecDepth 100000 in
theorem dk_230 : (in_230.all (zdk prog_14_method_32_code)) = true := by decide +kernel
set_option maxRecDepth 100000 in
theorem dk_231 : (in_231.all (zdk prog_14_method_33_code)) = true := by decide +kernel
set_option maxRecDepth 100000 in
theorem dk_232 : (in_232.all (zdk prog_14_method_34_code)) = true := by decide +kernel
set_option maxRecDepth 100000 in
theorem dk_233 : (in_233.all (zdk prog_14_method_35_code)) = true := by decide +kernel
set_option maxRecDepth 100000 in
theorem dk_234 : (in_234.all (zdk prog_14_method_36_code)) = true := by decide +kernel
set_option maxRecDepth 100000 in
theorem dk_235 : (in_235.all (zdk prog_14_method_37_code)) = true := by decide +kernel
set_option maxRecDepth 100000 in
theorem dk_236 : (in_236.all (zdk prog_14_method_38_code)) = true := by decide +kernel
set_option maxRecDepth 100000 in
theorem dk_237 : (in_237.all (zdk prog_14_method_39_code)) = true := by decide +kernel
set_option maxRecDepth 100000 in
theorem dk_238 : (in_238.all (zdk prog_14_method_40_code)) = true := by decide +kernel
set_option maxRecDepth 100000 in
theorem dk_239 : (in_239.all (zdk prog_14_method_41_code)) = true := by decide +kernel
set_option maxRecDepth 100000 in
theorem dk_240 : (in_240.all (zdk prog_14_method_42_code)) = true := by decide +kernel
set_option maxRecDepth 100000 in
theorem dk_241 : (in_241.all (zdk prog_14_method_43_code)) = true := by decide +kernel
set_option maxRecDepth 100000 in
theorem dk_242 : (in_242.all (zdk prog_14_method_44_code)) = true := by decide +kernel
set_option maxRecDepth 100000 in
theorem dk_243 : (in_243.all (zdk prog_14_method_45_code)) = true := by decide +kernel
set_option maxRecDepth 100000 in
theorem dk_244 : (in_244.all (zdk prog_14_method_46_code)) = true := by decide +kernel
set_option maxRecDepth 100000 in
theorem dk_245 : (in_245.all (zdk prog_14_method_47_code)) = true := by decide +kernel
set_option maxRecDepth 100000 in
theorem dk_246 : (in_246.all (zdk prog_14_method_48_code)) = true := by decide +kernel
set_option maxRecDepth 100000 in
theorem dk_247 : (in_247.all (zdk prog_14_method_49_code)) = true := by decide +kernel
set_option maxRecDepth 100000 in
theorem dk_248 : (in_248.all (zdk prog_14_method_50_code)) = true := by decide +kernel
set_option maxRecDepth 100000 in
theorem dk_249 : (in_249.all (zdk prog_14_method_51_code)) = true := by decide +kernel
set_option maxRecDepth 100000 in
theorem dk_250 : (in_250.all (zdk prog_14_method_52_code)) = true := by decide +kernel
set_option maxRecDepth 100000 in
theorem dk_251 : (in_251.all (zdk prog_14_method_53_code)) = true := by decide +kernel
set_option maxRecDepth 100000 in
theorem dk_252 : (in_252.all (zdk prog_14_method_54_code)) = true := by decide +kernel
set_option maxRecDepth 100000 in
theorem dk_253 : (in_253.all (zdk prog_14_method_55_code)) = true := by decide +kernel
set_option maxRecDepth 100000 in
theorem dk_254 : (in_254.all (zdk prog_14_method_56_code)) = true := by decide +kernel
set_option maxRecDepth 100000 in
theorem dk_255 : (in_255.all (zdk prog_14_method_57_code)) = true := by decide +kernel
set_option maxRecDepth 100000 in
theorem dk_256 : (in_256.all (zdk prog_14_method_58_code)) = true := by decide +kernel
set_option maxRecDepth 100000 in
theorem dk_257 : (in_257.all (zdk prog_14_method_59_code)) = true := by decide +kernel
set_option maxRecDepth 100000 in
theorem dk_258 : (in_258.all (zdk prog_14_method_60_code)) = true := by decide +kernel
set_option maxRecDepth 100000 in
theorem dk_259 : (in_259.all (zdk prog_14_method_61_code)) = true := by decide +kernel
set_option maxRecDepth 100000 in
theorem dk_260 : (in_260.all (zdk prog_14_method_62_code)) = true := by decide +kernel
set_option maxRecDepth 100000 in
theorem dk_261 : (in_261.all (zdk prog_14_method_63_code)) = true := by decide +kernel
set_option maxRecDepth 100000 in
theorem dk_262 : (in_262.all (zdk prog_14_method_64_code)) = true := by decide +kernel
set_option maxRecDepth 100000 in
theorem dk_263 : (in_263.all (zdk prog_14_method_65_code)) = true := by decide +kernel
set_option maxRecDepth 100000 in
theorem dk_264 : (in_264.all (zdk prog_14_method_66_code)) = true := by decide +kernel
set_option maxRecDepth 100000 in
theorem dk_265 : (in_265.all (zdk prog_14_method_67_code)) = true := by decide +kernel
set_option maxRecDepth 100000 in
theorem dk_266 : (in_266.all (zdk prog_14_method_68_code)) = true := by decide +kernel
set_option maxRecDepth 100000 in
theorem dk_267 : (in_267.all (zdk prog_14_method_69_code)) = true := by decide +kernel
set_option maxRecDepth 100000 in
theorem dk_268 : (in_268.all (zdk prog_14_method_70_code)) = true := by decide +kernel
set_option maxRecDepth 100000 in
theorem dk_269 : (in_269.all (zdk prog_14_method_71_code)) = true := by decide +kernel
set_option maxRecDepth 100000 in
theorem dk_270 : (in_270.all (zdk prog_14_method_72_code)) = true := by decide +kernel
set_option maxRecDepth 100000 in
theorem dk_271 : (in_271.all (zdk prog_14_method_73_code)) = true := by decide +kernel
set_option maxRecDepth 100000 in
theorem dk_272 : (in_272.all (zdk prog_14_method_74_code)) = true := by decide +kernel
set_option maxRecDepth 100000 in
theorem dk_273 : (in_273.all (zdk prog_14_method_75_code)) = true := by decide +kernel
set_option maxRecDepth 100000 in
theorem dk_274 : (in_274.all (zdk prog_14_method_76_code)) = true := by decide +kernel
set_option maxRecDepth 100000 in
theorem dk_275 : (in_275.all (zdk prog_14_method_77_code)) = true := by decide +kernel
set_option maxRecDepth 100000 in
theorem dk_276 : (in_276.all (zdk prog_14_method_78_code)) = true := by decide +kernel
set_option maxRecDepth 100000 in
theorem dk_277 : (in_277.all (zdk prog_14_method_79_code)) = true := by decide +kernel
set_option maxRecDepth 100000 in
theorem dk_278 : (in_278.all (zdk prog_14_method_80_code)) = true := by decide +kernel
set_option maxRecDepth 100000 in
theorem dk_279 : (in_279.all (zdk prog_14_method_81_code)) = true := by decide +kernel
set_option maxRecDepth 100000 in
theorem dk_280 : (in_280.all (zdk prog_14_method_82_code)) = true := by decide +kernel
set_option maxRecDepth 100000 in
theorem dk_281 : (in_281.all (zdk prog_14_method_83_code)) = true := by decide +kernel
set_option maxRecDepth 100000 in
theorem dk_282 : (in_282.all (zdk prog_14_method_84_code)) = true := by decide +kernel
set_option maxRecDepth 100000 in
theorem dk_283 : (in_283.all (zdk prog_14_method_85_code)) = true := by decide +kernel
set_option maxRecDepth 100000 in
theorem dk_284 : (in_284.all (zdk prog_14_method_86_code)) = true := by decide +kernel
set_option maxRecDepth 100000 in
theorem dk_285 : (in_285.all (zdk prog_14_method_87_code)) = true := by decide +kernel
set_option maxRecDepth 100000 in
theorem dk_286 : (in_286.all (zdk prog_14_method_88_code)) = true := by decide +kernel
set_option maxRecDepth 100000 in
theorem dk_287 : (in_287.all (zdk prog_14_method_89_code)) = true := by decide +kernel
set_option maxRecDepth 100000 in
theorem dk_288 : (in_288.all (zdk prog_14_method_90_code)) = true := by decide +kernel
set_option maxRecDepth 100000 in
theorem dk_289 : (in_289.all (zdk prog_14_method_91_code)) = true := by decide +kernel
set_option maxRecDepth 100000 in
theorem dk_290 : (in_290.all (zdk prog_14_method_92_code)) = true := by decide +kernel
set_option maxRecDepth 100000 in
theorem dk_291 : (in_291.all (zdk prog_14_method_93_code)) = true := by decide +kernel
set_option maxRecDepth 100000 in
theorem dk_292 : (in_292.all (zdk prog_14_method_94_code)) = true := by decide +kernel
set_option maxRecDepth 100000 in
theorem dk_293 : (in_293.all (zdk prog_14_method_95_code)) = true := by decide +kernel
set_option maxRecDepth 100000 in
theorem dk_294 : (in_294.all (zdk prog_14_method_96_code)) = true := by decide +kernel
set_option maxRecDepth 100000 in
theorem dk_295 : (in_295.all (zdk prog_14_method_97_code)) = true := by decide +kernel
set_option maxRecDepth 100000 in
theorem dk_296 : (in_296.all (zdk prog_14_method_98_code)) = true := by decide +kernel
set_option maxRecDepth 100000 in
theorem dk_297 : (in_297.all (zdk prog_14_method_99_code)) = true := by decide +kernel
set_option maxRecDepth 100000 in
theorem dk_298 : (in_298.all (zdk prog_14_method_100_code)) = true := by decide +kernel
set_option maxRecDepth 100000 in
theorem dk_299 : (in_299.all (zdk prog_14_method_101_code)) = true := by decide +kernel
set_option maxRecDepth 100000 in
theorem dk_300 : (in_300.all (zdk prog_14_method_102_code)) = true := by decide +kernel
set_option maxRecDepth 100000 in
theorem dk_301 : (in_301.all (zdk prog_14_method_103_code)) = true := by decide +kernel
set_option maxRecDepth 100000 in
theorem dk_302 : (in_302.all (zdk prog_14_method_104_code)) = true := by decide +kernel
set_option maxRecDepth 100000 in
theorem dk_303 : (in_303.all (zdk prog_14_method_105_code)) = true := by decide +kernel
set_option maxRecDepth 100000 in
theorem dk_304 : (in_304.all (zdk prog_14_method_106_code)) = true := by decide +kernel
set_option maxRecDepth 100000 in
theorem dk_305 : (in_305.all (zdk prog_14_method_107_code)) = true := by decide +kernel
set_option maxRecDepth 100000 in
theorem dk_306 : (in_306.all (zdk prog_14_method_108_code)) = true := by decide +kernel
set_option maxRecDepth 100000 in
theorem dk_307 : (in_307.all (zdk prog_14_method_109_code)) = true := by decide +kernel
set_option maxRecDepth 100000 in
theorem dk_308 : (in_308.all (zdk prog_14_method_110_code)) = true := by decide +kernel
set_option maxRecDepth 100000 in
theorem dk_309 : (in_309.all (zdk prog_14_method_111_code)) = true := by decide +kernel
set_option maxRecDepth 100000 in
theorem dk_310 : (in_310.all (zdk prog_14_method_112_code)) = true := by decide +kernel
set_option maxRecDepth 100000 in
theorem dk_311 : (in_311.all (zdk prog_14_method_113_code)) = true := by decide +kernel
set_option maxRecDepth 100000 in
theorem dk_312 : (in_312.all (zdk prog_14_method_114_code)) = true := by decide +kernel
set_option maxRecDepth 100000 in
theorem dk_313 : (in_313.all (zdk prog_14_method_115_code)) = true := by decide +kernel
set_option maxRecDepth 100000 in
theorem dk_314 : (in_314.all (zdk prog_14_method_116_code)) = true := by decide +kernel
set_option maxRecDepth 100000 in
theorem dk_315 : (in_315.all (zdk prog_14_method_117_code)) = true := by decide +kernel
set_option maxRecDepth 100000 in
theorem dk_316 : (in_316.all (zdk prog_14_method_118_code)) = true := by decide +kernel
set_option maxRecDepth 100000 in
theorem dk_317 : (in_317.all (zdk prog_14_method_119_code)) = true := by decide +kernel
set_option maxRecDepth 100000 in
theorem dk_318 : (in_318.all (zdk prog_14_method_120_code)) = true := by decide +kernel
set_option maxRecDepth 100000 in
theorem dk_319 : (in_319.all (zdk prog_14_method_121_code)) = true := by decide +kernel
set_option maxRecDepth 100000 in
theorem dk_320 : (in_320.all (zdk prog_14_method_122_code)) = true := by decide +kernel
set_option maxRecDepth 100000 in
theorem dk_321 : (in_321.all (zdk prog_14_method_123_code)) = true := by decide +kernel
set_option maxRecDepth 100000 in
theorem dk_322 : (in_322.all (zdk prog_14_method_124_code)) = true := by decide +kernel
set_option maxRecDepth 100000 in
theorem dk_323_0 : (in_323_0.all (zdk code)) = true := by decide +kernel
set_option maxRecDepth 100000 in
theorem dk_323_1 : (in_323_1.all (zdk code)) = true := by decide +kernel
set_option maxRecDepth 100000 in
theorem dk_323_2 : (in_323_2.all (zdk code)) = true := by decide +kernel
set_option maxRecDepth 100000 in
theorem dk_323_3 : (in_323_3.all (zdk code)) = true := by decide +kernel
set_option maxRecDepth 100000 in
theorem dk_323_4 : (in_323_4.all (zdk code)) = true := by decide +kernel
set_option maxRecDepth 100000 in
theorem dk_323_5 : (in_323_5.all (zdk code)) = true := by decide +kernel
set_option maxRecDepth 100000 in
theorem dk_323_6 : (in_323_6.all (zdk code)) = true := by decide +kernel
set_option maxRecDepth 100000 in
theorem dk_323_7 : (in_323_7.all (zdk code)) = true := by decide +kernel
set_option maxRecDepth 100000 in
theorem dk_323_8 : (in_323_8.all (zdk code)) = true := by decide +kernel
set_option maxRecDepth 100000 in
theorem dk_323_9 : (in_323_9.all (zdk code)) = true := by decide +kernel
set_option maxRecDepth 100000 in
theorem dk_323_10 : (in_323_10.all (zdk code)) = true := by decide +kernel
set_option maxRecDepth 100000 in
theorem dk_323_11 : (in_323_11.all (zdk code)) = true := by decide +kernel
set_option maxRecDepth 100000 in
theorem dk_323_12 : (in_323_12.all (zdk code)) = true := by decide +kernel
set_option maxRecDepth 100000 in
theorem dk_323_13 : (in_323_13.all (zdk code)) = true := by decide +kernel
set_option maxRecDepth 100000 in
theorem dk_323_14 : (in_323_14.all (zdk code)) = true := by decide +kernel
set_option maxRecDepth 100000 in
theorem dk_323_15 : (in_323_15.all (zdk code)) = true := by decide +kernel
set_option maxRecDepth 100000 in
theorem dk_323_16 : (in_323_16.all (zdk code)) = true := by decide +kernel
set_option maxRecDepth 100000 in
theorem dk_323_17 : (in_323_17.all (zdk code)) = true := by decide +kernel
set_option maxRecDepth 100000 in
theorem dk_323_18 : (in_323_18.all (zdk code)) = true := by decide +kernel
set_option maxRecDepth 100000 in
theorem dk_323_19 : (in_323_19.all (zdk code)) = true := by decide +kernel
set_option maxRecDepth 100000 in
theorem dk_323_20 : (in_323_20.all (zdk code)) = true := by decide +kernel
set_option maxRecDepth 100000 in
theorem dk_323 : (in_323.all (zdk code)) = true := by
  unfold in_323
  simp only [List.all_append, dk_323_0, dk_323_1, dk_323_2, dk_323_3, dk_323_4, dk_323_5, dk_323_6, dk_323_7, dk_323_8, dk_323_9, dk_323_10, dk_323_11, dk_323_12, dk_323_13, dk_323_14, dk_323_15, dk_323_16, dk_323_17, dk_323_18, dk_323_19, dk_323_20, Bool.and_self]
set_option maxRecDepth 100000 in
theorem dk_324 : (in_324.all (zdk prog_21_method_103_code)) = true := by decide +kernel
set_option maxRecDepth 100000 in
theorem dk_325 : (in_325.all (zdk prog_15_method_49_code)) = true := by decide +kernel
