def zMths : List (Nat × Nat × Bool × List zIns) := [(0, 1, false, in_0), (0, 11, false, in_1), (0, 6, true, in_2), (0, 6, false, in_3), (0, 5, false, in_4), (0, 4, false, in_5),
  (0, 4, false, in_6), (0, 3, false, in_7), (0, 1, false, in_8), (0, 1, false, in_9), (0, 1, false, in_10), (1, 1, false, in_11),
  (1, 2, false, in_12), (1, 5, false, in_13), (1, 7, true, in_14), (1, 3, true, in_15), (1, 3, true, in_16), (1, 6, true, in_17),
  (1, 11, true, in_18), (1, 6, false, in_19), (1, 2, false, in_20), (1, 3, true, in_21), (1, 3, true, in_22), (1, 3, false, in_23),
  (1, 5, false, in_24), (1, 5, false, in_25), (1, 2, false, in_26), (1, 4, false, in_27), (1, 2, false, in_28), (1, 1, false, in_29),
  (1, 1, false, in_30), (1, 4, false, in_31), (1, 4, false, in_32), (2, 1, false, in_33), (2, 2, false, in_34), (2, 2, false, in_35),
  (2, 3, false, in_36), (2, 2, false, in_37), (2, 3, false, in_38), (2, 2, true, in_39), (2, 2, true, in_40), (2, 2, true, in_41),
  (2, 4, true, in_42), (2, 3, true, in_43), (2, 3, false, in_44), (2, 2, false, in_45), (2, 4, true, in_46), (2, 7, false, in_47),
  (2, 4, false, in_48), (2, 5, false, in_49), (2, 2, false, in_50), (2, 4, false, in_51), (3, 1, false, in_52), (3, 2, false, in_53),
  (3, 4, false, in_54), (3, 3, false, in_55), (4, 1, false, in_56), (4, 7, false, in_57), (4, 6, false, in_58), (4, 5, false, in_59),
  (4, 1, false, in_60), (4, 6, false, in_61), (4, 6, false, in_62), (4, 6, false, in_63), (4, 4, true, in_64), (4, 8, false, in_65),
  (4, 3, false, in_66), (4, 1, false, in_67), (4, 3, false, in_68), (4, 8, false, in_69), (4, 3, false, in_70), (4, 1, false, in_71),
  (4, 6, false, in_72), (4, 4, false, in_73), (5, 2, false, in_74), (5, 3, false, in_75), (5, 4, true, in_76), (5, 2, false, in_77),
  (5, 2, true, in_78), (5, 5, true, in_79), (5, 3, false, in_80), (5, 2, false, in_81), (5, 1, false, in_82), (5, 1, false, in_83),
  (5, 1, false, in_84), (5, 1, false, in_85), (5, 3, true, in_86), (5, 1, false, in_87), (5, 1, false, in_88), (5, 1, false, in_89),
  (5, 1, true, in_90), (5, 1, true, in_91), (6, 1, false, in_92), (6, 7, false, in_93), (6, 6, false, in_94), (6, 2, false, in_95),
  (6, 7, false, in_96), (6, 9, false, in_97), (6, 7, false, in_98), (6, 7, false, in_99), (6, 8, false, in_100), (6, 7, false, in_101),
  (6, 6, false, in_102), (6, 5, false, in_103), (6, 6, false, in_104), (6, 8, false, in_105), (6, 7, false, in_106), (6, 9, false, in_107),
  (6, 6, false, in_108), (6, 5, false, in_109), (6, 5, true, in_110), (6, 5, false, in_111), (6, 4, false, in_112), (6, 6, false, in_113),
  (6, 5, false, in_114), (6, 7, false, in_115), (6, 5, false, in_116), (6, 8, false, in_117), (6, 4, false, in_118), (6, 5, false, in_119),
  (6, 4, true, in_120), (6, 8, false, in_121), (6, 7, false, in_122), (7, 1, false, in_123), (7, 4, false, in_124), (7, 6, true, in_125),
  (7, 2, false, in_126), (7, 2, false, in_127), (7, 2, false, in_128), (7, 5, false, in_129), (7, 8, false, in_130), (7, 7, false, in_131),
  (7, 9, false, in_132), (7, 8, false, in_133), (8, 1, false, in_134), (8, 3, false, in_135), (8, 2, false, in_136), (9, 2, false, in_137),
  (9, 3, false, in_138), (9, 3, false, in_139), (9, 4, false, in_140), (9, 2, false, in_141), (9, 2, false, in_142), (9, 2, false, in_143),
  (10, 1, false, in_144), (10, 2, false, in_145), (10, 6, false, in_146), (10, 3, false, in_147), (10, 3, false, in_148), (11, 1, false, in_149),
  (11, 7, false, in_150), (11, 2, false, in_151), (11, 4, false, in_152), (11, 2, false, in_153), (11, 4, false, in_154), (11, 8, false, in_155),
  (11, 5, false, in_156), (11, 5, false, in_157), (11, 7, false, in_158), (11, 8, false, in_159), (11, 6, false, in_160), (11, 6, false, in_161),
  (11, 5, false, in_162), (11, 3, false, in_163), (11, 5, false, in_164), (11, 7, false, in_165), (11, 5, false, in_166), (11, 6, false, in_167),
  (11, 13, false, in_168), (11, 6, false, in_169), (11, 7, false, in_170), (11, 7, false, in_171), (11, 5, false, in_172), (11, 6, false, in_173),
  (11, 6, false, in_174), (11, 6, false, in_175), (11, 6, false, in_176), (11, 4, false, in_177), (11, 5, false, in_178), (11, 5, false, in_179),
  (11, 6, false, in_180), (11, 6, false, in_181), (11, 10, false, in_182), (11, 5, false, in_183), (11, 4, false, in_184), (11, 6, false, in_185),
  (11, 2, false, in_186), (11, 2, true, in_187), (11, 2, true, in_188), (11, 5, false, in_189), (11, 1, true, in_190), (11, 1, true, in_191),
  (11, 2, true, in_192), (11, 2, false, in_193), (11, 1, false, in_194), (11, 2, true, in_195), (11, 6, false, in_196), (11, 5, false, in_197),
  (11, 12, false, in_198), (12, 1, false, in_199), (12, 3, true, in_200), (12, 8, false, in_201), (12, 2, false, in_202), (12, 2, false, in_203),
  (12, 1, true, in_204), (12, 1, true, in_205), (12, 4, false, in_206), (12, 8, false, in_207), (12, 2, false, in_208), (12, 4, false, in_209),
  (12, 1, false, in_210), (12, 3, false, in_211), (12, 4, false, in_212), (12, 4, false, in_213), (12, 1, false, in_214), (12, 2, true, in_215),
  (12, 6, false, in_216), (12, 10, false, in_217), (12, 4, false, in_218), (12, 10, false, in_219), (12, 7, false, in_220), (12, 2, false, in_221),
  (12, 1, false, in_222), (12, 3, true, in_223), (12, 5, false, in_224), (12, 2, false, in_225), (12, 2, true, in_226), (12, 2, true, in_227),
  (12, 2, true, in_228), (12, 2, true, in_229), (12, 2, false, in_230), (12, 2, false, in_231), (12, 2, false, in_232), (12, 2, false, in_233),
  (12, 2, false, in_234), (12, 4, false, in_235), (12, 2, false, in_236), (12, 3, false, in_237), (12, 2, false, in_238), (12, 3, false, in_239),
  (12, 5, true, in_240), (12, 6, false, in_241), (12, 5, false, in_242), (12, 7, false, in_243), (12, 10, false, in_244), (12, 5, false, in_245),
  (12, 6, false, in_246), (12, 3, true, in_247), (12, 9, false, in_248), (12, 3, false, in_249), (12, 8, false, in_250), (12, 5, false, in_251),
  (12, 8, false, in_252), (12, 6, false, in_253), (12, 7, false, in_254), (12, 7, false, in_255), (12, 3, false, in_256), (12, 6, false, in_257),
  (12, 7, false, in_258), (12, 6, false, in_259), (12, 5, true, in_260), (12, 8, false, in_261), (12, 9, false, in_262), (12, 6, true, in_263),
  (12, 6, false, in_264), (12, 7, true, in_265), (12, 6, true, in_266), (12, 6, false, in_267), (12, 4, false, in_268), (12, 4, false, in_269),
  (12, 8, false, in_270), (12, 3, true, in_271), (12, 8, false, in_272), (12, 6, true, in_273), (12, 4, false, in_274), (12, 6, false, in_275),
  (12, 5, false, in_276), (12, 4, false, in_277), (12, 4, true, in_278), (12, 5, true, in_279), (12, 6, false, in_280), (12, 7, false, in_281),
  (12, 7, false, in_282), (12, 6, false, in_283), (12, 7, false, in_284), (12, 6, false, in_285), (12, 2, true, in_286), (12, 4, false, in_287),
  (12, 2, false, in_288), (12, 2, true, in_289), (12, 2, true, in_290), (12, 5, false, in_291), (12, 5, true, in_292), (12, 8, true, in_293),
  (12, 3, true, in_294), (12, 2, true, in_295), (12, 7, true, in_296), (12, 3, true, in_297), (12, 2, false, in_298), (12, 3, false, in_299),
  (12, 4, false, in_300), (12, 7, false, in_301), (12, 3, false, in_302), (12, 5, false, in_303), (12, 2, true, in_304), (12, 4, false, in_305),
  (12, 5, false, in_306), (12, 5, true, in_307), (12, 3, true, in_308), (12, 6, false, in_309), (12, 6, false, in_310), (12, 3, false, in_311),
  (12, 8, false, in_312), (12, 10, false, in_313), (12, 6, false, in_314), (12, 12, false, in_315), (12, 14, false, in_316), (12, 2, false, in_317),
  (12, 4, false, in_318), (12, 6, false, in_319), (12, 2, false, in_320), (12, 3, true, in_321), (12, 3, true, in_322), (13, 4, true, in_323),
  (14, 4, false, in_324), (15, 1, false, in_325)]
def zP (M i : Nat) : Option zSem := match zMths[M]? with
  | some q => match q.2.2.2[i]? with
    | some ins => zsem zTb (zlk ((zPls[q.1]?).getD [])) (ztg q.2.2.2 ins.1) q.2.2.1 ins.2.1
    | none => none
  | none => none
def zNL (M : Nat) : Nat := match zMths[M]? with
  | some q => q.2.1
  | none => 0
theorem zP_C : ∀ M i s, zP M i = some s → zC s := by
  intro M i s h
  unfold zP at h
  split at h
  · split at h
    · exact zC_sem h
    · cases h
  · cases h
noncomputable def zr (M i : Nat) (ls : zLoc) (st : zStk) (h : zHeap) : Option zRes := zrG zP zNL M i ls st h
noncomputable def zc (m : Nat) (as : List zVal) (h : zHeap) : Option zRes := zr m 0 (zen (zNL m) as) [] h
noncomputable def zv (C m : Nat) (as : List zVal) (h : zHeap) : Option zRes := zok (some C) as h (zc m as h)
def zst : List Nat → Nat → Bool
  | [], _ => false
  | a :: r, i => match Nat.beq a i with
    | true => true
    | false => zst r i
theorem zcd {M own nL : Nat} {rz : Bool} {ins : List zIns} {pl : List (Nat × zPE)} {cd : List zSem} (hM : zMths[M]? = some (own, nL, rz, ins)) (hp : zPls[own]? = some pl) (hc : ins.map (fun q => zsem zTb (zlk pl) (ztg ins q.1) rz q.2.1) = cd.map some) (i : Nat) : zP M i = cd[i]? := by
  unfold zP
  rw [hM]
  have h1 : (ins.map (fun q => zsem zTb (zlk pl) (ztg ins q.1) rz q.2.1))[i]? = (cd.map some)[i]? := by rw [hc]
  simp only [List.getElem?_map] at h1
  dsimp only
  rw [hp]
  cases hi : ins[i]? with
  | none =>
    rw [hi] at h1
    cases hc : cd[i]? with
    | none => rfl
    | some s => rw [hc] at h1; cases h1
  | some q =>
    rw [hi] at h1
    cases hc : cd[i]? with
    | none => rw [hc] at h1; cases h1
    | some s =>
      rw [hc] at h1
      exact Option.some.inj h1
theorem zU' {M : Nat} {cd : List zSem} (hcd : ∀ i, zP M i = cd[i]?) (stop : Nat → Bool) (n i : Nat) (ls : zLoc) (st : zStk) (h : zHeap) : zr M i ls st h = zU cd (zr M) zc stop n i ls st h := zU_eq zP_C hcd stop n i ls st h
theorem U_0 (stop : Nat → Bool) (n i : Nat) (ls : zLoc) (st : zStk) (h : zHeap) : zr 0 i ls st h = zU cd_0 (zr 0) zc stop n i ls st h := zU' (zcd (M := 0) (own := 0) rfl rfl ck_0) stop n i ls st h
theorem nl_0 (as : List zVal) (h : zHeap) : zc 0 as h = zr 0 0 (zen 1 as) [] h := rfl
theorem U_1 (stop : Nat → Bool) (n i : Nat) (ls : zLoc) (st : zStk) (h : zHeap) : zr 1 i ls st h = zU cd_1 (zr 1) zc stop n i ls st h := zU' (zcd (M := 1) (own := 0) rfl rfl ck_1) stop n i ls st h
theorem nl_1 (as : List zVal) (h : zHeap) : zc 1 as h = zr 1 0 (zen 11 as) [] h := rfl
theorem U_2 (stop : Nat → Bool) (n i : Nat) (ls : zLoc) (st : zStk) (h : zHeap) : zr 2 i ls st h = zU cd_2 (zr 2) zc stop n i ls st h := zU' (zcd (M := 2) (own := 0) rfl rfl ck_2) stop n i ls st h
theorem nl_2 (as : List zVal) (h : zHeap) : zc 2 as h = zr 2 0 (zen 6 as) [] h := rfl
theorem U_3 (stop : Nat → Bool) (n i : Nat) (ls : zLoc) (st : zStk) (h : zHeap) : zr 3 i ls st h = zU cd_3 (zr 3) zc stop n i ls st h := zU' (zcd (M := 3) (own := 0) rfl rfl ck_3) stop n i ls st h
theorem nl_3 (as : List zVal) (h : zHeap) : zc 3 as h = zr 3 0 (zen 6 as) [] h := rfl
theorem U_4 (stop : Nat → Bool) (n i : Nat) (ls : zLoc) (st : zStk) (h : zHeap) : zr 4 i ls st h = zU cd_4 (zr 4) zc stop n i ls st h := zU' (zcd (M := 4) (own := 0) rfl rfl ck_4) stop n i ls st h
theorem nl_4 (as : List zVal) (h : zHeap) : zc 4 as h = zr 4 0 (zen 5 as) [] h := rfl
theorem U_5 (stop : Nat → Bool) (n i : Nat) (ls : zLoc) (st : zStk) (h : zHeap) : zr 5 i ls st h = zU cd_5 (zr 5) zc stop n i ls st h := zU' (zcd (M := 5) (own := 0) rfl rfl ck_5) stop n i ls st h
theorem nl_5 (as : List zVal) (h : zHeap) : zc 5 as h = zr 5 0 (zen 4 as) [] h := rfl
theorem U_6 (stop : Nat → Bool) (n i : Nat) (ls : zLoc) (st : zStk) (h : zHeap) : zr 6 i ls st h = zU cd_6 (zr 6) zc stop n i ls st h := zU' (zcd (M := 6) (own := 0) rfl rfl ck_6) stop n i ls st h
theorem nl_6 (as : List zVal) (h : zHeap) : zc 6 as h = zr 6 0 (zen 4 as) [] h := rfl
theorem U_7 (stop : Nat → Bool) (n i : Nat) (ls : zLoc) (st : zStk) (h : zHeap) : zr 7 i ls st h = zU cd_7 (zr 7) zc stop n i ls st h := zU' (zcd (M := 7) (own := 0) rfl rfl ck_7) stop n i ls st h
theorem nl_7 (as : List zVal) (h : zHeap) : zc 7 as h = zr 7 0 (zen 3 as) [] h := rfl
theorem U_8 (stop : Nat → Bool) (n i : Nat) (ls : zLoc) (st : zStk) (h : zHeap) : zr 8 i ls st h = zU cd_8 (zr 8) zc stop n i ls st h := zU' (zcd (M := 8) (own := 0) rfl rfl ck_8) stop n i ls st h
theorem nl_8 (as : List zVal) (h : zHeap) : zc 8 as h = zr 8 0 (zen 1 as) [] h := rfl
theorem U_9 (stop : Nat → Bool) (n i : Nat) (ls : zLoc) (st : zStk) (h : zHeap) : zr 9 i ls st h = zU cd_9 (zr 9) zc stop n i ls st h := zU' (zcd (M := 9) (own := 0) rfl rfl ck_9) stop n i ls st h
theorem nl_9 (as : List zVal) (h : zHeap) : zc 9 as h = zr 9 0 (zen 1 as) [] h := rfl
theorem U_10 (stop : Nat → Bool) (n i : Nat) (ls : zLoc) (st : zStk) (h : zHeap) : zr 10 i ls st h = zU cd_10 (zr 10) zc stop n i ls st h := zU' (zcd (M := 10) (own := 0) rfl rfl ck_10) stop n i ls st h
theorem nl_10 (as : List zVal) (h : zHeap) : zc 10 as h = zr 10 0 (zen 1 as) [] h := rfl
theorem U_11 (stop : Nat → Bool) (n i : Nat) (ls : zLoc) (st : zStk) (h : zHeap) : zr 11 i ls st h = zU cd_11 (zr 11) zc stop n i ls st h := zU' (zcd (M := 11) (own := 1) rfl rfl ck_11) stop n i ls st h
theorem nl_11 (as : List zVal) (h : zHeap) : zc 11 as h = zr 11 0 (zen 1 as) [] h := rfl
theorem U_12 (stop : Nat → Bool) (n i : Nat) (ls : zLoc) (st : zStk) (h : zHeap) : zr 12 i ls st h = zU cd_12 (zr 12) zc stop n i ls st h := zU' (zcd (M := 12) (own := 1) rfl rfl ck_12) stop n i ls st h
theorem nl_12 (as : List zVal) (h : zHeap) : zc 12 as h = zr 12 0 (zen 2 as) [] h := rfl
theorem U_13 (stop : Nat → Bool) (n i : Nat) (ls : zLoc) (st : zStk) (h : zHeap) : zr 13 i ls st h = zU cd_13 (zr 13) zc stop n i ls st h := zU' (zcd (M := 13) (own := 1) rfl rfl ck_13) stop n i ls st h
theorem nl_13 (as : List zVal) (h : zHeap) : zc 13 as h = zr 13 0 (zen 5 as) [] h := rfl
theorem U_14 (stop : Nat → Bool) (n i : Nat) (ls : zLoc) (st : zStk) (h : zHeap) : zr 14 i ls st h = zU cd_14 (zr 14) zc stop n i ls st h := zU' (zcd (M := 14) (own := 1) rfl rfl ck_14) stop n i ls st h
theorem nl_14 (as : List zVal) (h : zHeap) : zc 14 as h = zr 14 0 (zen 7 as) [] h := rfl
theorem U_15 (stop : Nat → Bool) (n i : Nat) (ls : zLoc) (st : zStk) (h : zHeap) : zr 15 i ls st h = zU cd_15 (zr 15) zc stop n i ls st h := zU' (zcd (M := 15) (own := 1) rfl rfl ck_15) stop n i ls st h
theorem nl_15 (as : List zVal) (h : zHeap) : zc 15 as h = zr 15 0 (zen 3 as) [] h := rfl
theorem U_16 (stop : Nat → Bool) (n i : Nat) (ls : zLoc) (st : zStk) (h : zHeap) : zr 16 i ls st h = zU cd_16 (zr 16) zc stop n i ls st h := zU' (zcd (M := 16) (own := 1) rfl rfl ck_16) stop n i ls st h
theorem nl_16 (as : List zVal) (h : zHeap) : zc 16 as h = zr 16 0 (zen 3 as) [] h := rfl
theorem U_17 (stop : Nat → Bool) (n i : Nat) (ls : zLoc) (st : zStk) (h : zHeap) : zr 17 i ls st h = zU cd_17 (zr 17) zc stop n i ls st h := zU' (zcd (M := 17) (own := 1) rfl rfl ck_17) stop n i ls st h
theorem nl_17 (as : List zVal) (h : zHeap) : zc 17 as h = zr 17 0 (zen 6 as) [] h := rfl
theorem U_18 (stop : Nat → Bool) (n i : Nat) (ls : zLoc) (st : zStk) (h : zHeap) : zr 18 i ls st h = zU cd_18 (zr 18) zc stop n i ls st h := zU' (zcd (M := 18) (own := 1) rfl rfl ck_18) stop n i ls st h
theorem nl_18 (as : List zVal) (h : zHeap) : zc 18 as h = zr 18 0 (zen 11 as) [] h := rfl
theorem U_19 (stop : Nat → Bool) (n i : Nat) (ls : zLoc) (st : zStk) (h : zHeap) : zr 19 i ls st h = zU cd_19 (zr 19) zc stop n i ls st h := zU' (zcd (M := 19) (own := 1) rfl rfl ck_19) stop n i ls st h
theorem nl_19 (as : List zVal) (h : zHeap) : zc 19 as h = zr 19 0 (zen 6 as) [] h := rfl
theorem U_20 (stop : Nat → Bool) (n i : Nat) (ls : zLoc) (st : zStk) (h : zHeap) : zr 20 i ls st h = zU cd_20 (zr 20) zc stop n i ls st h := zU' (zcd (M := 20) (own := 1) rfl rfl ck_20) stop n i ls st h
theorem nl_20 (as : List zVal) (h : zHeap) : zc 20 as h = zr 20 0 (zen 2 as) [] h := rfl
theorem U_21 (stop : Nat → Bool) (n i : Nat) (ls : zLoc) (st : zStk) (h : zHeap) : zr 21 i ls st h = zU cd_21 (zr 21) zc stop n i ls st h := zU' (zcd (M := 21) (own := 1) rfl rfl ck_21) stop n i ls st h
theorem nl_21 (as : List zVal) (h : zHeap) : zc 21 as h = zr 21 0 (zen 3 as) [] h := rfl
theorem U_22 (stop : Nat → Bool) (n i : Nat) (ls : zLoc) (st : zStk) (h : zHeap) : zr 22 i ls st h = zU cd_22 (zr 22) zc stop n i ls st h := zU' (zcd (M := 22) (own := 1) rfl rfl ck_22) stop n i ls st h
theorem nl_22 (as : List zVal) (h : zHeap) : zc 22 as h = zr 22 0 (zen 3 as) [] h := rfl
theorem U_23 (stop : Nat → Bool) (n i : Nat) (ls : zLoc) (st : zStk) (h : zHeap) : zr 23 i ls st h = zU cd_23 (zr 23) zc stop n i ls st h := zU' (zcd (M := 23) (own := 1) rfl rfl ck_23) stop n i ls st h
theorem nl_23 (as : List zVal) (h : zHeap) : zc 23 as h = zr 23 0 (zen 3 as) [] h := rfl
theorem U_24 (stop : Nat → Bool) (n i : Nat) (ls : zLoc) (st : zStk) (h : zHeap) : zr 24 i ls st h = zU cd_24 (zr 24) zc stop n i ls st h := zU' (zcd (M := 24) (own := 1) rfl rfl ck_24) stop n i ls st h
theorem nl_24 (as : List zVal) (h : zHeap) : zc 24 as h = zr 24 0 (zen 5 as) [] h := rfl
theorem U_25 (stop : Nat → Bool) (n i : Nat) (ls : zLoc) (st : zStk) (h : zHeap) : zr 25 i ls st h = zU cd_25 (zr 25) zc stop n i ls st h := zU' (zcd (M := 25) (own := 1) rfl rfl ck_25) stop n i ls st h
theorem nl_25 (as : List zVal) (h : zHeap) : zc 25 as h = zr 25 0 (zen 5 as) [] h := rfl
theorem U_26 (stop : Nat → Bool) (n i : Nat) (ls : zLoc) (st : zStk) (h : zHeap) : zr 26 i ls st h = zU cd_26 (zr 26) zc stop n i ls st h := zU' (zcd (M := 26) (own := 1) rfl rfl ck_26) stop n i ls st h
theorem nl_26 (as : List zVal) (h : zHeap) : zc 26 as h = zr 26 0 (zen 2 as) [] h := rfl
theorem U_27 (stop : Nat → Bool) (n i : Nat) (ls : zLoc) (st : zStk) (h : zHeap) : zr 27 i ls st h = zU cd_27 (zr 27) zc stop n i ls st h := zU' (zcd (M := 27) (own := 1) rfl rfl ck_27) stop n i ls st h
theorem nl_27 (as : List zVal) (h : zHeap) : zc 27 as h = zr 27 0 (zen 4 as) [] h := rfl
theorem U_28 (stop : Nat → Bool) (n i : Nat) (ls : zLoc) (st : zStk) (h : zHeap) : zr 28 i ls st h = zU cd_28 (zr 28) zc stop n i ls st h := zU' (zcd (M := 28) (own := 1) rfl rfl ck_28) stop n i ls st h
theorem nl_28 (as : List zVal) (h : zHeap) : zc 28 as h = zr 28 0 (zen 2 as) [] h := rfl
theorem U_29 (stop : Nat → Bool) (n i : Nat) (ls : zLoc) (st : zStk) (h : zHeap) : zr 29 i ls st h = zU cd_29 (zr 29) zc stop n i ls st h := zU' (zcd (M := 29) (own := 1) rfl rfl ck_29) stop n i ls st h
theorem nl_29 (as : List zVal) (h : zHeap) : zc 29 as h = zr 29 0 (zen 1 as) [] h := rfl
theorem U_30 (stop : Nat → Bool) (n i : Nat) (ls : zLoc) (st : zStk) (h : zHeap) : zr 30 i ls st h = zU cd_30 (zr 30) zc stop n i ls st h := zU' (zcd (M := 30) (own := 1) rfl rfl ck_30) stop n i ls st h
theorem nl_30 (as : List zVal) (h : zHeap) : zc 30 as h = zr 30 0 (zen 1 as) [] h := rfl
theorem U_31 (stop : Nat → Bool) (n i : Nat) (ls : zLoc) (st : zStk) (h : zHeap) : zr 31 i ls st h = zU cd_31 (zr 31) zc stop n i ls st h := zU' (zcd (M := 31) (own := 1) rfl rfl ck_31) stop n i ls st h
theorem nl_31 (as : List zVal) (h : zHeap) : zc 31 as h = zr 31 0 (zen 4 as) [] h := rfl
theorem U_32 (stop : Nat → Bool) (n i : Nat) (ls : zLoc) (st : zStk) (h : zHeap) : zr 32 i ls st h = zU cd_32 (zr 32) zc stop n i ls st h := zU' (zcd (M := 32) (own := 1) rfl rfl ck_32) stop n i ls st h
theorem nl_32 (as : List zVal) (h : zHeap) : zc 32 as h = zr 32 0 (zen 4 as) [] h := rfl
theorem U_33 (stop : Nat → Bool) (n i : Nat) (ls : zLoc) (st : zStk) (h : zHeap) : zr 33 i ls st h = zU cd_33 (zr 33) zc stop n i ls st h := zU' (zcd (M := 33) (own := 2) rfl rfl ck_33) stop n i ls st h
theorem nl_33 (as : List zVal) (h : zHeap) : zc 33 as h = zr 33 0 (zen 1 as) [] h := rfl
theorem U_34 (stop : Nat → Bool) (n i : Nat) (ls : zLoc) (st : zStk) (h : zHeap) : zr 34 i ls st h = zU cd_34 (zr 34) zc stop n i ls st h := zU' (zcd (M := 34) (own := 2) rfl rfl ck_34) stop n i ls st h
theorem nl_34 (as : List zVal) (h : zHeap) : zc 34 as h = zr 34 0 (zen 2 as) [] h := rfl
theorem U_35 (stop : Nat → Bool) (n i : Nat) (ls : zLoc) (st : zStk) (h : zHeap) : zr 35 i ls st h = zU cd_35 (zr 35) zc stop n i ls st h := zU' (zcd (M := 35) (own := 2) rfl rfl ck_35) stop n i ls st h
theorem nl_35 (as : List zVal) (h : zHeap) : zc 35 as h = zr 35 0 (zen 2 as) [] h := rfl
theorem U_36 (stop : Nat → Bool) (n i : Nat) (ls : zLoc) (st : zStk) (h : zHeap) : zr 36 i ls st h = zU cd_36 (zr 36) zc stop n i ls st h := zU' (zcd (M := 36) (own := 2) rfl rfl ck_36) stop n i ls st h
theorem nl_36 (as : List zVal) (h : zHeap) : zc 36 as h = zr 36 0 (zen 3 as) [] h := rfl
theorem U_37 (stop : Nat → Bool) (n i : Nat) (ls : zLoc) (st : zStk) (h : zHeap) : zr 37 i ls st h = zU cd_37 (zr 37) zc stop n i ls st h := zU' (zcd (M := 37) (own := 2) rfl rfl ck_37) stop n i ls st h
theorem nl_37 (as : List zVal) (h : zHeap) : zc 37 as h = zr 37 0 (zen 2 as) [] h := rfl
theorem U_38 (stop : Nat → Bool) (n i : Nat) (ls : zLoc) (st : zStk) (h : zHeap) : zr 38 i ls st h = zU cd_38 (zr 38) zc stop n i ls st h := zU' (zcd (M := 38) (own := 2) rfl rfl ck_38) stop n i ls st h
theorem nl_38 (as : List zVal) (h : zHeap) : zc 38 as h = zr 38 0 (zen 3 as) [] h := rfl
theorem U_39 (stop : Nat → Bool) (n i : Nat) (ls : zLoc) (st : zStk) (h : zHeap) : zr 39 i ls st h = zU cd_39 (zr 39) zc stop n i ls st h := zU' (zcd (M := 39) (own := 2) rfl rfl ck_39) stop n i ls st h
theorem nl_39 (as : List zVal) (h : zHeap) : zc 39 as h = zr 39 0 (zen 2 as) [] h := rfl
theorem U_40 (stop : Nat → Bool) (n i : Nat) (ls : zLoc) (st : zStk) (h : zHeap) : zr 40 i ls st h = zU cd_40 (zr 40) zc stop n i ls st h := zU' (zcd (M := 40) (own := 2) rfl rfl ck_40) stop n i ls st h
theorem nl_40 (as : List zVal) (h : zHeap) : zc 40 as h = zr 40 0 (zen 2 as) [] h := rfl
theorem U_41 (stop : Nat → Bool) (n i : Nat) (ls : zLoc) (st : zStk) (h : zHeap) : zr 41 i ls st h = zU cd_41 (zr 41) zc stop n i ls st h := zU' (zcd (M := 41) (own := 2) rfl rfl ck_41) stop n i ls st h
theorem nl_41 (as : List zVal) (h : zHeap) : zc 41 as h = zr 41 0 (zen 2 as) [] h := rfl
theorem U_42 (stop : Nat → Bool) (n i : Nat) (ls : zLoc) (st : zStk) (h : zHeap) : zr 42 i ls st h = zU cd_42 (zr 42) zc stop n i ls st h := zU' (zcd (M := 42) (own := 2) rfl rfl ck_42) stop n i ls st h
theorem nl_42 (as : List zVal) (h : zHeap) : zc 42 as h = zr 42 0 (zen 4 as) [] h := rfl
theorem U_43 (stop : Nat → Bool) (n i : Nat) (ls : zLoc) (st : zStk) (h : zHeap) : zr 43 i ls st h = zU cd_43 (zr 43) zc stop n i ls st h := zU' (zcd (M := 43) (own := 2) rfl rfl ck_43) stop n i ls st h
theorem nl_43 (as : List zVal) (h : zHeap) : zc 43 as h = zr 43 0 (zen 3 as) [] h := rfl
theorem U_44 (stop : Nat → Bool) (n i : Nat) (ls : zLoc) (st : zStk) (h : zHeap) : zr 44 i ls st h = zU cd_44 (zr 44) zc stop n i ls st h := zU' (zcd (M := 44) (own := 2) rfl rfl ck_44) stop n i ls st h
theorem nl_44 (as : List zVal) (h : zHeap) : zc 44 as h = zr 44 0 (zen 3 as) [] h := rfl
theorem U_45 (stop : Nat → Bool) (n i : Nat) (ls : zLoc) (st : zStk) (h : zHeap) : zr 45 i ls st h = zU cd_45 (zr 45) zc stop n i ls st h := zU' (zcd (M := 45) (own := 2) rfl rfl ck_45) stop n i ls st h
theorem nl_45 (as : List zVal) (h : zHeap) : zc 45 as h = zr 45 0 (zen 2 as) [] h := rfl
theorem U_46 (stop : Nat → Bool) (n i : Nat) (ls : zLoc) (st : zStk) (h : zHeap) : zr 46 i ls st h = zU cd_46 (zr 46) zc stop n i ls st h := zU' (zcd (M := 46) (own := 2) rfl rfl ck_46) stop n i ls st h
theorem nl_46 (as : List zVal) (h : zHeap) : zc 46 as h = zr 46 0 (zen 4 as) [] h := rfl
theorem U_47 (stop : Nat → Bool) (n i : Nat) (ls : zLoc) (st : zStk) (h : zHeap) : zr 47 i ls st h = zU cd_47 (zr 47) zc stop n i ls st h := zU' (zcd (M := 47) (own := 2) rfl rfl ck_47) stop n i ls st h
theorem nl_47 (as : List zVal) (h : zHeap) : zc 47 as h = zr 47 0 (zen 7 as) [] h := rfl
theorem U_48 (stop : Nat → Bool) (n i : Nat) (ls : zLoc) (st : zStk) (h : zHeap) : zr 48 i ls st h = zU cd_48 (zr 48) zc stop n i ls st h := zU' (zcd (M := 48) (own := 2) rfl rfl ck_48) stop n i ls st h
theorem nl_48 (as : List zVal) (h : zHeap) : zc 48 as h = zr 48 0 (zen 4 as) [] h := rfl
theorem U_49 (stop : Nat → Bool) (n i : Nat) (ls : zLoc) (st : zStk) (h : zHeap) : zr 49 i ls st h = zU cd_49 (zr 49) zc stop n i ls st h := zU' (zcd (M := 49) (own := 2) rfl rfl ck_49) stop n i ls st h
theorem nl_49 (as : List zVal) (h : zHeap) : zc 49 as h = zr 49 0 (zen 5 as) [] h := rfl
theorem U_50 (stop : Nat → Bool) (n i : Nat) (ls : zLoc) (st : zStk) (h : zHeap) : zr 50 i ls st h = zU cd_50 (zr 50) zc stop n i ls st h := zU' (zcd (M := 50) (own := 2) rfl rfl ck_50) stop n i ls st h
theorem nl_50 (as : List zVal) (h : zHeap) : zc 50 as h = zr 50 0 (zen 2 as) [] h := rfl
theorem U_51 (stop : Nat → Bool) (n i : Nat) (ls : zLoc) (st : zStk) (h : zHeap) : zr 51 i ls st h = zU cd_51 (zr 51) zc stop n i ls st h := zU' (zcd (M := 51) (own := 2) rfl rfl ck_51) stop n i ls st h
theorem nl_51 (as : List zVal) (h : zHeap) : zc 51 as h = zr 51 0 (zen 4 as) [] h := rfl
theorem U_52 (stop : Nat → Bool) (n i : Nat) (ls : zLoc) (st : zStk) (h : zHeap) : zr 52 i ls st h = zU cd_52 (zr 52) zc stop n i ls st h := zU' (zcd (M := 52) (own := 3) rfl rfl ck_52) stop n i ls st h
theorem nl_52 (as : List zVal) (h : zHeap) : zc 52 as h = zr 52 0 (zen 1 as) [] h := rfl
theorem U_53 (stop : Nat → Bool) (n i : Nat) (ls : zLoc) (st : zStk) (h : zHeap) : zr 53 i ls st h = zU cd_53 (zr 53) zc stop n i ls st h := zU' (zcd (M := 53) (own := 3) rfl rfl ck_53) stop n i ls st h
theorem nl_53 (as : List zVal) (h : zHeap) : zc 53 as h = zr 53 0 (zen 2 as) [] h := rfl
theorem U_54 (stop : Nat → Bool) (n i : Nat) (ls : zLoc) (st : zStk) (h : zHeap) : zr 54 i ls st h = zU cd_54 (zr 54) zc stop n i ls st h := zU' (zcd (M := 54) (own := 3) rfl rfl ck_54) stop n i ls st h
theorem nl_54 (as : List zVal) (h : zHeap) : zc 54 as h = zr 54 0 (zen 4 as) [] h := rfl
theorem U_55 (stop : Nat → Bool) (n i : Nat) (ls : zLoc) (st : zStk) (h : zHeap) : zr 55 i ls st h = zU cd_55 (zr 55) zc stop n i ls st h := zU' (zcd (M := 55) (own := 3) rfl rfl ck_55) stop n i ls st h
theorem nl_55 (as : List zVal) (h : zHeap) : zc 55 as h = zr 55 0 (zen 3 as) [] h := rfl
theorem U_56 (stop : Nat → Bool) (n i : Nat) (ls : zLoc) (st : zStk) (h : zHeap) : zr 56 i ls st h = zU cd_56 (zr 56) zc stop n i ls st h := zU' (zcd (M := 56) (own := 4) rfl rfl ck_56) stop n i ls st h
theorem nl_56 (as : List zVal) (h : zHeap) : zc 56 as h = zr 56 0 (zen 1 as) [] h := rfl
theorem U_57 (stop : Nat → Bool) (n i : Nat) (ls : zLoc) (st : zStk) (h : zHeap) : zr 57 i ls st h = zU cd_57 (zr 57) zc stop n i ls st h := zU' (zcd (M := 57) (own := 4) rfl rfl ck_57) stop n i ls st h
theorem nl_57 (as : List zVal) (h : zHeap) : zc 57 as h = zr 57 0 (zen 7 as) [] h := rfl
theorem U_58 (stop : Nat → Bool) (n i : Nat) (ls : zLoc) (st : zStk) (h : zHeap) : zr 58 i ls st h = zU cd_58 (zr 58) zc stop n i ls st h := zU' (zcd (M := 58) (own := 4) rfl rfl ck_58) stop n i ls st h
theorem nl_58 (as : List zVal) (h : zHeap) : zc 58 as h = zr 58 0 (zen 6 as) [] h := rfl
theorem U_59 (stop : Nat → Bool) (n i : Nat) (ls : zLoc) (st : zStk) (h : zHeap) : zr 59 i ls st h = zU cd_59 (zr 59) zc stop n i ls st h := zU' (zcd (M := 59) (own := 4) rfl rfl ck_59) stop n i ls st h
theorem nl_59 (as : List zVal) (h : zHeap) : zc 59 as h = zr 59 0 (zen 5 as) [] h := rfl
theorem U_60 (stop : Nat → Bool) (n i : Nat) (ls : zLoc) (st : zStk) (h : zHeap) : zr 60 i ls st h = zU cd_60 (zr 60) zc stop n i ls st h := zU' (zcd (M := 60) (own := 4) rfl rfl ck_60) stop n i ls st h
theorem nl_60 (as : List zVal) (h : zHeap) : zc 60 as h = zr 60 0 (zen 1 as) [] h := rfl
theorem U_61 (stop : Nat → Bool) (n i : Nat) (ls : zLoc) (st : zStk) (h : zHeap) : zr 61 i ls st h = zU cd_61 (zr 61) zc stop n i ls st h := zU' (zcd (M := 61) (own := 4) rfl rfl ck_61) stop n i ls st h
theorem nl_61 (as : List zVal) (h : zHeap) : zc 61 as h = zr 61 0 (zen 6 as) [] h := rfl
theorem U_62 (stop : Nat → Bool) (n i : Nat) (ls : zLoc) (st : zStk) (h : zHeap) : zr 62 i ls st h = zU cd_62 (zr 62) zc stop n i ls st h := zU' (zcd (M := 62) (own := 4) rfl rfl ck_62) stop n i ls st h
theorem nl_62 (as : List zVal) (h : zHeap) : zc 62 as h = zr 62 0 (zen 6 as) [] h := rfl
theorem U_63 (stop : Nat → Bool) (n i : Nat) (ls : zLoc) (st : zStk) (h : zHeap) : zr 63 i ls st h = zU cd_63 (zr 63) zc stop n i ls st h := zU' (zcd (M := 63) (own := 4) rfl rfl ck_63) stop n i ls st h
theorem nl_63 (as : List zVal) (h : zHeap) : zc 63 as h = zr 63 0 (zen 6 as) [] h := rfl
theorem U_64 (stop : Nat → Bool) (n i : Nat) (ls : zLoc) (st : zStk) (h : zHeap) : zr 64 i ls st h = zU cd_64 (zr 64) zc stop n i ls st h := zU' (zcd (M := 64) (own := 4) rfl rfl ck_64) stop n i ls st h
theorem nl_64 (as : List zVal) (h : zHeap) : zc 64 as h = zr 64 0 (zen 4 as) [] h := rfl
theorem U_65 (stop : Nat → Bool) (n i : Nat) (ls : zLoc) (st : zStk) (h : zHeap) : zr 65 i ls st h = zU cd_65 (zr 65) zc stop n i ls st h := zU' (zcd (M := 65) (own := 4) rfl rfl ck_65) stop n i ls st h
theorem nl_65 (as : List zVal) (h : zHeap) : zc 65 as h = zr 65 0 (zen 8 as) [] h := rfl
theorem U_66 (stop : Nat → Bool) (n i : Nat) (ls : zLoc) (st : zStk) (h : zHeap) : zr 66 i ls st h = zU cd_66 (zr 66) zc stop n i ls st h := zU' (zcd (M := 66) (own := 4) rfl rfl ck_66) stop n i ls st h
theorem nl_66 (as : List zVal) (h : zHeap) : zc 66 as h = zr 66 0 (zen 3 as) [] h := rfl
theorem U_67 (stop : Nat → Bool) (n i : Nat) (ls : zLoc) (st : zStk) (h : zHeap) : zr 67 i ls st h = zU cd_67 (zr 67) zc stop n i ls st h := zU' (zcd (M := 67) (own := 4) rfl rfl ck_67) stop n i ls st h
theorem nl_67 (as : List zVal) (h : zHeap) : zc 67 as h = zr 67 0 (zen 1 as) [] h := rfl
theorem U_68 (stop : Nat → Bool) (n i : Nat) (ls : zLoc) (st : zStk) (h : zHeap) : zr 68 i ls st h = zU cd_68 (zr 68) zc stop n i ls st h := zU' (zcd (M := 68) (own := 4) rfl rfl ck_68) stop n i ls st h
theorem nl_68 (as : List zVal) (h : zHeap) : zc 68 as h = zr 68 0 (zen 3 as) [] h := rfl
theorem U_69 (stop : Nat → Bool) (n i : Nat) (ls : zLoc) (st : zStk) (h : zHeap) : zr 69 i ls st h = zU cd_69 (zr 69) zc stop n i ls st h := zU' (zcd (M := 69) (own := 4) rfl rfl ck_69) stop n i ls st h
theorem nl_69 (as : List zVal) (h : zHeap) : zc 69 as h = zr 69 0 (zen 8 as) [] h := rfl
theorem U_70 (stop : Nat → Bool) (n i : Nat) (ls : zLoc) (st : zStk) (h : zHeap) : zr 70 i ls st h = zU cd_70 (zr 70) zc stop n i ls st h := zU' (zcd (M := 70) (own := 4) rfl rfl ck_70) stop n i ls st h
theorem nl_70 (as : List zVal) (h : zHeap) : zc 70 as h = zr 70 0 (zen 3 as) [] h := rfl
theorem U_71 (stop : Nat → Bool) (n i : Nat) (ls : zLoc) (st : zStk) (h : zHeap) : zr 71 i ls st h = zU cd_71 (zr 71) zc stop n i ls st h := zU' (zcd (M := 71) (own := 4) rfl rfl ck_71) stop n i ls st h
theorem nl_71 (as : List zVal) (h : zHeap) : zc 71 as h = zr 71 0 (zen 1 as) [] h := rfl
theorem U_72 (stop : Nat → Bool) (n i : Nat) (ls : zLoc) (st : zStk) (h : zHeap) : zr 72 i ls st h = zU cd_72 (zr 72) zc stop n i ls st h := zU' (zcd (M := 72) (own := 4) rfl rfl ck_72) stop n i ls st h
theorem nl_72 (as : List zVal) (h : zHeap) : zc 72 as h = zr 72 0 (zen 6 as) [] h := rfl
theorem U_73 (stop : Nat → Bool) (n i : Nat) (ls : zLoc) (st : zStk) (h : zHeap) : zr 73 i ls st h = zU cd_73 (zr 73) zc stop n i ls st h := zU' (zcd (M := 73) (own := 4) rfl rfl ck_73) stop n i ls st h
theorem nl_73 (as : List zVal) (h : zHeap) : zc 73 as h = zr 73 0 (zen 4 as) [] h := rfl
theorem U_74 (stop : Nat → Bool) (n i : Nat) (ls : zLoc) (st : zStk) (h : zHeap) : zr 74 i ls st h = zU cd_74 (zr 74) zc stop n i ls st h := zU' (zcd (M := 74) (own := 5) rfl rfl ck_74) stop n i ls st h
theorem nl_74 (as : List zVal) (h : zHeap) : zc 74 as h = zr 74 0 (zen 2 as) [] h := rfl
theorem U_75 (stop : Nat → Bool) (n i : Nat) (ls : zLoc) (st : zStk) (h : zHeap) : zr 75 i ls st h = zU cd_75 (zr 75) zc stop n i ls st h := zU' (zcd (M := 75) (own := 5) rfl rfl ck_75) stop n i ls st h
theorem nl_75 (as : List zVal) (h : zHeap) : zc 75 as h = zr 75 0 (zen 3 as) [] h := rfl
theorem U_76 (stop : Nat → Bool) (n i : Nat) (ls : zLoc) (st : zStk) (h : zHeap) : zr 76 i ls st h = zU cd_76 (zr 76) zc stop n i ls st h := zU' (zcd (M := 76) (own := 5) rfl rfl ck_76) stop n i ls st h
theorem nl_76 (as : List zVal) (h : zHeap) : zc 76 as h = zr 76 0 (zen 4 as) [] h := rfl
theorem U_77 (stop : Nat → Bool) (n i : Nat) (ls : zLoc) (st : zStk) (h : zHeap) : zr 77 i ls st h = zU cd_77 (zr 77) zc stop n i ls st h := zU' (zcd (M := 77) (own := 5) rfl rfl ck_77) stop n i ls st h
theorem nl_77 (as : List zVal) (h : zHeap) : zc 77 as h = zr 77 0 (zen 2 as) [] h := rfl
theorem U_78 (stop : Nat → Bool) (n i : Nat) (ls : zLoc) (st : zStk) (h : zHeap) : zr 78 i ls st h = zU cd_78 (zr 78) zc stop n i ls st h := zU' (zcd (M := 78) (own := 5) rfl rfl ck_78) stop n i ls st h
theorem nl_78 (as : List zVal) (h : zHeap) : zc 78 as h = zr 78 0 (zen 2 as) [] h := rfl
theorem U_79 (stop : Nat → Bool) (n i : Nat) (ls : zLoc) (st : zStk) (h : zHeap) : zr 79 i ls st h = zU cd_79 (zr 79) zc stop n i ls st h := zU' (zcd (M := 79) (own := 5) rfl rfl ck_79) stop n i ls st h
theorem nl_79 (as : List zVal) (h : zHeap) : zc 79 as h = zr 79 0 (zen 5 as) [] h := rfl
theorem U_80 (stop : Nat → Bool) (n i : Nat) (ls : zLoc) (st : zStk) (h : zHeap) : zr 80 i ls st h = zU cd_80 (zr 80) zc stop n i ls st h := zU' (zcd (M := 80) (own := 5) rfl rfl ck_80) stop n i ls st h
theorem nl_80 (as : List zVal) (h : zHeap) : zc 80 as h = zr 80 0 (zen 3 as) [] h := rfl
theorem U_81 (stop : Nat → Bool) (n i : Nat) (ls : zLoc) (st : zStk) (h : zHeap) : zr 81 i ls st h = zU cd_81 (zr 81) zc stop n i ls st h := zU' (zcd (M := 81) (own := 5) rfl rfl ck_81) stop n i ls st h
theorem nl_81 (as : List zVal) (h : zHeap) : zc 81 as h = zr 81 0 (zen 2 as) [] h := rfl
theorem U_82 (stop : Nat → Bool) (n i : Nat) (ls : zLoc) (st : zStk) (h : zHeap) : zr 82 i ls st h = zU cd_82 (zr 82) zc stop n i ls st h := zU' (zcd (M := 82) (own := 5) rfl rfl ck_82) stop n i ls st h
theorem nl_82 (as : List zVal) (h : zHeap) : zc 82 as h = zr 82 0 (zen 1 as) [] h := rfl
theorem U_83 (stop : Nat → Bool) (n i : Nat) (ls : zLoc) (st : zStk) (h : zHeap) : zr 83 i ls st h = zU cd_83 (zr 83) zc stop n i ls st h := zU' (zcd (M := 83) (own := 5) rfl rfl ck_83) stop n i ls st h
theorem nl_83 (as : List zVal) (h : zHeap) : zc 83 as h = zr 83 0 (zen 1 as) [] h := rfl
theorem U_84 (stop : Nat → Bool) (n i : Nat) (ls : zLoc) (st : zStk) (h : zHeap) : zr 84 i ls st h = zU cd_84 (zr 84) zc stop n i ls st h := zU' (zcd (M := 84) (own := 5) rfl rfl ck_84) stop n i ls st h
theorem nl_84 (as : List zVal) (h : zHeap) : zc 84 as h = zr 84 0 (zen 1 as) [] h := rfl
theorem U_85 (stop : Nat → Bool) (n i : Nat) (ls : zLoc) (st : zStk) (h : zHeap) : zr 85 i ls st h = zU cd_85 (zr 85) zc stop n i ls st h := zU' (zcd (M := 85) (own := 5) rfl rfl ck_85) stop n i ls st h
theorem nl_85 (as : List zVal) (h : zHeap) : zc 85 as h = zr 85 0 (zen 1 as) [] h := rfl
theorem U_86 (stop : Nat → Bool) (n i : Nat) (ls : zLoc) (st : zStk) (h : zHeap) : zr 86 i ls st h = zU cd_86 (zr 86) zc stop n i ls st h := zU' (zcd (M := 86) (own := 5) rfl rfl ck_86) stop n i ls st h
theorem nl_86 (as : List zVal) (h : zHeap) : zc 86 as h = zr 86 0 (zen 3 as) [] h := rfl
theorem U_87 (stop : Nat → Bool) (n i : Nat) (ls : zLoc) (st : zStk) (h : zHeap) : zr 87 i ls st h = zU cd_87 (zr 87) zc stop n i ls st h := zU' (zcd (M := 87) (own := 5) rfl rfl ck_87) stop n i ls st h
theorem nl_87 (as : List zVal) (h : zHeap) : zc 87 as h = zr 87 0 (zen 1 as) [] h := rfl
theorem U_88 (stop : Nat → Bool) (n i : Nat) (ls : zLoc) (st : zStk) (h : zHeap) : zr 88 i ls st h = zU cd_88 (zr 88) zc stop n i ls st h := zU' (zcd (M := 88) (own := 5) rfl rfl ck_88) stop n i ls st h
theorem nl_88 (as : List zVal) (h : zHeap) : zc 88 as h = zr 88 0 (zen 1 as) [] h := rfl
theorem U_89 (stop : Nat → Bool) (n i : Nat) (ls : zLoc) (st : zStk) (h : zHeap) : zr 89 i ls st h = zU cd_89 (zr 89) zc stop n i ls st h := zU' (zcd (M := 89) (own := 5) rfl rfl ck_89) stop n i ls st h
theorem nl_89 (as : List zVal) (h : zHeap) : zc 89 as h = zr 89 0 (zen 1 as) [] h := rfl
theorem U_90 (stop : Nat → Bool) (n i : Nat) (ls : zLoc) (st : zStk) (h : zHeap) : zr 90 i ls st h = zU cd_90 (zr 90) zc stop n i ls st h := zU' (zcd (M := 90) (own := 5) rfl rfl ck_90) stop n i ls st h
theorem nl_90 (as : List zVal) (h : zHeap) : zc 90 as h = zr 90 0 (zen 1 as) [] h := rfl
theorem U_91 (stop : Nat → Bool) (n i : Nat) (ls : zLoc) (st : zStk) (h : zHeap) : zr 91 i ls st h = zU cd_91 (zr 91) zc stop n i ls st h := zU' (zcd (M := 91) (own := 5) rfl rfl ck_91) stop n i ls st h
theorem nl_91 (as : List zVal) (h : zHeap) : zc 91 as h = zr 91 0 (zen 1 as) [] h := rfl
theorem U_92 (stop : Nat → Bool) (n i : Nat) (ls : zLoc) (st : zStk) (h : zHeap) : zr 92 i ls st h = zU cd_92 (zr 92) zc stop n i ls st h := zU' (zcd (M := 92) (own := 6) rfl rfl ck_92) stop n i ls st h
theorem nl_92 (as : List zVal) (h : zHeap) : zc 92 as h = zr 92 0 (zen 1 as) [] h := rfl
theorem U_93 (stop : Nat → Bool) (n i : Nat) (ls : zLoc) (st : zStk) (h : zHeap) : zr 93 i ls st h = zU cd_93 (zr 93) zc stop n i ls st h := zU' (zcd (M := 93) (own := 6) rfl rfl ck_93) stop n i ls st h
theorem nl_93 (as : List zVal) (h : zHeap) : zc 93 as h = zr 93 0 (zen 7 as) [] h := rfl
theorem U_94 (stop : Nat → Bool) (n i : Nat) (ls : zLoc) (st : zStk) (h : zHeap) : zr 94 i ls st h = zU cd_94 (zr 94) zc stop n i ls st h := zU' (zcd (M := 94) (own := 6) rfl rfl ck_94) stop n i ls st h
theorem nl_94 (as : List zVal) (h : zHeap) : zc 94 as h = zr 94 0 (zen 6 as) [] h := rfl
theorem U_95 (stop : Nat → Bool) (n i : Nat) (ls : zLoc) (st : zStk) (h : zHeap) : zr 95 i ls st h = zU cd_95 (zr 95) zc stop n i ls st h := zU' (zcd (M := 95) (own := 6) rfl rfl ck_95) stop n i ls st h
theorem nl_95 (as : List zVal) (h : zHeap) : zc 95 as h = zr 95 0 (zen 2 as) [] h := rfl
theorem U_96 (stop : Nat → Bool) (n i : Nat) (ls : zLoc) (st : zStk) (h : zHeap) : zr 96 i ls st h = zU cd_96 (zr 96) zc stop n i ls st h := zU' (zcd (M := 96) (own := 6) rfl rfl ck_96) stop n i ls st h
theorem nl_96 (as : List zVal) (h : zHeap) : zc 96 as h = zr 96 0 (zen 7 as) [] h := rfl
theorem U_97 (stop : Nat → Bool) (n i : Nat) (ls : zLoc) (st : zStk) (h : zHeap) : zr 97 i ls st h = zU cd_97 (zr 97) zc stop n i ls st h := zU' (zcd (M := 97) (own := 6) rfl rfl ck_97) stop n i ls st h
theorem nl_97 (as : List zVal) (h : zHeap) : zc 97 as h = zr 97 0 (zen 9 as) [] h := rfl
theorem U_98 (stop : Nat → Bool) (n i : Nat) (ls : zLoc) (st : zStk) (h : zHeap) : zr 98 i ls st h = zU cd_98 (zr 98) zc stop n i ls st h := zU' (zcd (M := 98) (own := 6) rfl rfl ck_98) stop n i ls st h
theorem nl_98 (as : List zVal) (h : zHeap) : zc 98 as h = zr 98 0 (zen 7 as) [] h := rfl
theorem U_99 (stop : Nat → Bool) (n i : Nat) (ls : zLoc) (st : zStk) (h : zHeap) : zr 99 i ls st h = zU cd_99 (zr 99) zc stop n i ls st h := zU' (zcd (M := 99) (own := 6) rfl rfl ck_99) stop n i ls st h
theorem nl_99 (as : List zVal) (h : zHeap) : zc 99 as h = zr 99 0 (zen 7 as) [] h := rfl
theorem U_100 (stop : Nat → Bool) (n i : Nat) (ls : zLoc) (st : zStk) (h : zHeap) : zr 100 i ls st h = zU cd_100 (zr 100) zc stop n i ls st h := zU' (zcd (M := 100) (own := 6) rfl rfl ck_100) stop n i ls st h
theorem nl_100 (as : List zVal) (h : zHeap) : zc 100 as h = zr 100 0 (zen 8 as) [] h := rfl
theorem U_101 (stop : Nat → Bool) (n i : Nat) (ls : zLoc) (st : zStk) (h : zHeap) : zr 101 i ls st h = zU cd_101 (zr 101) zc stop n i ls st h := zU' (zcd (M := 101) (own := 6) rfl rfl ck_101) stop n i ls st h
theorem nl_101 (as : List zVal) (h : zHeap) : zc 101 as h = zr 101 0 (zen 7 as) [] h := rfl
theorem U_102 (stop : Nat → Bool) (n i : Nat) (ls : zLoc) (st : zStk) (h : zHeap) : zr 102 i ls st h = zU cd_102 (zr 102) zc stop n i ls st h := zU' (zcd (M := 102) (own := 6) rfl rfl ck_102) stop n i ls st h
theorem nl_102 (as : List zVal) (h : zHeap) : zc 102 as h = zr 102 0 (zen 6 as) [] h := rfl
theorem U_103 (stop : Nat → Bool) (n i : Nat) (ls : zLoc) (st : zStk) (h : zHeap) : zr 103 i ls st h = zU cd_103 (zr 103) zc stop n i ls st h := zU' (zcd (M := 103) (own := 6) rfl rfl ck_103) stop n i ls st h
theorem nl_103 (as : List zVal) (h : zHeap) : zc 103 as h = zr 103 0 (zen 5 as) [] h := rfl
theorem U_104 (stop : Nat → Bool) (n i : Nat) (ls : zLoc) (st : zStk) (h : zHeap) : zr 104 i ls st h = zU cd_104 (zr 104) zc stop n i ls st h := zU' (zcd (M := 104) (own := 6) rfl rfl ck_104) stop n i ls st h
theorem nl_104 (as : List zVal) (h : zHeap) : zc 104 as h = zr 104 0 (zen 6 as) [] h := rfl
theorem U_105 (stop : Nat → Bool) (n i : Nat) (ls : zLoc) (st : zStk) (h : zHeap) : zr 105 i ls st h = zU cd_105 (zr 105) zc stop n i ls st h := zU' (zcd (M := 105) (own := 6) rfl rfl ck_105) stop n i ls st h
theorem nl_105 (as : List zVal) (h : zHeap) : zc 105 as h = zr 105 0 (zen 8 as) [] h := rfl
theorem U_106 (stop : Nat → Bool) (n i : Nat) (ls : zLoc) (st : zStk) (h : zHeap) : zr 106 i ls st h = zU cd_106 (zr 106) zc stop n i ls st h := zU' (zcd (M := 106) (own := 6) rfl rfl ck_106) stop n i ls st h
theorem nl_106 (as : List zVal) (h : zHeap) : zc 106 as h = zr 106 0 (zen 7 as) [] h := rfl
theorem U_107 (stop : Nat → Bool) (n i : Nat) (ls : zLoc) (st : zStk) (h : zHeap) : zr 107 i ls st h = zU cd_107 (zr 107) zc stop n i ls st h := zU' (zcd (M := 107) (own := 6) rfl rfl ck_107) stop n i ls st h
theorem nl_107 (as : List zVal) (h : zHeap) : zc 107 as h = zr 107 0 (zen 9 as) [] h := rfl
theorem U_108 (stop : Nat → Bool) (n i : Nat) (ls : zLoc) (st : zStk) (h : zHeap) : zr 108 i ls st h = zU cd_108 (zr 108) zc stop n i ls st h := zU' (zcd (M := 108) (own := 6) rfl rfl ck_108) stop n i ls st h
theorem nl_108 (as : List zVal) (h : zHeap) : zc 108 as h = zr 108 0 (zen 6 as) [] h := rfl
theorem U_109 (stop : Nat → Bool) (n i : Nat) (ls : zLoc) (st : zStk) (h : zHeap) : zr 109 i ls st h = zU cd_109 (zr 109) zc stop n i ls st h := zU' (zcd (M := 109) (own := 6) rfl rfl ck_109) stop n i ls st h
theorem nl_109 (as : List zVal) (h : zHeap) : zc 109 as h = zr 109 0 (zen 5 as) [] h := rfl
theorem U_110 (stop : Nat → Bool) (n i : Nat) (ls : zLoc) (st : zStk) (h : zHeap) : zr 110 i ls st h = zU cd_110 (zr 110) zc stop n i ls st h := zU' (zcd (M := 110) (own := 6) rfl rfl ck_110) stop n i ls st h
theorem nl_110 (as : List zVal) (h : zHeap) : zc 110 as h = zr 110 0 (zen 5 as) [] h := rfl
theorem U_111 (stop : Nat → Bool) (n i : Nat) (ls : zLoc) (st : zStk) (h : zHeap) : zr 111 i ls st h = zU cd_111 (zr 111) zc stop n i ls st h := zU' (zcd (M := 111) (own := 6) rfl rfl ck_111) stop n i ls st h
theorem nl_111 (as : List zVal) (h : zHeap) : zc 111 as h = zr 111 0 (zen 5 as) [] h := rfl
theorem U_112 (stop : Nat → Bool) (n i : Nat) (ls : zLoc) (st : zStk) (h : zHeap) : zr 112 i ls st h = zU cd_112 (zr 112) zc stop n i ls st h := zU' (zcd (M := 112) (own := 6) rfl rfl ck_112) stop n i ls st h
theorem nl_112 (as : List zVal) (h : zHeap) : zc 112 as h = zr 112 0 (zen 4 as) [] h := rfl
theorem U_113 (stop : Nat → Bool) (n i : Nat) (ls : zLoc) (st : zStk) (h : zHeap) : zr 113 i ls st h = zU cd_113 (zr 113) zc stop n i ls st h := zU' (zcd (M := 113) (own := 6) rfl rfl ck_113) stop n i ls st h
theorem nl_113 (as : List zVal) (h : zHeap) : zc 113 as h = zr 113 0 (zen 6 as) [] h := rfl
theorem U_114 (stop : Nat → Bool) (n i : Nat) (ls : zLoc) (st : zStk) (h : zHeap) : zr 114 i ls st h = zU cd_114 (zr 114) zc stop n i ls st h := zU' (zcd (M := 114) (own := 6) rfl rfl ck_114) stop n i ls st h
theorem nl_114 (as : List zVal) (h : zHeap) : zc 114 as h = zr 114 0 (zen 5 as) [] h := rfl
theorem U_115 (stop : Nat → Bool) (n i : Nat) (ls : zLoc) (st : zStk) (h : zHeap) : zr 115 i ls st h = zU cd_115 (zr 115) zc stop n i ls st h := zU' (zcd (M := 115) (own := 6) rfl rfl ck_115) stop n i ls st h
theorem nl_115 (as : List zVal) (h : zHeap) : zc 115 as h = zr 115 0 (zen 7 as) [] h := rfl
theorem U_116 (stop : Nat → Bool) (n i : Nat) (ls : zLoc) (st : zStk) (h : zHeap) : zr 116 i ls st h = zU cd_116 (zr 116) zc stop n i ls st h := zU' (zcd (M := 116) (own := 6) rfl rfl ck_116) stop n i ls st h
theorem nl_116 (as : List zVal) (h : zHeap) : zc 116 as h = zr 116 0 (zen 5 as) [] h := rfl
theorem U_117 (stop : Nat → Bool) (n i : Nat) (ls : zLoc) (st : zStk) (h : zHeap) : zr 117 i ls st h = zU cd_117 (zr 117) zc stop n i ls st h := zU' (zcd (M := 117) (own := 6) rfl rfl ck_117) stop n i ls st h
theorem nl_117 (as : List zVal) (h : zHeap) : zc 117 as h = zr 117 0 (zen 8 as) [] h := rfl
theorem U_118 (stop : Nat → Bool) (n i : Nat) (ls : zLoc) (st : zStk) (h : zHeap) : zr 118 i ls st h = zU cd_118 (zr 118) zc stop n i ls st h := zU' (zcd (M := 118) (own := 6) rfl rfl ck_118) stop n i ls st h
theorem nl_118 (as : List zVal) (h : zHeap) : zc 118 as h = zr 118 0 (zen 4 as) [] h := rfl
theorem U_119 (stop : Nat → Bool) (n i : Nat) (ls : zLoc) (st : zStk) (h : zHeap) : zr 119 i ls st h = zU cd_119 (zr 119) zc stop n i ls st h := zU' (zcd (M := 119) (own := 6) rfl rfl ck_119) stop n i ls st h
theorem nl_119 (as : List zVal) (h : zHeap) : zc 119 as h = zr 119 0 (zen 5 as) [] h := rfl
theorem U_120 (stop : Nat → Bool) (n i : Nat) (ls : zLoc) (st : zStk) (h : zHeap) : zr 120 i ls st h = zU cd_120 (zr 120) zc stop n i ls st h := zU' (zcd (M := 120) (own := 6) rfl rfl ck_120) stop n i ls st h
theorem nl_120 (as : List zVal) (h : zHeap) : zc 120 as h = zr 120 0 (zen 4 as) [] h := rfl
theorem U_121 (stop : Nat → Bool) (n i : Nat) (ls : zLoc) (st : zStk) (h : zHeap) : zr 121 i ls st h = zU cd_121 (zr 121) zc stop n i ls st h := zU' (zcd (M := 121) (own := 6) rfl rfl ck_121) stop n i ls st h
theorem nl_121 (as : List zVal) (h : zHeap) : zc 121 as h = zr 121 0 (zen 8 as) [] h := rfl
theorem U_122 (stop : Nat → Bool) (n i : Nat) (ls : zLoc) (st : zStk) (h : zHeap) : zr 122 i ls st h = zU cd_122 (zr 122) zc stop n i ls st h := zU' (zcd (M := 122) (own := 6) rfl rfl ck_122) stop n i ls st h
theorem nl_122 (as : List zVal) (h : zHeap) : zc 122 as h = zr 122 0 (zen 7 as) [] h := rfl
theorem U_123 (stop : Nat → Bool) (n i : Nat) (ls : zLoc) (st : zStk) (h : zHeap) : zr 123 i ls st h = zU cd_123 (zr 123) zc stop n i ls st h := zU' (zcd (M := 123) (own := 7) rfl rfl ck_123) stop n i ls st h
theorem nl_123 (as : List zVal) (h : zHeap) : zc 123 as h = zr 123 0 (zen 1 as) [] h := rfl
theorem U_124 (stop : Nat → Bool) (n i : Nat) (ls : zLoc) (st : zStk) (h : zHeap) : zr 124 i ls st h = zU cd_124 (zr 124) zc stop n i ls st h := zU' (zcd (M := 124) (own := 7) rfl rfl ck_124) stop n i ls st h
theorem nl_124 (as : List zVal) (h : zHeap) : zc 124 as h = zr 124 0 (zen 4 as) [] h := rfl
theorem U_125 (stop : Nat → Bool) (n i : Nat) (ls : zLoc) (st : zStk) (h : zHeap) : zr 125 i ls st h = zU cd_125 (zr 125) zc stop n i ls st h := zU' (zcd (M := 125) (own := 7) rfl rfl ck_125) stop n i ls st h
theorem nl_125 (as : List zVal) (h : zHeap) : zc 125 as h = zr 125 0 (zen 6 as) [] h := rfl
theorem U_126 (stop : Nat → Bool) (n i : Nat) (ls : zLoc) (st : zStk) (h : zHeap) : zr 126 i ls st h = zU cd_126 (zr 126) zc stop n i ls st h := zU' (zcd (M := 126) (own := 7) rfl rfl ck_126) stop n i ls st h
theorem nl_126 (as : List zVal) (h : zHeap) : zc 126 as h = zr 126 0 (zen 2 as) [] h := rfl
theorem U_127 (stop : Nat → Bool) (n i : Nat) (ls : zLoc) (st : zStk) (h : zHeap) : zr 127 i ls st h = zU cd_127 (zr 127) zc stop n i ls st h := zU' (zcd (M := 127) (own := 7) rfl rfl ck_127) stop n i ls st h
theorem nl_127 (as : List zVal) (h : zHeap) : zc 127 as h = zr 127 0 (zen 2 as) [] h := rfl
theorem U_128 (stop : Nat → Bool) (n i : Nat) (ls : zLoc) (st : zStk) (h : zHeap) : zr 128 i ls st h = zU cd_128 (zr 128) zc stop n i ls st h := zU' (zcd (M := 128) (own := 7) rfl rfl ck_128) stop n i ls st h
theorem nl_128 (as : List zVal) (h : zHeap) : zc 128 as h = zr 128 0 (zen 2 as) [] h := rfl
theorem U_129 (stop : Nat → Bool) (n i : Nat) (ls : zLoc) (st : zStk) (h : zHeap) : zr 129 i ls st h = zU cd_129 (zr 129) zc stop n i ls st h := zU' (zcd (M := 129) (own := 7) rfl rfl ck_129) stop n i ls st h
theorem nl_129 (as : List zVal) (h : zHeap) : zc 129 as h = zr 129 0 (zen 5 as) [] h := rfl
theorem U_130 (stop : Nat → Bool) (n i : Nat) (ls : zLoc) (st : zStk) (h : zHeap) : zr 130 i ls st h = zU cd_130 (zr 130) zc stop n i ls st h := zU' (zcd (M := 130) (own := 7) rfl rfl ck_130) stop n i ls st h
theorem nl_130 (as : List zVal) (h : zHeap) : zc 130 as h = zr 130 0 (zen 8 as) [] h := rfl
theorem U_131 (stop : Nat → Bool) (n i : Nat) (ls : zLoc) (st : zStk) (h : zHeap) : zr 131 i ls st h = zU cd_131 (zr 131) zc stop n i ls st h := zU' (zcd (M := 131) (own := 7) rfl rfl ck_131) stop n i ls st h
theorem nl_131 (as : List zVal) (h : zHeap) : zc 131 as h = zr 131 0 (zen 7 as) [] h := rfl
theorem U_132 (stop : Nat → Bool) (n i : Nat) (ls : zLoc) (st : zStk) (h : zHeap) : zr 132 i ls st h = zU cd_132 (zr 132) zc stop n i ls st h := zU' (zcd (M := 132) (own := 7) rfl rfl ck_132) stop n i ls st h
theorem nl_132 (as : List zVal) (h : zHeap) : zc 132 as h = zr 132 0 (zen 9 as) [] h := rfl
theorem U_133 (stop : Nat → Bool) (n i : Nat) (ls : zLoc) (st : zStk) (h : zHeap) : zr 133 i ls st h = zU cd_133 (zr 133) zc stop n i ls st h := zU' (zcd (M := 133) (own := 7) rfl rfl ck_133) stop n i ls st h
theorem nl_133 (as : List zVal) (h : zHeap) : zc 133 as h = zr 133 0 (zen 8 as) [] h := rfl
theorem U_134 (stop : Nat → Bool) (n i : Nat) (ls : zLoc) (st : zStk) (h : zHeap) : zr 134 i ls st h = zU cd_134 (zr 134) zc stop n i ls st h := zU' (zcd (M := 134) (own := 8) rfl rfl ck_134) stop n i ls st h
theorem nl_134 (as : List zVal) (h : zHeap) : zc 134 as h = zr 134 0 (zen 1 as) [] h := rfl
theorem U_135 (stop : Nat → Bool) (n i : Nat) (ls : zLoc) (st : zStk) (h : zHeap) : zr 135 i ls st h = zU cd_135 (zr 135) zc stop n i ls st h := zU' (zcd (M := 135) (own := 8) rfl rfl ck_135) stop n i ls st h
theorem nl_135 (as : List zVal) (h : zHeap) : zc 135 as h = zr 135 0 (zen 3 as) [] h := rfl
theorem U_136 (stop : Nat → Bool) (n i : Nat) (ls : zLoc) (st : zStk) (h : zHeap) : zr 136 i ls st h = zU cd_136 (zr 136) zc stop n i ls st h := zU' (zcd (M := 136) (own := 8) rfl rfl ck_136) stop n i ls st h
theorem nl_136 (as : List zVal) (h : zHeap) : zc 136 as h = zr 136 0 (zen 2 as) [] h := rfl
theorem U_137 (stop : Nat → Bool) (n i : Nat) (ls : zLoc) (st : zStk) (h : zHeap) : zr 137 i ls st h = zU cd_137 (zr 137) zc stop n i ls st h := zU' (zcd (M := 137) (own := 9) rfl rfl ck_137) stop n i ls st h
theorem nl_137 (as : List zVal) (h : zHeap) : zc 137 as h = zr 137 0 (zen 2 as) [] h := rfl
theorem U_138 (stop : Nat → Bool) (n i : Nat) (ls : zLoc) (st : zStk) (h : zHeap) : zr 138 i ls st h = zU cd_138 (zr 138) zc stop n i ls st h := zU' (zcd (M := 138) (own := 9) rfl rfl ck_138) stop n i ls st h
theorem nl_138 (as : List zVal) (h : zHeap) : zc 138 as h = zr 138 0 (zen 3 as) [] h := rfl
theorem U_139 (stop : Nat → Bool) (n i : Nat) (ls : zLoc) (st : zStk) (h : zHeap) : zr 139 i ls st h = zU cd_139 (zr 139) zc stop n i ls st h := zU' (zcd (M := 139) (own := 9) rfl rfl ck_139) stop n i ls st h
theorem nl_139 (as : List zVal) (h : zHeap) : zc 139 as h = zr 139 0 (zen 3 as) [] h := rfl
theorem U_140 (stop : Nat → Bool) (n i : Nat) (ls : zLoc) (st : zStk) (h : zHeap) : zr 140 i ls st h = zU cd_140 (zr 140) zc stop n i ls st h := zU' (zcd (M := 140) (own := 9) rfl rfl ck_140) stop n i ls st h
theorem nl_140 (as : List zVal) (h : zHeap) : zc 140 as h = zr 140 0 (zen 4 as) [] h := rfl
theorem U_141 (stop : Nat → Bool) (n i : Nat) (ls : zLoc) (st : zStk) (h : zHeap) : zr 141 i ls st h = zU cd_141 (zr 141) zc stop n i ls st h := zU' (zcd (M := 141) (own := 9) rfl rfl ck_141) stop n i ls st h
theorem nl_141 (as : List zVal) (h : zHeap) : zc 141 as h = zr 141 0 (zen 2 as) [] h := rfl
theorem U_142 (stop : Nat → Bool) (n i : Nat) (ls : zLoc) (st : zStk) (h : zHeap) : zr 142 i ls st h = zU cd_142 (zr 142) zc stop n i ls st h := zU' (zcd (M := 142) (own := 9) rfl rfl ck_142) stop n i ls st h
theorem nl_142 (as : List zVal) (h : zHeap) : zc 142 as h = zr 142 0 (zen 2 as) [] h := rfl
theorem U_143 (stop : Nat → Bool) (n i : Nat) (ls : zLoc) (st : zStk) (h : zHeap) : zr 143 i ls st h = zU cd_143 (zr 143) zc stop n i ls st h := zU' (zcd (M := 143) (own := 9) rfl rfl ck_143) stop n i ls st h
theorem nl_143 (as : List zVal) (h : zHeap) : zc 143 as h = zr 143 0 (zen 2 as) [] h := rfl
theorem U_144 (stop : Nat → Bool) (n i : Nat) (ls : zLoc) (st : zStk) (h : zHeap) : zr 144 i ls st h = zU cd_144 (zr 144) zc stop n i ls st h := zU' (zcd (M := 144) (own := 10) rfl rfl ck_144) stop n i ls st h
theorem nl_144 (as : List zVal) (h : zHeap) : zc 144 as h = zr 144 0 (zen 1 as) [] h := rfl
theorem U_145 (stop : Nat → Bool) (n i : Nat) (ls : zLoc) (st : zStk) (h : zHeap) : zr 145 i ls st h = zU cd_145 (zr 145) zc stop n i ls st h := zU' (zcd (M := 145) (own := 10) rfl rfl ck_145) stop n i ls st h
theorem nl_145 (as : List zVal) (h : zHeap) : zc 145 as h = zr 145 0 (zen 2 as) [] h := rfl
theorem U_146 (stop : Nat → Bool) (n i : Nat) (ls : zLoc) (st : zStk) (h : zHeap) : zr 146 i ls st h = zU cd_146 (zr 146) zc stop n i ls st h := zU' (zcd (M := 146) (own := 10) rfl rfl ck_146) stop n i ls st h
theorem nl_146 (as : List zVal) (h : zHeap) : zc 146 as h = zr 146 0 (zen 6 as) [] h := rfl
theorem U_147 (stop : Nat → Bool) (n i : Nat) (ls : zLoc) (st : zStk) (h : zHeap) : zr 147 i ls st h = zU cd_147 (zr 147) zc stop n i ls st h := zU' (zcd (M := 147) (own := 10) rfl rfl ck_147) stop n i ls st h
theorem nl_147 (as : List zVal) (h : zHeap) : zc 147 as h = zr 147 0 (zen 3 as) [] h := rfl
theorem U_148 (stop : Nat → Bool) (n i : Nat) (ls : zLoc) (st : zStk) (h : zHeap) : zr 148 i ls st h = zU cd_148 (zr 148) zc stop n i ls st h := zU' (zcd (M := 148) (own := 10) rfl rfl ck_148) stop n i ls st h
theorem nl_148 (as : List zVal) (h : zHeap) : zc 148 as h = zr 148 0 (zen 3 as) [] h := rfl
theorem U_149 (stop : Nat → Bool) (n i : Nat) (ls : zLoc) (st : zStk) (h : zHeap) : zr 149 i ls st h = zU cd_149 (zr 149) zc stop n i ls st h := zU' (zcd (M := 149) (own := 11) rfl rfl ck_149) stop n i ls st h
theorem nl_149 (as : List zVal) (h : zHeap) : zc 149 as h = zr 149 0 (zen 1 as) [] h := rfl
theorem U_150 (stop : Nat → Bool) (n i : Nat) (ls : zLoc) (st : zStk) (h : zHeap) : zr 150 i ls st h = zU cd_150 (zr 150) zc stop n i ls st h := zU' (zcd (M := 150) (own := 11) rfl rfl ck_150) stop n i ls st h
theorem nl_150 (as : List zVal) (h : zHeap) : zc 150 as h = zr 150 0 (zen 7 as) [] h := rfl
theorem U_151 (stop : Nat → Bool) (n i : Nat) (ls : zLoc) (st : zStk) (h : zHeap) : zr 151 i ls st h = zU cd_151 (zr 151) zc stop n i ls st h := zU' (zcd (M := 151) (own := 11) rfl rfl ck_151) stop n i ls st h
theorem nl_151 (as : List zVal) (h : zHeap) : zc 151 as h = zr 151 0 (zen 2 as) [] h := rfl
theorem U_152 (stop : Nat → Bool) (n i : Nat) (ls : zLoc) (st : zStk) (h : zHeap) : zr 152 i ls st h = zU cd_152 (zr 152) zc stop n i ls st h := zU' (zcd (M := 152) (own := 11) rfl rfl ck_152) stop n i ls st h
theorem nl_152 (as : List zVal) (h : zHeap) : zc 152 as h = zr 152 0 (zen 4 as) [] h := rfl
theorem U_153 (stop : Nat → Bool) (n i : Nat) (ls : zLoc) (st : zStk) (h : zHeap) : zr 153 i ls st h = zU cd_153 (zr 153) zc stop n i ls st h := zU' (zcd (M := 153) (own := 11) rfl rfl ck_153) stop n i ls st h
theorem nl_153 (as : List zVal) (h : zHeap) : zc 153 as h = zr 153 0 (zen 2 as) [] h := rfl
theorem U_154 (stop : Nat → Bool) (n i : Nat) (ls : zLoc) (st : zStk) (h : zHeap) : zr 154 i ls st h = zU cd_154 (zr 154) zc stop n i ls st h := zU' (zcd (M := 154) (own := 11) rfl rfl ck_154) stop n i ls st h
theorem nl_154 (as : List zVal) (h : zHeap) : zc 154 as h = zr 154 0 (zen 4 as) [] h := rfl
theorem U_155 (stop : Nat → Bool) (n i : Nat) (ls : zLoc) (st : zStk) (h : zHeap) : zr 155 i ls st h = zU cd_155 (zr 155) zc stop n i ls st h := zU' (zcd (M := 155) (own := 11) rfl rfl ck_155) stop n i ls st h
theorem nl_155 (as : List zVal) (h : zHeap) : zc 155 as h = zr 155 0 (zen 8 as) [] h := rfl
theorem U_156 (stop : Nat → Bool) (n i : Nat) (ls : zLoc) (st : zStk) (h : zHeap) : zr 156 i ls st h = zU cd_156 (zr 156) zc stop n i ls st h := zU' (zcd (M := 156) (own := 11) rfl rfl ck_156) stop n i ls st h
theorem nl_156 (as : List zVal) (h : zHeap) : zc 156 as h = zr 156 0 (zen 5 as) [] h := rfl
theorem U_157 (stop : Nat → Bool) (n i : Nat) (ls : zLoc) (st : zStk) (h : zHeap) : zr 157 i ls st h = zU cd_157 (zr 157) zc stop n i ls st h := zU' (zcd (M := 157) (own := 11) rfl rfl ck_157) stop n i ls st h
theorem nl_157 (as : List zVal) (h : zHeap) : zc 157 as h = zr 157 0 (zen 5 as) [] h := rfl
theorem U_158 (stop : Nat → Bool) (n i : Nat) (ls : zLoc) (st : zStk) (h : zHeap) : zr 158 i ls st h = zU cd_158 (zr 158) zc stop n i ls st h := zU' (zcd (M := 158) (own := 11) rfl rfl ck_158) stop n i ls st h
theorem nl_158 (as : List zVal) (h : zHeap) : zc 158 as h = zr 158 0 (zen 7 as) [] h := rfl
theorem U_159 (stop : Nat → Bool) (n i : Nat) (ls : zLoc) (st : zStk) (h : zHeap) : zr 159 i ls st h = zU cd_159 (zr 159) zc stop n i ls st h := zU' (zcd (M := 159) (own := 11) rfl rfl ck_159) stop n i ls st h
theorem nl_159 (as : List zVal) (h : zHeap) : zc 159 as h = zr 159 0 (zen 8 as) [] h := rfl
theorem U_160 (stop : Nat → Bool) (n i : Nat) (ls : zLoc) (st : zStk) (h : zHeap) : zr 160 i ls st h = zU cd_160 (zr 160) zc stop n i ls st h := zU' (zcd (M := 160) (own := 11) rfl rfl ck_160) stop n i ls st h
theorem nl_160 (as : List zVal) (h : zHeap) : zc 160 as h = zr 160 0 (zen 6 as) [] h := rfl
theorem U_161 (stop : Nat → Bool) (n i : Nat) (ls : zLoc) (st : zStk) (h : zHeap) : zr 161 i ls st h = zU cd_161 (zr 161) zc stop n i ls st h := zU' (zcd (M := 161) (own := 11) rfl rfl ck_161) stop n i ls st h
theorem nl_161 (as : List zVal) (h : zHeap) : zc 161 as h = zr 161 0 (zen 6 as) [] h := rfl
theorem U_162 (stop : Nat → Bool) (n i : Nat) (ls : zLoc) (st : zStk) (h : zHeap) : zr 162 i ls st h = zU cd_162 (zr 162) zc stop n i ls st h := zU' (zcd (M := 162) (own := 11) rfl rfl ck_162) stop n i ls st h
theorem nl_162 (as : List zVal) (h : zHeap) : zc 162 as h = zr 162 0 (zen 5 as) [] h := rfl
theorem U_163 (stop : Nat → Bool) (n i : Nat) (ls : zLoc) (st : zStk) (h : zHeap) : zr 163 i ls st h = zU cd_163 (zr 163) zc stop n i ls st h := zU' (zcd (M := 163) (own := 11) rfl rfl ck_163) stop n i ls st h
theorem nl_163 (as : List zVal) (h : zHeap) : zc 163 as h = zr 163 0 (zen 3 as) [] h := rfl
theorem U_164 (stop : Nat → Bool) (n i : Nat) (ls : zLoc) (st : zStk) (h : zHeap) : zr 164 i ls st h = zU cd_164 (zr 164) zc stop n i ls st h := zU' (zcd (M := 164) (own := 11) rfl rfl ck_164) stop n i ls st h
theorem nl_164 (as : List zVal) (h : zHeap) : zc 164 as h = zr 164 0 (zen 5 as) [] h := rfl
theorem U_165 (stop : Nat → Bool) (n i : Nat) (ls : zLoc) (st : zStk) (h : zHeap) : zr 165 i ls st h = zU cd_165 (zr 165) zc stop n i ls st h := zU' (zcd (M := 165) (own := 11) rfl rfl ck_165) stop n i ls st h
theorem nl_165 (as : List zVal) (h : zHeap) : zc 165 as h = zr 165 0 (zen 7 as) [] h := rfl
theorem U_166 (stop : Nat → Bool) (n i : Nat) (ls : zLoc) (st : zStk) (h : zHeap) : zr 166 i ls st h = zU cd_166 (zr 166) zc stop n i ls st h := zU' (zcd (M := 166) (own := 11) rfl rfl ck_166) stop n i ls st h
theorem nl_166 (as : List zVal) (h : zHeap) : zc 166 as h = zr 166 0 (zen 5 as) [] h := rfl
theorem U_167 (stop : Nat → Bool) (n i : Nat) (ls : zLoc) (st : zStk) (h : zHeap) : zr 167 i ls st h = zU cd_167 (zr 167) zc stop n i ls st h := zU' (zcd (M := 167) (own := 11) rfl rfl ck_167) stop n i ls st h
theorem nl_167 (as : List zVal) (h : zHeap) : zc 167 as h = zr 167 0 (zen 6 as) [] h := rfl
theorem U_168 (stop : Nat → Bool) (n i : Nat) (ls : zLoc) (st : zStk) (h : zHeap) : zr 168 i ls st h = zU cd_168 (zr 168) zc stop n i ls st h := zU' (zcd (M := 168) (own := 11) rfl rfl ck_168) stop n i ls st h
theorem nl_168 (as : List zVal) (h : zHeap) : zc 168 as h = zr 168 0 (zen 13 as) [] h := rfl
theorem U_169 (stop : Nat → Bool) (n i : Nat) (ls : zLoc) (st : zStk) (h : zHeap) : zr 169 i ls st h = zU cd_169 (zr 169) zc stop n i ls st h := zU' (zcd (M := 169) (own := 11) rfl rfl ck_169) stop n i ls st h
theorem nl_169 (as : List zVal) (h : zHeap) : zc 169 as h = zr 169 0 (zen 6 as) [] h := rfl
theorem U_170 (stop : Nat → Bool) (n i : Nat) (ls : zLoc) (st : zStk) (h : zHeap) : zr 170 i ls st h = zU cd_170 (zr 170) zc stop n i ls st h := zU' (zcd (M := 170) (own := 11) rfl rfl ck_170) stop n i ls st h
theorem nl_170 (as : List zVal) (h : zHeap) : zc 170 as h = zr 170 0 (zen 7 as) [] h := rfl
theorem U_171 (stop : Nat → Bool) (n i : Nat) (ls : zLoc) (st : zStk) (h : zHeap) : zr 171 i ls st h = zU cd_171 (zr 171) zc stop n i ls st h := zU' (zcd (M := 171) (own := 11) rfl rfl ck_171) stop n i ls st h
theorem nl_171 (as : List zVal) (h : zHeap) : zc 171 as h = zr 171 0 (zen 7 as) [] h := rfl
theorem U_172 (stop : Nat → Bool) (n i : Nat) (ls : zLoc) (st : zStk) (h : zHeap) : zr 172 i ls st h = zU cd_172 (zr 172) zc stop n i ls st h := zU' (zcd (M := 172) (own := 11) rfl rfl ck_172) stop n i ls st h
theorem nl_172 (as : List zVal) (h : zHeap) : zc 172 as h = zr 172 0 (zen 5 as) [] h := rfl
theorem U_173 (stop : Nat → Bool) (n i : Nat) (ls : zLoc) (st : zStk) (h : zHeap) : zr 173 i ls st h = zU cd_173 (zr 173) zc stop n i ls st h := zU' (zcd (M := 173) (own := 11) rfl rfl ck_173) stop n i ls st h
theorem nl_173 (as : List zVal) (h : zHeap) : zc 173 as h = zr 173 0 (zen 6 as) [] h := rfl
theorem U_174 (stop : Nat → Bool) (n i : Nat) (ls : zLoc) (st : zStk) (h : zHeap) : zr 174 i ls st h = zU cd_174 (zr 174) zc stop n i ls st h := zU' (zcd (M := 174) (own := 11) rfl rfl ck_174) stop n i ls st h
theorem nl_174 (as : List zVal) (h : zHeap) : zc 174 as h = zr 174 0 (zen 6 as) [] h := rfl
theorem U_175 (stop : Nat → Bool) (n i : Nat) (ls : zLoc) (st : zStk) (h : zHeap) : zr 175 i ls st h = zU cd_175 (zr 175) zc stop n i ls st h := zU' (zcd (M := 175) (own := 11) rfl rfl ck_175) stop n i ls st h
theorem nl_175 (as : List zVal) (h : zHeap) : zc 175 as h = zr 175 0 (zen 6 as) [] h := rfl
theorem U_176 (stop : Nat → Bool) (n i : Nat) (ls : zLoc) (st : zStk) (h : zHeap) : zr 176 i ls st h = zU cd_176 (zr 176) zc stop n i ls st h := zU' (zcd (M := 176) (own := 11) rfl rfl ck_176) stop n i ls st h
theorem nl_176 (as : List zVal) (h : zHeap) : zc 176 as h = zr 176 0 (zen 6 as) [] h := rfl
theorem U_177 (stop : Nat → Bool) (n i : Nat) (ls : zLoc) (st : zStk) (h : zHeap) : zr 177 i ls st h = zU cd_177 (zr 177) zc stop n i ls st h := zU' (zcd (M := 177) (own := 11) rfl rfl ck_177) stop n i ls st h
theorem nl_177 (as : List zVal) (h : zHeap) : zc 177 as h = zr 177 0 (zen 4 as) [] h := rfl
theorem U_178 (stop : Nat → Bool) (n i : Nat) (ls : zLoc) (st : zStk) (h : zHeap) : zr 178 i ls st h = zU cd_178 (zr 178) zc stop n i ls st h := zU' (zcd (M := 178) (own := 11) rfl rfl ck_178) stop n i ls st h
theorem nl_178 (as : List zVal) (h : zHeap) : zc 178 as h = zr 178 0 (zen 5 as) [] h := rfl
theorem U_179 (stop : Nat → Bool) (n i : Nat) (ls : zLoc) (st : zStk) (h : zHeap) : zr 179 i ls st h = zU cd_179 (zr 179) zc stop n i ls st h := zU' (zcd (M := 179) (own := 11) rfl rfl ck_179) stop n i ls st h
theorem nl_179 (as : List zVal) (h : zHeap) : zc 179 as h = zr 179 0 (zen 5 as) [] h := rfl
theorem U_180 (stop : Nat → Bool) (n i : Nat) (ls : zLoc) (st : zStk) (h : zHeap) : zr 180 i ls st h = zU cd_180 (zr 180) zc stop n i ls st h := zU' (zcd (M := 180) (own := 11) rfl rfl ck_180) stop n i ls st h
theorem nl_180 (as : List zVal) (h : zHeap) : zc 180 as h = zr 180 0 (zen 6 as) [] h := rfl
theorem U_181 (stop : Nat → Bool) (n i : Nat) (ls : zLoc) (st : zStk) (h : zHeap) : zr 181 i ls st h = zU cd_181 (zr 181) zc stop n i ls st h := zU' (zcd (M := 181) (own := 11) rfl rfl ck_181) stop n i ls st h
theorem nl_181 (as : List zVal) (h : zHeap) : zc 181 as h = zr 181 0 (zen 6 as) [] h := rfl
theorem U_182 (stop : Nat → Bool) (n i : Nat) (ls : zLoc) (st : zStk) (h : zHeap) : zr 182 i ls st h = zU cd_182 (zr 182) zc stop n i ls st h := zU' (zcd (M := 182) (own := 11) rfl rfl ck_182) stop n i ls st h
theorem nl_182 (as : List zVal) (h : zHeap) : zc 182 as h = zr 182 0 (zen 10 as) [] h := rfl
theorem U_183 (stop : Nat → Bool) (n i : Nat) (ls : zLoc) (st : zStk) (h : zHeap) : zr 183 i ls st h = zU cd_183 (zr 183) zc stop n i ls st h := zU' (zcd (M := 183) (own := 11) rfl rfl ck_183) stop n i ls st h
theorem nl_183 (as : List zVal) (h : zHeap) : zc 183 as h = zr 183 0 (zen 5 as) [] h := rfl
theorem U_184 (stop : Nat → Bool) (n i : Nat) (ls : zLoc) (st : zStk) (h : zHeap) : zr 184 i ls st h = zU cd_184 (zr 184) zc stop n i ls st h := zU' (zcd (M := 184) (own := 11) rfl rfl ck_184) stop n i ls st h
theorem nl_184 (as : List zVal) (h : zHeap) : zc 184 as h = zr 184 0 (zen 4 as) [] h := rfl
theorem U_185 (stop : Nat → Bool) (n i : Nat) (ls : zLoc) (st : zStk) (h : zHeap) : zr 185 i ls st h = zU cd_185 (zr 185) zc stop n i ls st h := zU' (zcd (M := 185) (own := 11) rfl rfl ck_185) stop n i ls st h
theorem nl_185 (as : List zVal) (h : zHeap) : zc 185 as h = zr 185 0 (zen 6 as) [] h := rfl
theorem U_186 (stop : Nat → Bool) (n i : Nat) (ls : zLoc) (st : zStk) (h : zHeap) : zr 186 i ls st h = zU cd_186 (zr 186) zc stop n i ls st h := zU' (zcd (M := 186) (own := 11) rfl rfl ck_186) stop n i ls st h
theorem nl_186 (as : List zVal) (h : zHeap) : zc 186 as h = zr 186 0 (zen 2 as) [] h := rfl
theorem U_187 (stop : Nat → Bool) (n i : Nat) (ls : zLoc) (st : zStk) (h : zHeap) : zr 187 i ls st h = zU cd_187 (zr 187) zc stop n i ls st h := zU' (zcd (M := 187) (own := 11) rfl rfl ck_187) stop n i ls st h
theorem nl_187 (as : List zVal) (h : zHeap) : zc 187 as h = zr 187 0 (zen 2 as) [] h := rfl
theorem U_188 (stop : Nat → Bool) (n i : Nat) (ls : zLoc) (st : zStk) (h : zHeap) : zr 188 i ls st h = zU cd_188 (zr 188) zc stop n i ls st h := zU' (zcd (M := 188) (own := 11) rfl rfl ck_188) stop n i ls st h
theorem nl_188 (as : List zVal) (h : zHeap) : zc 188 as h = zr 188 0 (zen 2 as) [] h := rfl
theorem U_189 (stop : Nat → Bool) (n i : Nat) (ls : zLoc) (st : zStk) (h : zHeap) : zr 189 i ls st h = zU cd_189 (zr 189) zc stop n i ls st h := zU' (zcd (M := 189) (own := 11) rfl rfl ck_189) stop n i ls st h
theorem nl_189 (as : List zVal) (h : zHeap) : zc 189 as h = zr 189 0 (zen 5 as) [] h := rfl
theorem U_190 (stop : Nat → Bool) (n i : Nat) (ls : zLoc) (st : zStk) (h : zHeap) : zr 190 i ls st h = zU cd_190 (zr 190) zc stop n i ls st h := zU' (zcd (M := 190) (own := 11) rfl rfl ck_190) stop n i ls st h
theorem nl_190 (as : List zVal) (h : zHeap) : zc 190 as h = zr 190 0 (zen 1 as) [] h := rfl
theorem U_191 (stop : Nat → Bool) (n i : Nat) (ls : zLoc) (st : zStk) (h : zHeap) : zr 191 i ls st h = zU cd_191 (zr 191) zc stop n i ls st h := zU' (zcd (M := 191) (own := 11) rfl rfl ck_191) stop n i ls st h
theorem nl_191 (as : List zVal) (h : zHeap) : zc 191 as h = zr 191 0 (zen 1 as) [] h := rfl
theorem U_192 (stop : Nat → Bool) (n i : Nat) (ls : zLoc) (st : zStk) (h : zHeap) : zr 192 i ls st h = zU cd_192 (zr 192) zc stop n i ls st h := zU' (zcd (M := 192) (own := 11) rfl rfl ck_192) stop n i ls st h
theorem nl_192 (as : List zVal) (h : zHeap) : zc 192 as h = zr 192 0 (zen 2 as) [] h := rfl
theorem U_193 (stop : Nat → Bool) (n i : Nat) (ls : zLoc) (st : zStk) (h : zHeap) : zr 193 i ls st h = zU cd_193 (zr 193) zc stop n i ls st h := zU' (zcd (M := 193) (own := 11) rfl rfl ck_193) stop n i ls st h
theorem nl_193 (as : List zVal) (h : zHeap) : zc 193 as h = zr 193 0 (zen 2 as) [] h := rfl
theorem U_194 (stop : Nat → Bool) (n i : Nat) (ls : zLoc) (st : zStk) (h : zHeap) : zr 194 i ls st h = zU cd_194 (zr 194) zc stop n i ls st h := zU' (zcd (M := 194) (own := 11) rfl rfl ck_194) stop n i ls st h
theorem nl_194 (as : List zVal) (h : zHeap) : zc 194 as h = zr 194 0 (zen 1 as) [] h := rfl
theorem U_195 (stop : Nat → Bool) (n i : Nat) (ls : zLoc) (st : zStk) (h : zHeap) : zr 195 i ls st h = zU cd_195 (zr 195) zc stop n i ls st h := zU' (zcd (M := 195) (own := 11) rfl rfl ck_195) stop n i ls st h
theorem nl_195 (as : List zVal) (h : zHeap) : zc 195 as h = zr 195 0 (zen 2 as) [] h := rfl
theorem U_196 (stop : Nat → Bool) (n i : Nat) (ls : zLoc) (st : zStk) (h : zHeap) : zr 196 i ls st h = zU cd_196 (zr 196) zc stop n i ls st h := zU' (zcd (M := 196) (own := 11) rfl rfl ck_196) stop n i ls st h
theorem nl_196 (as : List zVal) (h : zHeap) : zc 196 as h = zr 196 0 (zen 6 as) [] h := rfl
theorem U_197 (stop : Nat → Bool) (n i : Nat) (ls : zLoc) (st : zStk) (h : zHeap) : zr 197 i ls st h = zU cd_197 (zr 197) zc stop n i ls st h := zU' (zcd (M := 197) (own := 11) rfl rfl ck_197) stop n i ls st h
theorem nl_197 (as : List zVal) (h : zHeap) : zc 197 as h = zr 197 0 (zen 5 as) [] h := rfl
theorem U_198 (stop : Nat → Bool) (n i : Nat) (ls : zLoc) (st : zStk) (h : zHeap) : zr 198 i ls st h = zU cd_198 (zr 198) zc stop n i ls st h := zU' (zcd (M := 198) (own := 11) rfl rfl ck_198) stop n i ls st h
theorem nl_198 (as : List zVal) (h : zHeap) : zc 198 as h = zr 198 0 (zen 12 as) [] h := rfl
theorem U_199 (stop : Nat → Bool) (n i : Nat) (ls : zLoc) (st : zStk) (h : zHeap) : zr 199 i ls st h = zU cd_199 (zr 199) zc stop n i ls st h := zU' (zcd (M := 199) (own := 12) rfl rfl ck_199) stop n i ls st h
theorem nl_199 (as : List zVal) (h : zHeap) : zc 199 as h = zr 199 0 (zen 1 as) [] h := rfl
theorem U_200 (stop : Nat → Bool) (n i : Nat) (ls : zLoc) (st : zStk) (h : zHeap) : zr 200 i ls st h = zU cd_200 (zr 200) zc stop n i ls st h := zU' (zcd (M := 200) (own := 12) rfl rfl ck_200) stop n i ls st h
theorem nl_200 (as : List zVal) (h : zHeap) : zc 200 as h = zr 200 0 (zen 3 as) [] h := rfl
theorem U_201 (stop : Nat → Bool) (n i : Nat) (ls : zLoc) (st : zStk) (h : zHeap) : zr 201 i ls st h = zU cd_201 (zr 201) zc stop n i ls st h := zU' (zcd (M := 201) (own := 12) rfl rfl ck_201) stop n i ls st h
theorem nl_201 (as : List zVal) (h : zHeap) : zc 201 as h = zr 201 0 (zen 8 as) [] h := rfl
theorem U_202 (stop : Nat → Bool) (n i : Nat) (ls : zLoc) (st : zStk) (h : zHeap) : zr 202 i ls st h = zU cd_202 (zr 202) zc stop n i ls st h := zU' (zcd (M := 202) (own := 12) rfl rfl ck_202) stop n i ls st h
theorem nl_202 (as : List zVal) (h : zHeap) : zc 202 as h = zr 202 0 (zen 2 as) [] h := rfl
theorem U_203 (stop : Nat → Bool) (n i : Nat) (ls : zLoc) (st : zStk) (h : zHeap) : zr 203 i ls st h = zU cd_203 (zr 203) zc stop n i ls st h := zU' (zcd (M := 203) (own := 12) rfl rfl ck_203) stop n i ls st h
theorem nl_203 (as : List zVal) (h : zHeap) : zc 203 as h = zr 203 0 (zen 2 as) [] h := rfl
theorem U_204 (stop : Nat → Bool) (n i : Nat) (ls : zLoc) (st : zStk) (h : zHeap) : zr 204 i ls st h = zU cd_204 (zr 204) zc stop n i ls st h := zU' (zcd (M := 204) (own := 12) rfl rfl ck_204) stop n i ls st h
theorem nl_204 (as : List zVal) (h : zHeap) : zc 204 as h = zr 204 0 (zen 1 as) [] h := rfl
theorem U_205 (stop : Nat → Bool) (n i : Nat) (ls : zLoc) (st : zStk) (h : zHeap) : zr 205 i ls st h = zU cd_205 (zr 205) zc stop n i ls st h := zU' (zcd (M := 205) (own := 12) rfl rfl ck_205) stop n i ls st h
theorem nl_205 (as : List zVal) (h : zHeap) : zc 205 as h = zr 205 0 (zen 1 as) [] h := rfl
theorem U_206 (stop : Nat → Bool) (n i : Nat) (ls : zLoc) (st : zStk) (h : zHeap) : zr 206 i ls st h = zU cd_206 (zr 206) zc stop n i ls st h := zU' (zcd (M := 206) (own := 12) rfl rfl ck_206) stop n i ls st h
theorem nl_206 (as : List zVal) (h : zHeap) : zc 206 as h = zr 206 0 (zen 4 as) [] h := rfl
theorem U_207 (stop : Nat → Bool) (n i : Nat) (ls : zLoc) (st : zStk) (h : zHeap) : zr 207 i ls st h = zU cd_207 (zr 207) zc stop n i ls st h := zU' (zcd (M := 207) (own := 12) rfl rfl ck_207) stop n i ls st h
theorem nl_207 (as : List zVal) (h : zHeap) : zc 207 as h = zr 207 0 (zen 8 as) [] h := rfl
theorem U_208 (stop : Nat → Bool) (n i : Nat) (ls : zLoc) (st : zStk) (h : zHeap) : zr 208 i ls st h = zU cd_208 (zr 208) zc stop n i ls st h := zU' (zcd (M := 208) (own := 12) rfl rfl ck_208) stop n i ls st h
theorem nl_208 (as : List zVal) (h : zHeap) : zc 208 as h = zr 208 0 (zen 2 as) [] h := rfl
theorem U_209 (stop : Nat → Bool) (n i : Nat) (ls : zLoc) (st : zStk) (h : zHeap) : zr 209 i ls st h = zU cd_209 (zr 209) zc stop n i ls st h := zU' (zcd (M := 209) (own := 12) rfl rfl ck_209) stop n i ls st h
theorem nl_209 (as : List zVal) (h : zHeap) : zc 209 as h = zr 209 0 (zen 4 as) [] h := rfl
theorem U_210 (stop : Nat → Bool) (n i : Nat) (ls : zLoc) (st : zStk) (h : zHeap) : zr 210 i ls st h = zU cd_210 (zr 210) zc stop n i ls st h := zU' (zcd (M := 210) (own := 12) rfl rfl ck_210) stop n i ls st h
theorem nl_210 (as : List zVal) (h : zHeap) : zc 210 as h = zr 210 0 (zen 1 as) [] h := rfl
theorem U_211 (stop : Nat → Bool) (n i : Nat) (ls : zLoc) (st : zStk) (h : zHeap) : zr 211 i ls st h = zU cd_211 (zr 211) zc stop n i ls st h := zU' (zcd (M := 211) (own := 12) rfl rfl ck_211) stop n i ls st h
theorem nl_211 (as : List zVal) (h : zHeap) : zc 211 as h = zr 211 0 (zen 3 as) [] h := rfl
theorem U_212 (stop : Nat → Bool) (n i : Nat) (ls : zLoc) (st : zStk) (h : zHeap) : zr 212 i ls st h = zU cd_212 (zr 212) zc stop n i ls st h := zU' (zcd (M := 212) (own := 12) rfl rfl ck_212) stop n i ls st h
theorem nl_212 (as : List zVal) (h : zHeap) : zc 212 as h = zr 212 0 (zen 4 as) [] h := rfl
theorem U_213 (stop : Nat → Bool) (n i : Nat) (ls : zLoc) (st : zStk) (h : zHeap) : zr 213 i ls st h = zU cd_213 (zr 213) zc stop n i ls st h := zU' (zcd (M := 213) (own := 12) rfl rfl ck_213) stop n i ls st h
theorem nl_213 (as : List zVal) (h : zHeap) : zc 213 as h = zr 213 0 (zen 4 as) [] h := rfl
theorem U_214 (stop : Nat → Bool) (n i : Nat) (ls : zLoc) (st : zStk) (h : zHeap) : zr 214 i ls st h = zU cd_214 (zr 214) zc stop n i ls st h := zU' (zcd (M := 214) (own := 12) rfl rfl ck_214) stop n i ls st h
theorem nl_214 (as : List zVal) (h : zHeap) : zc 214 as h = zr 214 0 (zen 1 as) [] h := rfl
theorem U_215 (stop : Nat → Bool) (n i : Nat) (ls : zLoc) (st : zStk) (h : zHeap) : zr 215 i ls st h = zU cd_215 (zr 215) zc stop n i ls st h := zU' (zcd (M := 215) (own := 12) rfl rfl ck_215) stop n i ls st h
theorem nl_215 (as : List zVal) (h : zHeap) : zc 215 as h = zr 215 0 (zen 2 as) [] h := rfl
theorem U_216 (stop : Nat → Bool) (n i : Nat) (ls : zLoc) (st : zStk) (h : zHeap) : zr 216 i ls st h = zU cd_216 (zr 216) zc stop n i ls st h := zU' (zcd (M := 216) (own := 12) rfl rfl ck_216) stop n i ls st h
theorem nl_216 (as : List zVal) (h : zHeap) : zc 216 as h = zr 216 0 (zen 6 as) [] h := rfl
theorem U_217 (stop : Nat → Bool) (n i : Nat) (ls : zLoc) (st : zStk) (h : zHeap) : zr 217 i ls st h = zU cd_217 (zr 217) zc stop n i ls st h := zU' (zcd (M := 217) (own := 12) rfl rfl ck_217) stop n i ls st h
theorem nl_217 (as : List zVal) (h : zHeap) : zc 217 as h = zr 217 0 (zen 10 as) [] h := rfl
theorem U_218 (stop : Nat → Bool) (n i : Nat) (ls : zLoc) (st : zStk) (h : zHeap) : zr 218 i ls st h = zU cd_218 (zr 218) zc stop n i ls st h := zU' (zcd (M := 218) (own := 12) rfl rfl ck_218) stop n i ls st h
theorem nl_218 (as : List zVal) (h : zHeap) : zc 218 as h = zr 218 0 (zen 4 as) [] h := rfl
theorem U_219 (stop : Nat → Bool) (n i : Nat) (ls : zLoc) (st : zStk) (h : zHeap) : zr 219 i ls st h = zU cd_219 (zr 219) zc stop n i ls st h := zU' (zcd (M := 219) (own := 12) rfl rfl ck_219) stop n i ls st h
theorem nl_219 (as : List zVal) (h : zHeap) : zc 219 as h = zr 219 0 (zen 10 as) [] h := rfl
theorem U_220 (stop : Nat → Bool) (n i : Nat) (ls : zLoc) (st : zStk) (h : zHeap) : zr 220 i ls st h = zU cd_220 (zr 220) zc stop n i ls st h := zU' (zcd (M := 220) (own := 12) rfl rfl ck_220) stop n i ls st h
theorem nl_220 (as : List zVal) (h : zHeap) : zc 220 as h = zr 220 0 (zen 7 as) [] h := rfl
theorem U_221 (stop : Nat → Bool) (n i : Nat) (ls : zLoc) (st : zStk) (h : zHeap) : zr 221 i ls st h = zU cd_221 (zr 221) zc stop n i ls st h := zU' (zcd (M := 221) (own := 12) rfl rfl ck_221) stop n i ls st h
theorem nl_221 (as : List zVal) (h : zHeap) : zc 221 as h = zr 221 0 (zen 2 as) [] h := rfl
theorem U_222 (stop : Nat → Bool) (n i : Nat) (ls : zLoc) (st : zStk) (h : zHeap) : zr 222 i ls st h = zU cd_222 (zr 222) zc stop n i ls st h := zU' (zcd (M := 222) (own := 12) rfl rfl ck_222) stop n i ls st h
theorem nl_222 (as : List zVal) (h : zHeap) : zc 222 as h = zr 222 0 (zen 1 as) [] h := rfl
theorem U_223 (stop : Nat → Bool) (n i : Nat) (ls : zLoc) (st : zStk) (h : zHeap) : zr 223 i ls st h = zU cd_223 (zr 223) zc stop n i ls st h := zU' (zcd (M := 223) (own := 12) rfl rfl ck_223) stop n i ls st h
theorem nl_223 (as : List zVal) (h : zHeap) : zc 223 as h = zr 223 0 (zen 3 as) [] h := rfl
theorem U_224 (stop : Nat → Bool) (n i : Nat) (ls : zLoc) (st : zStk) (h : zHeap) : zr 224 i ls st h = zU cd_224 (zr 224) zc stop n i ls st h := zU' (zcd (M := 224) (own := 12) rfl rfl ck_224) stop n i ls st h
theorem nl_224 (as : List zVal) (h : zHeap) : zc 224 as h = zr 224 0 (zen 5 as) [] h := rfl
theorem U_225 (stop : Nat → Bool) (n i : Nat) (ls : zLoc) (st : zStk) (h : zHeap) : zr 225 i ls st h = zU cd_225 (zr 225) zc stop n i ls st h := zU' (zcd (M := 225) (own := 12) rfl rfl ck_225) stop n i ls st h
theorem nl_225 (as : List zVal) (h : zHeap) : zc 225 as h = zr 225 0 (zen 2 as) [] h := rfl
theorem U_226 (stop : Nat → Bool) (n i : Nat) (ls : zLoc) (st : zStk) (h : zHeap) : zr 226 i ls st h = zU cd_226 (zr 226) zc stop n i ls st h := zU' (zcd (M := 226) (own := 12) rfl rfl ck_226) stop n i ls st h
theorem nl_226 (as : List zVal) (h : zHeap) : zc 226 as h = zr 226 0 (zen 2 as) [] h := rfl
theorem U_227 (stop : Nat → Bool) (n i : Nat) (ls : zLoc) (st : zStk) (h : zHeap) : zr 227 i ls st h = zU cd_227 (zr 227) zc stop n i ls st h := zU' (zcd (M := 227) (own := 12) rfl rfl ck_227) stop n i ls st h
theorem nl_227 (as : List zVal) (h : zHeap) : zc 227 as h = zr 227 0 (zen 2 as) [] h := rfl
theorem U_228 (stop : Nat → Bool) (n i : Nat) (ls : zLoc) (st : zStk) (h : zHeap) : zr 228 i ls st h = zU cd_228 (zr 228) zc stop n i ls st h := zU' (zcd (M := 228) (own := 12) rfl rfl ck_228) stop n i ls st h
theorem nl_228 (as : List zVal) (h : zHeap) : zc 228 as h = zr 228 0 (zen 2 as) [] h := rfl
theorem U_229 (stop : Nat → Bool) (n i : Nat) (ls : zLoc) (st : zStk) (h : zHeap) : zr 229 i ls st h = zU cd_229 (zr 229) zc stop n i ls st h := zU' (zcd (M := 229) (own := 12) rfl rfl ck_229) stop n i ls st h
theorem nl_229 (as : List zVal) (h : zHeap) : zc 229 as h = zr 229 0 (zen 2 as) [] h := rfl
theorem U_230 (stop : Nat → Bool) (n i : Nat) (ls : zLoc) (st : zStk) (h : zHeap) : zr 230 i ls st h = zU cd_230 (zr 230) zc stop n i ls st h := zU' (zcd (M := 230) (own := 12) rfl rfl ck_230) stop n i ls st h
theorem nl_230 (as : List zVal) (h : zHeap) : zc 230 as h = zr 230 0 (zen 2 as) [] h := rfl
theorem U_231 (stop : Nat → Bool) (n i : Nat) (ls : zLoc) (st : zStk) (h : zHeap) : zr 231 i ls st h = zU cd_231 (zr 231) zc stop n i ls st h := zU' (zcd (M := 231) (own := 12) rfl rfl ck_231) stop n i ls st h
theorem nl_231 (as : List zVal) (h : zHeap) : zc 231 as h = zr 231 0 (zen 2 as) [] h := rfl
theorem U_232 (stop : Nat → Bool) (n i : Nat) (ls : zLoc) (st : zStk) (h : zHeap) : zr 232 i ls st h = zU cd_232 (zr 232) zc stop n i ls st h := zU' (zcd (M := 232) (own := 12) rfl rfl ck_232) stop n i ls st h
theorem nl_232 (as : List zVal) (h : zHeap) : zc 232 as h = zr 232 0 (zen 2 as) [] h := rfl
theorem U_233 (stop : Nat → Bool) (n i : Nat) (ls : zLoc) (st : zStk) (h : zHeap) : zr 233 i ls st h = zU cd_233 (zr 233) zc stop n i ls st h := zU' (zcd (M := 233) (own := 12) rfl rfl ck_233) stop n i ls st h
theorem nl_233 (as : List zVal) (h : zHeap) : zc 233 as h = zr 233 0 (zen 2 as) [] h := rfl
theorem U_234 (stop : Nat → Bool) (n i : Nat) (ls : zLoc) (st : zStk) (h : zHeap) : zr 234 i ls st h = zU cd_234 (zr 234) zc stop n i ls st h := zU' (zcd (M := 234) (own := 12) rfl rfl ck_234) stop n i ls st h
theorem nl_234 (as : List zVal) (h : zHeap) : zc 234 as h = zr 234 0 (zen 2 as) [] h := rfl
theorem U_235 (stop : Nat → Bool) (n i : Nat) (ls : zLoc) (st : zStk) (h : zHeap) : zr 235 i ls st h = zU cd_235 (zr 235) zc stop n i ls st h := zU' (zcd (M := 235) (own := 12) rfl rfl ck_235) stop n i ls st h
theorem nl_235 (as : List zVal) (h : zHeap) : zc 235 as h = zr 235 0 (zen 4 as) [] h := rfl
theorem U_236 (stop : Nat → Bool) (n i : Nat) (ls : zLoc) (st : zStk) (h : zHeap) : zr 236 i ls st h = zU cd_236 (zr 236) zc stop n i ls st h := zU' (zcd (M := 236) (own := 12) rfl rfl ck_236) stop n i ls st h
theorem nl_236 (as : List zVal) (h : zHeap) : zc 236 as h = zr 236 0 (zen 2 as) [] h := rfl
theorem U_237 (stop : Nat → Bool) (n i : Nat) (ls : zLoc) (st : zStk) (h : zHeap) : zr 237 i ls st h = zU cd_237 (zr 237) zc stop n i ls st h := zU' (zcd (M := 237) (own := 12) rfl rfl ck_237) stop n i ls st h
theorem nl_237 (as : List zVal) (h : zHeap) : zc 237 as h = zr 237 0 (zen 3 as) [] h := rfl
theorem U_238 (stop : Nat → Bool) (n i : Nat) (ls : zLoc) (st : zStk) (h : zHeap) : zr 238 i ls st h = zU cd_238 (zr 238) zc stop n i ls st h := zU' (zcd (M := 238) (own := 12) rfl rfl ck_238) stop n i ls st h
theorem nl_238 (as : List zVal) (h : zHeap) : zc 238 as h = zr 238 0 (zen 2 as) [] h := rfl
theorem U_239 (stop : Nat → Bool) (n i : Nat) (ls : zLoc) (st : zStk) (h : zHeap) : zr 239 i ls st h = zU cd_239 (zr 239) zc stop n i ls st h := zU' (zcd (M := 239) (own := 12) rfl rfl ck_239) stop n i ls st h
theorem nl_239 (as : List zVal) (h : zHeap) : zc 239 as h = zr 239 0 (zen 3 as) [] h := rfl
theorem U_240 (stop : Nat → Bool) (n i : Nat) (ls : zLoc) (st : zStk) (h : zHeap) : zr 240 i ls st h = zU cd_240 (zr 240) zc stop n i ls st h := zU' (zcd (M := 240) (own := 12) rfl rfl ck_240) stop n i ls st h
theorem nl_240 (as : List zVal) (h : zHeap) : zc 240 as h = zr 240 0 (zen 5 as) [] h := rfl
theorem U_241 (stop : Nat → Bool) (n i : Nat) (ls : zLoc) (st : zStk) (h : zHeap) : zr 241 i ls st h = zU cd_241 (zr 241) zc stop n i ls st h := zU' (zcd (M := 241) (own := 12) rfl rfl ck_241) stop n i ls st h
theorem nl_241 (as : List zVal) (h : zHeap) : zc 241 as h = zr 241 0 (zen 6 as) [] h := rfl
theorem U_242 (stop : Nat → Bool) (n i : Nat) (ls : zLoc) (st : zStk) (h : zHeap) : zr 242 i ls st h = zU cd_242 (zr 242) zc stop n i ls st h := zU' (zcd (M := 242) (own := 12) rfl rfl ck_242) stop n i ls st h
theorem nl_242 (as : List zVal) (h : zHeap) : zc 242 as h = zr 242 0 (zen 5 as) [] h := rfl
theorem U_243 (stop : Nat → Bool) (n i : Nat) (ls : zLoc) (st : zStk) (h : zHeap) : zr 243 i ls st h = zU cd_243 (zr 243) zc stop n i ls st h := zU' (zcd (M := 243) (own := 12) rfl rfl ck_243) stop n i ls st h
theorem nl_243 (as : List zVal) (h : zHeap) : zc 243 as h = zr 243 0 (zen 7 as) [] h := rfl
theorem U_244 (stop : Nat → Bool) (n i : Nat) (ls : zLoc) (st : zStk) (h : zHeap) : zr 244 i ls st h = zU cd_244 (zr 244) zc stop n i ls st h := zU' (zcd (M := 244) (own := 12) rfl rfl ck_244) stop n i ls st h
theorem nl_244 (as : List zVal) (h : zHeap) : zc 244 as h = zr 244 0 (zen 10 as) [] h := rfl
theorem U_245 (stop : Nat → Bool) (n i : Nat) (ls : zLoc) (st : zStk) (h : zHeap) : zr 245 i ls st h = zU cd_245 (zr 245) zc stop n i ls st h := zU' (zcd (M := 245) (own := 12) rfl rfl ck_245) stop n i ls st h
theorem nl_245 (as : List zVal) (h : zHeap) : zc 245 as h = zr 245 0 (zen 5 as) [] h := rfl
theorem U_246 (stop : Nat → Bool) (n i : Nat) (ls : zLoc) (st : zStk) (h : zHeap) : zr 246 i ls st h = zU cd_246 (zr 246) zc stop n i ls st h := zU' (zcd (M := 246) (own := 12) rfl rfl ck_246) stop n i ls st h
theorem nl_246 (as : List zVal) (h : zHeap) : zc 246 as h = zr 246 0 (zen 6 as) [] h := rfl
theorem U_247 (stop : Nat → Bool) (n i : Nat) (ls : zLoc) (st : zStk) (h : zHeap) : zr 247 i ls st h = zU cd_247 (zr 247) zc stop n i ls st h := zU' (zcd (M := 247) (own := 12) rfl rfl ck_247) stop n i ls st h
theorem nl_247 (as : List zVal) (h : zHeap) : zc 247 as h = zr 247 0 (zen 3 as) [] h := rfl
theorem U_248 (stop : Nat → Bool) (n i : Nat) (ls : zLoc) (st : zStk) (h : zHeap) : zr 248 i ls st h = zU cd_248 (zr 248) zc stop n i ls st h := zU' (zcd (M := 248) (own := 12) rfl rfl ck_248) stop n i ls st h
theorem nl_248 (as : List zVal) (h : zHeap) : zc 248 as h = zr 248 0 (zen 9 as) [] h := rfl
theorem U_249 (stop : Nat → Bool) (n i : Nat) (ls : zLoc) (st : zStk) (h : zHeap) : zr 249 i ls st h = zU cd_249 (zr 249) zc stop n i ls st h := zU' (zcd (M := 249) (own := 12) rfl rfl ck_249) stop n i ls st h
theorem nl_249 (as : List zVal) (h : zHeap) : zc 249 as h = zr 249 0 (zen 3 as) [] h := rfl
theorem U_250 (stop : Nat → Bool) (n i : Nat) (ls : zLoc) (st : zStk) (h : zHeap) : zr 250 i ls st h = zU cd_250 (zr 250) zc stop n i ls st h := zU' (zcd (M := 250) (own := 12) rfl rfl ck_250) stop n i ls st h
theorem nl_250 (as : List zVal) (h : zHeap) : zc 250 as h = zr 250 0 (zen 8 as) [] h := rfl
theorem U_251 (stop : Nat → Bool) (n i : Nat) (ls : zLoc) (st : zStk) (h : zHeap) : zr 251 i ls st h = zU cd_251 (zr 251) zc stop n i ls st h := zU' (zcd (M := 251) (own := 12) rfl rfl ck_251) stop n i ls st h
theorem nl_251 (as : List zVal) (h : zHeap) : zc 251 as h = zr 251 0 (zen 5 as) [] h := rfl
theorem U_252 (stop : Nat → Bool) (n i : Nat) (ls : zLoc) (st : zStk) (h : zHeap) : zr 252 i ls st h = zU cd_252 (zr 252) zc stop n i ls st h := zU' (zcd (M := 252) (own := 12) rfl rfl ck_252) stop n i ls st h
theorem nl_252 (as : List zVal) (h : zHeap) : zc 252 as h = zr 252 0 (zen 8 as) [] h := rfl
theorem U_253 (stop : Nat → Bool) (n i : Nat) (ls : zLoc) (st : zStk) (h : zHeap) : zr 253 i ls st h = zU cd_253 (zr 253) zc stop n i ls st h := zU' (zcd (M := 253) (own := 12) rfl rfl ck_253) stop n i ls st h
theorem nl_253 (as : List zVal) (h : zHeap) : zc 253 as h = zr 253 0 (zen 6 as) [] h := rfl
theorem U_254 (stop : Nat → Bool) (n i : Nat) (ls : zLoc) (st : zStk) (h : zHeap) : zr 254 i ls st h = zU cd_254 (zr 254) zc stop n i ls st h := zU' (zcd (M := 254) (own := 12) rfl rfl ck_254) stop n i ls st h
theorem nl_254 (as : List zVal) (h : zHeap) : zc 254 as h = zr 254 0 (zen 7 as) [] h := rfl
theorem U_255 (stop : Nat → Bool) (n i : Nat) (ls : zLoc) (st : zStk) (h : zHeap) : zr 255 i ls st h = zU cd_255 (zr 255) zc stop n i ls st h := zU' (zcd (M := 255) (own := 12) rfl rfl ck_255) stop n i ls st h
theorem nl_255 (as : List zVal) (h : zHeap) : zc 255 as h = zr 255 0 (zen 7 as) [] h := rfl
theorem U_256 (stop : Nat → Bool) (n i : Nat) (ls : zLoc) (st : zStk) (h : zHeap) : zr 256 i ls st h = zU cd_256 (zr 256) zc stop n i ls st h := zU' (zcd (M := 256) (own := 12) rfl rfl ck_256) stop n i ls st h
theorem nl_256 (as : List zVal) (h : zHeap) : zc 256 as h = zr 256 0 (zen 3 as) [] h := rfl
theorem U_257 (stop : Nat → Bool) (n i : Nat) (ls : zLoc) (st : zStk) (h : zHeap) : zr 257 i ls st h = zU cd_257 (zr 257) zc stop n i ls st h := zU' (zcd (M := 257) (own := 12) rfl rfl ck_257) stop n i ls st h
theorem nl_257 (as : List zVal) (h : zHeap) : zc 257 as h = zr 257 0 (zen 6 as) [] h := rfl
theorem U_258 (stop : Nat → Bool) (n i : Nat) (ls : zLoc) (st : zStk) (h : zHeap) : zr 258 i ls st h = zU cd_258 (zr 258) zc stop n i ls st h := zU' (zcd (M := 258) (own := 12) rfl rfl ck_258) stop n i ls st h
theorem nl_258 (as : List zVal) (h : zHeap) : zc 258 as h = zr 258 0 (zen 7 as) [] h := rfl
theorem U_259 (stop : Nat → Bool) (n i : Nat) (ls : zLoc) (st : zStk) (h : zHeap) : zr 259 i ls st h = zU cd_259 (zr 259) zc stop n i ls st h := zU' (zcd (M := 259) (own := 12) rfl rfl ck_259) stop n i ls st h
theorem nl_259 (as : List zVal) (h : zHeap) : zc 259 as h = zr 259 0 (zen 6 as) [] h := rfl
theorem U_260 (stop : Nat → Bool) (n i : Nat) (ls : zLoc) (st : zStk) (h : zHeap) : zr 260 i ls st h = zU cd_260 (zr 260) zc stop n i ls st h := zU' (zcd (M := 260) (own := 12) rfl rfl ck_260) stop n i ls st h
theorem nl_260 (as : List zVal) (h : zHeap) : zc 260 as h = zr 260 0 (zen 5 as) [] h := rfl
theorem U_261 (stop : Nat → Bool) (n i : Nat) (ls : zLoc) (st : zStk) (h : zHeap) : zr 261 i ls st h = zU cd_261 (zr 261) zc stop n i ls st h := zU' (zcd (M := 261) (own := 12) rfl rfl ck_261) stop n i ls st h
theorem nl_261 (as : List zVal) (h : zHeap) : zc 261 as h = zr 261 0 (zen 8 as) [] h := rfl
theorem U_262 (stop : Nat → Bool) (n i : Nat) (ls : zLoc) (st : zStk) (h : zHeap) : zr 262 i ls st h = zU cd_262 (zr 262) zc stop n i ls st h := zU' (zcd (M := 262) (own := 12) rfl rfl ck_262) stop n i ls st h
theorem nl_262 (as : List zVal) (h : zHeap) : zc 262 as h = zr 262 0 (zen 9 as) [] h := rfl
theorem U_263 (stop : Nat → Bool) (n i : Nat) (ls : zLoc) (st : zStk) (h : zHeap) : zr 263 i ls st h = zU cd_263 (zr 263) zc stop n i ls st h := zU' (zcd (M := 263) (own := 12) rfl rfl ck_263) stop n i ls st h
theorem nl_263 (as : List zVal) (h : zHeap) : zc 263 as h = zr 263 0 (zen 6 as) [] h := rfl
theorem U_264 (stop : Nat → Bool) (n i : Nat) (ls : zLoc) (st : zStk) (h : zHeap) : zr 264 i ls st h = zU cd_264 (zr 264) zc stop n i ls st h := zU' (zcd (M := 264) (own := 12) rfl rfl ck_264) stop n i ls st h
theorem nl_264 (as : List zVal) (h : zHeap) : zc 264 as h = zr 264 0 (zen 6 as) [] h := rfl
theorem U_265 (stop : Nat → Bool) (n i : Nat) (ls : zLoc) (st : zStk) (h : zHeap) : zr 265 i ls st h = zU cd_265 (zr 265) zc stop n i ls st h := zU' (zcd (M := 265) (own := 12) rfl rfl ck_265) stop n i ls st h
theorem nl_265 (as : List zVal) (h : zHeap) : zc 265 as h = zr 265 0 (zen 7 as) [] h := rfl
theorem U_266 (stop : Nat → Bool) (n i : Nat) (ls : zLoc) (st : zStk) (h : zHeap) : zr 266 i ls st h = zU cd_266 (zr 266) zc stop n i ls st h := zU' (zcd (M := 266) (own := 12) rfl rfl ck_266) stop n i ls st h
theorem nl_266 (as : List zVal) (h : zHeap) : zc 266 as h = zr 266 0 (zen 6 as) [] h := rfl
theorem U_267 (stop : Nat → Bool) (n i : Nat) (ls : zLoc) (st : zStk) (h : zHeap) : zr 267 i ls st h = zU cd_267 (zr 267) zc stop n i ls st h := zU' (zcd (M := 267) (own := 12) rfl rfl ck_267) stop n i ls st h
theorem nl_267 (as : List zVal) (h : zHeap) : zc 267 as h = zr 267 0 (zen 6 as) [] h := rfl
theorem U_268 (stop : Nat → Bool) (n i : Nat) (ls : zLoc) (st : zStk) (h : zHeap) : zr 268 i ls st h = zU cd_268 (zr 268) zc stop n i ls st h := zU' (zcd (M := 268) (own := 12) rfl rfl ck_268) stop n i ls st h
theorem nl_268 (as : List zVal) (h : zHeap) : zc 268 as h = zr 268 0 (zen 4 as) [] h := rfl
theorem U_269 (stop : Nat → Bool) (n i : Nat) (ls : zLoc) (st : zStk) (h : zHeap) : zr 269 i ls st h = zU cd_269 (zr 269) zc stop n i ls st h := zU' (zcd (M := 269) (own := 12) rfl rfl ck_269) stop n i ls st h
theorem nl_269 (as : List zVal) (h : zHeap) : zc 269 as h = zr 269 0 (zen 4 as) [] h := rfl
theorem U_270 (stop : Nat → Bool) (n i : Nat) (ls : zLoc) (st : zStk) (h : zHeap) : zr 270 i ls st h = zU cd_270 (zr 270) zc stop n i ls st h := zU' (zcd (M := 270) (own := 12) rfl rfl ck_270) stop n i ls st h
theorem nl_270 (as : List zVal) (h : zHeap) : zc 270 as h = zr 270 0 (zen 8 as) [] h := rfl
theorem U_271 (stop : Nat → Bool) (n i : Nat) (ls : zLoc) (st : zStk) (h : zHeap) : zr 271 i ls st h = zU cd_271 (zr 271) zc stop n i ls st h := zU' (zcd (M := 271) (own := 12) rfl rfl ck_271) stop n i ls st h
theorem nl_271 (as : List zVal) (h : zHeap) : zc 271 as h = zr 271 0 (zen 3 as) [] h := rfl
theorem U_272 (stop : Nat → Bool) (n i : Nat) (ls : zLoc) (st : zStk) (h : zHeap) : zr 272 i ls st h = zU cd_272 (zr 272) zc stop n i ls st h := zU' (zcd (M := 272) (own := 12) rfl rfl ck_272) stop n i ls st h
theorem nl_272 (as : List zVal) (h : zHeap) : zc 272 as h = zr 272 0 (zen 8 as) [] h := rfl
theorem U_273 (stop : Nat → Bool) (n i : Nat) (ls : zLoc) (st : zStk) (h : zHeap) : zr 273 i ls st h = zU cd_273 (zr 273) zc stop n i ls st h := zU' (zcd (M := 273) (own := 12) rfl rfl ck_273) stop n i ls st h
theorem nl_273 (as : List zVal) (h : zHeap) : zc 273 as h = zr 273 0 (zen 6 as) [] h := rfl
theorem U_274 (stop : Nat → Bool) (n i : Nat) (ls : zLoc) (st : zStk) (h : zHeap) : zr 274 i ls st h = zU cd_274 (zr 274) zc stop n i ls st h := zU' (zcd (M := 274) (own := 12) rfl rfl ck_274) stop n i ls st h
theorem nl_274 (as : List zVal) (h : zHeap) : zc 274 as h = zr 274 0 (zen 4 as) [] h := rfl
theorem U_275 (stop : Nat → Bool) (n i : Nat) (ls : zLoc) (st : zStk) (h : zHeap) : zr 275 i ls st h = zU cd_275 (zr 275) zc stop n i ls st h := zU' (zcd (M := 275) (own := 12) rfl rfl ck_275) stop n i ls st h
theorem nl_275 (as : List zVal) (h : zHeap) : zc 275 as h = zr 275 0 (zen 6 as) [] h := rfl
theorem U_276 (stop : Nat → Bool) (n i : Nat) (ls : zLoc) (st : zStk) (h : zHeap) : zr 276 i ls st h = zU cd_276 (zr 276) zc stop n i ls st h := zU' (zcd (M := 276) (own := 12) rfl rfl ck_276) stop n i ls st h
theorem nl_276 (as : List zVal) (h : zHeap) : zc 276 as h = zr 276 0 (zen 5 as) [] h := rfl
theorem U_277 (stop : Nat → Bool) (n i : Nat) (ls : zLoc) (st : zStk) (h : zHeap) : zr 277 i ls st h = zU cd_277 (zr 277) zc stop n i ls st h := zU' (zcd (M := 277) (own := 12) rfl rfl ck_277) stop n i ls st h
theorem nl_277 (as : List zVal) (h : zHeap) : zc 277 as h = zr 277 0 (zen 4 as) [] h := rfl
theorem U_278 (stop : Nat → Bool) (n i : Nat) (ls : zLoc) (st : zStk) (h : zHeap) : zr 278 i ls st h = zU cd_278 (zr 278) zc stop n i ls st h := zU' (zcd (M := 278) (own := 12) rfl rfl ck_278) stop n i ls st h
theorem nl_278 (as : List zVal) (h : zHeap) : zc 278 as h = zr 278 0 (zen 4 as) [] h := rfl
theorem U_279 (stop : Nat → Bool) (n i : Nat) (ls : zLoc) (st : zStk) (h : zHeap) : zr 279 i ls st h = zU cd_279 (zr 279) zc stop n i ls st h := zU' (zcd (M := 279) (own := 12) rfl rfl ck_279) stop n i ls st h
theorem nl_279 (as : List zVal) (h : zHeap) : zc 279 as h = zr 279 0 (zen 5 as) [] h := rfl
theorem U_280 (stop : Nat → Bool) (n i : Nat) (ls : zLoc) (st : zStk) (h : zHeap) : zr 280 i ls st h = zU cd_280 (zr 280) zc stop n i ls st h := zU' (zcd (M := 280) (own := 12) rfl rfl ck_280) stop n i ls st h
theorem nl_280 (as : List zVal) (h : zHeap) : zc 280 as h = zr 280 0 (zen 6 as) [] h := rfl
theorem U_281 (stop : Nat → Bool) (n i : Nat) (ls : zLoc) (st : zStk) (h : zHeap) : zr 281 i ls st h = zU cd_281 (zr 281) zc stop n i ls st h := zU' (zcd (M := 281) (own := 12) rfl rfl ck_281) stop n i ls st h
theorem nl_281 (as : List zVal) (h : zHeap) : zc 281 as h = zr 281 0 (zen 7 as) [] h := rfl
theorem U_282 (stop : Nat → Bool) (n i : Nat) (ls : zLoc) (st : zStk) (h : zHeap) : zr 282 i ls st h = zU cd_282 (zr 282) zc stop n i ls st h := zU' (zcd (M := 282) (own := 12) rfl rfl ck_282) stop n i ls st h
theorem nl_282 (as : List zVal) (h : zHeap) : zc 282 as h = zr 282 0 (zen 7 as) [] h := rfl
theorem U_283 (stop : Nat → Bool) (n i : Nat) (ls : zLoc) (st : zStk) (h : zHeap) : zr 283 i ls st h = zU cd_283 (zr 283) zc stop n i ls st h := zU' (zcd (M := 283) (own := 12) rfl rfl ck_283) stop n i ls st h
theorem nl_283 (as : List zVal) (h : zHeap) : zc 283 as h = zr 283 0 (zen 6 as) [] h := rfl
theorem U_284 (stop : Nat → Bool) (n i : Nat) (ls : zLoc) (st : zStk) (h : zHeap) : zr 284 i ls st h = zU cd_284 (zr 284) zc stop n i ls st h := zU' (zcd (M := 284) (own := 12) rfl rfl ck_284) stop n i ls st h
theorem nl_284 (as : List zVal) (h : zHeap) : zc 284 as h = zr 284 0 (zen 7 as) [] h := rfl
theorem U_285 (stop : Nat → Bool) (n i : Nat) (ls : zLoc) (st : zStk) (h : zHeap) : zr 285 i ls st h = zU cd_285 (zr 285) zc stop n i ls st h := zU' (zcd (M := 285) (own := 12) rfl rfl ck_285) stop n i ls st h
theorem nl_285 (as : List zVal) (h : zHeap) : zc 285 as h = zr 285 0 (zen 6 as) [] h := rfl
theorem U_286 (stop : Nat → Bool) (n i : Nat) (ls : zLoc) (st : zStk) (h : zHeap) : zr 286 i ls st h = zU cd_286 (zr 286) zc stop n i ls st h := zU' (zcd (M := 286) (own := 12) rfl rfl ck_286) stop n i ls st h
theorem nl_286 (as : List zVal) (h : zHeap) : zc 286 as h = zr 286 0 (zen 2 as) [] h := rfl
theorem U_287 (stop : Nat → Bool) (n i : Nat) (ls : zLoc) (st : zStk) (h : zHeap) : zr 287 i ls st h = zU cd_287 (zr 287) zc stop n i ls st h := zU' (zcd (M := 287) (own := 12) rfl rfl ck_287) stop n i ls st h
theorem nl_287 (as : List zVal) (h : zHeap) : zc 287 as h = zr 287 0 (zen 4 as) [] h := rfl
theorem U_288 (stop : Nat → Bool) (n i : Nat) (ls : zLoc) (st : zStk) (h : zHeap) : zr 288 i ls st h = zU cd_288 (zr 288) zc stop n i ls st h := zU' (zcd (M := 288) (own := 12) rfl rfl ck_288) stop n i ls st h
theorem nl_288 (as : List zVal) (h : zHeap) : zc 288 as h = zr 288 0 (zen 2 as) [] h := rfl
theorem U_289 (stop : Nat → Bool) (n i : Nat) (ls : zLoc) (st : zStk) (h : zHeap) : zr 289 i ls st h = zU cd_289 (zr 289) zc stop n i ls st h := zU' (zcd (M := 289) (own := 12) rfl rfl ck_289) stop n i ls st h
theorem nl_289 (as : List zVal) (h : zHeap) : zc 289 as h = zr 289 0 (zen 2 as) [] h := rfl
theorem U_290 (stop : Nat → Bool) (n i : Nat) (ls : zLoc) (st : zStk) (h : zHeap) : zr 290 i ls st h = zU cd_290 (zr 290) zc stop n i ls st h := zU' (zcd (M := 290) (own := 12) rfl rfl ck_290) stop n i ls st h
theorem nl_290 (as : List zVal) (h : zHeap) : zc 290 as h = zr 290 0 (zen 2 as) [] h := rfl
theorem U_291 (stop : Nat → Bool) (n i : Nat) (ls : zLoc) (st : zStk) (h : zHeap) : zr 291 i ls st h = zU cd_291 (zr 291) zc stop n i ls st h := zU' (zcd (M := 291) (own := 12) rfl rfl ck_291) stop n i ls st h
theorem nl_291 (as : List zVal) (h : zHeap) : zc 291 as h = zr 291 0 (zen 5 as) [] h := rfl
theorem U_292 (stop : Nat → Bool) (n i : Nat) (ls : zLoc) (st : zStk) (h : zHeap) : zr 292 i ls st h = zU cd_292 (zr 292) zc stop n i ls st h := zU' (zcd (M := 292) (own := 12) rfl rfl ck_292) stop n i ls st h
theorem nl_292 (as : List zVal) (h : zHeap) : zc 292 as h = zr 292 0 (zen 5 as) [] h := rfl
theorem U_293 (stop : Nat → Bool) (n i : Nat) (ls : zLoc) (st : zStk) (h : zHeap) : zr 293 i ls st h = zU cd_293 (zr 293) zc stop n i ls st h := zU' (zcd (M := 293) (own := 12) rfl rfl ck_293) stop n i ls st h
theorem nl_293 (as : List zVal) (h : zHeap) : zc 293 as h = zr 293 0 (zen 8 as) [] h := rfl
theorem U_294 (stop : Nat → Bool) (n i : Nat) (ls : zLoc) (st : zStk) (h : zHeap) : zr 294 i ls st h = zU cd_294 (zr 294) zc stop n i ls st h := zU' (zcd (M := 294) (own := 12) rfl rfl ck_294) stop n i ls st h
theorem nl_294 (as : List zVal) (h : zHeap) : zc 294 as h = zr 294 0 (zen 3 as) [] h := rfl
theorem U_295 (stop : Nat → Bool) (n i : Nat) (ls : zLoc) (st : zStk) (h : zHeap) : zr 295 i ls st h = zU cd_295 (zr 295) zc stop n i ls st h := zU' (zcd (M := 295) (own := 12) rfl rfl ck_295) stop n i ls st h
theorem nl_295 (as : List zVal) (h : zHeap) : zc 295 as h = zr 295 0 (zen 2 as) [] h := rfl
theorem U_296 (stop : Nat → Bool) (n i : Nat) (ls : zLoc) (st : zStk) (h : zHeap) : zr 296 i ls st h = zU cd_296 (zr 296) zc stop n i ls st h := zU' (zcd (M := 296) (own := 12) rfl rfl ck_296) stop n i ls st h
theorem nl_296 (as : List zVal) (h : zHeap) : zc 296 as h = zr 296 0 (zen 7 as) [] h := rfl
theorem U_297 (stop : Nat → Bool) (n i : Nat) (ls : zLoc) (st : zStk) (h : zHeap) : zr 297 i ls st h = zU cd_297 (zr 297) zc stop n i ls st h := zU' (zcd (M := 297) (own := 12) rfl rfl ck_297) stop n i ls st h
theorem nl_297 (as : List zVal) (h : zHeap) : zc 297 as h = zr 297 0 (zen 3 as) [] h := rfl
theorem U_298 (stop : Nat → Bool) (n i : Nat) (ls : zLoc) (st : zStk) (h : zHeap) : zr 298 i ls st h = zU cd_298 (zr 298) zc stop n i ls st h := zU' (zcd (M := 298) (own := 12) rfl rfl ck_298) stop n i ls st h
theorem nl_298 (as : List zVal) (h : zHeap) : zc 298 as h = zr 298 0 (zen 2 as) [] h := rfl
theorem U_299 (stop : Nat → Bool) (n i : Nat) (ls : zLoc) (st : zStk) (h : zHeap) : zr 299 i ls st h = zU cd_299 (zr 299) zc stop n i ls st h := zU' (zcd (M := 299) (own := 12) rfl rfl ck_299) stop n i ls st h
theorem nl_299 (as : List zVal) (h : zHeap) : zc 299 as h = zr 299 0 (zen 3 as) [] h := rfl
theorem U_300 (stop : Nat → Bool) (n i : Nat) (ls : zLoc) (st : zStk) (h : zHeap) : zr 300 i ls st h = zU cd_300 (zr 300) zc stop n i ls st h := zU' (zcd (M := 300) (own := 12) rfl rfl ck_300) stop n i ls st h
theorem nl_300 (as : List zVal) (h : zHeap) : zc 300 as h = zr 300 0 (zen 4 as) [] h := rfl
theorem U_301 (stop : Nat → Bool) (n i : Nat) (ls : zLoc) (st : zStk) (h : zHeap) : zr 301 i ls st h = zU cd_301 (zr 301) zc stop n i ls st h := zU' (zcd (M := 301) (own := 12) rfl rfl ck_301) stop n i ls st h
theorem nl_301 (as : List zVal) (h : zHeap) : zc 301 as h = zr 301 0 (zen 7 as) [] h := rfl
theorem U_302 (stop : Nat → Bool) (n i : Nat) (ls : zLoc) (st : zStk) (h : zHeap) : zr 302 i ls st h = zU cd_302 (zr 302) zc stop n i ls st h := zU' (zcd (M := 302) (own := 12) rfl rfl ck_302) stop n i ls st h
theorem nl_302 (as : List zVal) (h : zHeap) : zc 302 as h = zr 302 0 (zen 3 as) [] h := rfl
theorem U_303 (stop : Nat → Bool) (n i : Nat) (ls : zLoc) (st : zStk) (h : zHeap) : zr 303 i ls st h = zU cd_303 (zr 303) zc stop n i ls st h := zU' (zcd (M := 303) (own := 12) rfl rfl ck_303) stop n i ls st h
theorem nl_303 (as : List zVal) (h : zHeap) : zc 303 as h = zr 303 0 (zen 5 as) [] h := rfl
theorem U_304 (stop : Nat → Bool) (n i : Nat) (ls : zLoc) (st : zStk) (h : zHeap) : zr 304 i ls st h = zU cd_304 (zr 304) zc stop n i ls st h := zU' (zcd (M := 304) (own := 12) rfl rfl ck_304) stop n i ls st h
theorem nl_304 (as : List zVal) (h : zHeap) : zc 304 as h = zr 304 0 (zen 2 as) [] h := rfl
theorem U_305 (stop : Nat → Bool) (n i : Nat) (ls : zLoc) (st : zStk) (h : zHeap) : zr 305 i ls st h = zU cd_305 (zr 305) zc stop n i ls st h := zU' (zcd (M := 305) (own := 12) rfl rfl ck_305) stop n i ls st h
theorem nl_305 (as : List zVal) (h : zHeap) : zc 305 as h = zr 305 0 (zen 4 as) [] h := rfl
theorem U_306 (stop : Nat → Bool) (n i : Nat) (ls : zLoc) (st : zStk) (h : zHeap) : zr 306 i ls st h = zU cd_306 (zr 306) zc stop n i ls st h := zU' (zcd (M := 306) (own := 12) rfl rfl ck_306) stop n i ls st h
theorem nl_306 (as : List zVal) (h : zHeap) : zc 306 as h = zr 306 0 (zen 5 as) [] h := rfl
theorem U_307 (stop : Nat → Bool) (n i : Nat) (ls : zLoc) (st : zStk) (h : zHeap) : zr 307 i ls st h = zU cd_307 (zr 307) zc stop n i ls st h := zU' (zcd (M := 307) (own := 12) rfl rfl ck_307) stop n i ls st h
theorem nl_307 (as : List zVal) (h : zHeap) : zc 307 as h = zr 307 0 (zen 5 as) [] h := rfl
theorem U_308 (stop : Nat → Bool) (n i : Nat) (ls : zLoc) (st : zStk) (h : zHeap) : zr 308 i ls st h = zU cd_308 (zr 308) zc stop n i ls st h := zU' (zcd (M := 308) (own := 12) rfl rfl ck_308) stop n i ls st h
theorem nl_308 (as : List zVal) (h : zHeap) : zc 308 as h = zr 308 0 (zen 3 as) [] h := rfl
theorem U_309 (stop : Nat → Bool) (n i : Nat) (ls : zLoc) (st : zStk) (h : zHeap) : zr 309 i ls st h = zU cd_309 (zr 309) zc stop n i ls st h := zU' (zcd (M := 309) (own := 12) rfl rfl ck_309) stop n i ls st h
theorem nl_309 (as : List zVal) (h : zHeap) : zc 309 as h = zr 309 0 (zen 6 as) [] h := rfl
theorem U_310 (stop : Nat → Bool) (n i : Nat) (ls : zLoc) (st : zStk) (h : zHeap) : zr 310 i ls st h = zU cd_310 (zr 310) zc stop n i ls st h := zU' (zcd (M := 310) (own := 12) rfl rfl ck_310) stop n i ls st h
theorem nl_310 (as : List zVal) (h : zHeap) : zc 310 as h = zr 310 0 (zen 6 as) [] h := rfl
theorem U_311 (stop : Nat → Bool) (n i : Nat) (ls : zLoc) (st : zStk) (h : zHeap) : zr 311 i ls st h = zU cd_311 (zr 311) zc stop n i ls st h := zU' (zcd (M := 311) (own := 12) rfl rfl ck_311) stop n i ls st h
theorem nl_311 (as : List zVal) (h : zHeap) : zc 311 as h = zr 311 0 (zen 3 as) [] h := rfl
theorem U_312 (stop : Nat → Bool) (n i : Nat) (ls : zLoc) (st : zStk) (h : zHeap) : zr 312 i ls st h = zU cd_312 (zr 312) zc stop n i ls st h := zU' (zcd (M := 312) (own := 12) rfl rfl ck_312) stop n i ls st h
theorem nl_312 (as : List zVal) (h : zHeap) : zc 312 as h = zr 312 0 (zen 8 as) [] h := rfl
theorem U_313 (stop : Nat → Bool) (n i : Nat) (ls : zLoc) (st : zStk) (h : zHeap) : zr 313 i ls st h = zU cd_313 (zr 313) zc stop n i ls st h := zU' (zcd (M := 313) (own := 12) rfl rfl ck_313) stop n i ls st h
theorem nl_313 (as : List zVal) (h : zHeap) : zc 313 as h = zr 313 0 (zen 10 as) [] h := rfl
theorem U_314 (stop : Nat → Bool) (n i : Nat) (ls : zLoc) (st : zStk) (h : zHeap) : zr 314 i ls st h = zU cd_314 (zr 314) zc stop n i ls st h := zU' (zcd (M := 314) (own := 12) rfl rfl ck_314) stop n i ls st h
theorem nl_314 (as : List zVal) (h : zHeap) : zc 314 as h = zr 314 0 (zen 6 as) [] h := rfl
theorem U_315 (stop : Nat → Bool) (n i : Nat) (ls : zLoc) (st : zStk) (h : zHeap) : zr 315 i ls st h = zU cd_315 (zr 315) zc stop n i ls st h := zU' (zcd (M := 315) (own := 12) rfl rfl ck_315) stop n i ls st h
theorem nl_315 (as : List zVal) (h : zHeap) : zc 315 as h = zr 315 0 (zen 12 as) [] h := rfl
theorem U_316 (stop : Nat → Bool) (n i : Nat) (ls : zLoc) (st : zStk) (h : zHeap) : zr 316 i ls st h = zU cd_316 (zr 316) zc stop n i ls st h := zU' (zcd (M := 316) (own := 12) rfl rfl ck_316) stop n i ls st h
theorem nl_316 (as : List zVal) (h : zHeap) : zc 316 as h = zr 316 0 (zen 14 as) [] h := rfl
theorem U_317 (stop : Nat → Bool) (n i : Nat) (ls : zLoc) (st : zStk) (h : zHeap) : zr 317 i ls st h = zU cd_317 (zr 317) zc stop n i ls st h := zU' (zcd (M := 317) (own := 12) rfl rfl ck_317) stop n i ls st h
theorem nl_317 (as : List zVal) (h : zHeap) : zc 317 as h = zr 317 0 (zen 2 as) [] h := rfl
theorem U_318 (stop : Nat → Bool) (n i : Nat) (ls : zLoc) (st : zStk) (h : zHeap) : zr 318 i ls st h = zU cd_318 (zr 318) zc stop n i ls st h := zU' (zcd (M := 318) (own := 12) rfl rfl ck_318) stop n i ls st h
theorem nl_318 (as : List zVal) (h : zHeap) : zc 318 as h = zr 318 0 (zen 4 as) [] h := rfl
theorem U_319 (stop : Nat → Bool) (n i : Nat) (ls : zLoc) (st : zStk) (h : zHeap) : zr 319 i ls st h = zU cd_319 (zr 319) zc stop n i ls st h := zU' (zcd (M := 319) (own := 12) rfl rfl ck_319) stop n i ls st h
theorem nl_319 (as : List zVal) (h : zHeap) : zc 319 as h = zr 319 0 (zen 6 as) [] h := rfl
theorem U_320 (stop : Nat → Bool) (n i : Nat) (ls : zLoc) (st : zStk) (h : zHeap) : zr 320 i ls st h = zU cd_320 (zr 320) zc stop n i ls st h := zU' (zcd (M := 320) (own := 12) rfl rfl ck_320) stop n i ls st h
theorem nl_320 (as : List zVal) (h : zHeap) : zc 320 as h = zr 320 0 (zen 2 as) [] h := rfl
theorem U_321 (stop : Nat → Bool) (n i : Nat) (ls : zLoc) (st : zStk) (h : zHeap) : zr 321 i ls st h = zU cd_321 (zr 321) zc stop n i ls st h := zU' (zcd (M := 321) (own := 12) rfl rfl ck_321) stop n i ls st h
theorem nl_321 (as : List zVal) (h : zHeap) : zc 321 as h = zr 321 0 (zen 3 as) [] h := rfl
theorem U_322 (stop : Nat → Bool) (n i : Nat) (ls : zLoc) (st : zStk) (h : zHeap) : zr 322 i ls st h = zU cd_322 (zr 322) zc stop n i ls st h := zU' (zcd (M := 322) (own := 12) rfl rfl ck_322) stop n i ls st h
theorem nl_322 (as : List zVal) (h : zHeap) : zc 322 as h = zr 322 0 (zen 3 as) [] h := rfl
theorem U_323 (stop : Nat → Bool) (n i : Nat) (ls : zLoc) (st : zStk) (h : zHeap) : zr 323 i ls st h = zU cd_323 (zr 323) zc stop n i ls st h := zU' (zcd (M := 323) (own := 13) rfl rfl ck_323) stop n i ls st h
theorem nl_323 (as : List zVal) (h : zHeap) : zc 323 as h = zr 323 0 (zen 4 as) [] h := rfl
theorem U_324 (stop : Nat → Bool) (n i : Nat) (ls : zLoc) (st : zStk) (h : zHeap) : zr 324 i ls st h = zU cd_324 (zr 324) zc stop n i ls st h := zU' (zcd (M := 324) (own := 14) rfl rfl ck_324) stop n i ls st h
theorem nl_324 (as : List zVal) (h : zHeap) : zc 324 as h = zr 324 0 (zen 4 as) [] h := rfl
theorem U_325 (stop : Nat → Bool) (n i : Nat) (ls : zLoc) (st : zStk) (h : zHeap) : zr 325 i ls st h = zU cd_325 (zr 325) zc stop n i ls st h := zU' (zcd (M := 325) (own := 15) rfl rfl ck_325) stop n i ls st h
theorem nl_325 (as : List zVal) (h : zHeap) : zc 325 as h = zr 325 0 (zen 1 as) [] h := rfl
