/-- Model_isFree -/
def in_247 : List zIns := [(0, .iload_n 2, 1), (1, .bipush 6, 2), (3, .if_icmp .eq 19, 3), (6, .aload_n 0, 1), (7, .iload_n 2, 1), (8, .invokevirtual 179, 3), (11, .ifCond .eq 15, 3), (14, .iload_n 1, 1),
  (15, .iload_n 2, 1), (16, .ishr, 1), (17, .iconst 1, 1), (18, .iand, 1), (19, .ifCond .ne 7, 3), (22, .iconst 1, 1), (23, .goto 4, 3), (26, .iconst 0, 1),
  (27, .ireturn, 1)]
def cd_247 : List zSem := [sP (fIld 2), sP (fCon 6), sBr (c2 (zcI .eq)) 13, sP (fAld 0), sP (fIld 2), sCI 227 2 (some 12) 2,
  sBr (c1 (zc0 .eq)) 15, sP (fIld 1), sP (fIld 2), sP (fII zshr), sP (fCon 1), sP (fII (fun x y => x &&& y)),
  sBr (c1 (zc0 .ne)) 15, sP (fCon 1), sGo 16, sP (fCon 0), sRz]
set_option maxRecDepth 100000 in
theorem ck_247 : in_247.map (fun q => zsem zTb (zlk zPl_12) (ztg in_247 q.1) true q.2.1) = cd_247.map some := rfl
/-- Model_favour -/
def in_248 : List zIns := [(0, .aload_n 0, 1), (1, .iload_n 1, 1), (2, .invokevirtual 176, 3), (5, .ifCond .eq 35, 3), (8, .aload_n 0, 1), (9, .iload_n 2, 1), (10, .invokevirtual 188, 3), (13, .ifCond .eq 27, 3),
  (16, .iload_n 3, 1), (17, .iconst 0, 1), (18, .iconst 2, 1), (19, .invokestatic 114, 3), (22, .ifCond .eq 18, 3), (25, .iload 4, 2), (27, .iconst (-1), 1), (28, .if_icmp .eq 14, 3),
  (31, .aload_n 0, 1), (32, .iload 4, 2), (34, .invokevirtual 194, 3), (37, .ifCond .ne 5, 3), (40, .iconst (-1), 1), (41, .ireturn, 1), (42, .iconst 0, 1), (43, .istore 5, 2),
  (45, .iload 5, 2), (47, .bipush 64, 2), (49, .if_icmp .ge 25, 3), (52, .aload_n 0, 1), (53, .getfield 23, 3), (56, .bipush 64, 2), (58, .aload_n 0, 1), (59, .getfield 173, 3),
  (62, .imul, 1), (63, .iload 5, 2), (65, .iadd, 1), (66, .iconst 0, 1), (67, .iastore, 1), (68, .iinc 5 1, 3), (71, .goto (-26), 3), (74, .aload_n 0, 1),
  (75, .getfield 173, 3), (78, .iconst 1, 1), (79, .isub, 1), (80, .istore 5, 2), (82, .iload 5, 2), (84, .ifCond .lt 101, 3), (87, .iconst 0, 1), (88, .istore 6, 2),
  (90, .iload 6, 2), (92, .bipush 64, 2), (94, .if_icmp .ge 85, 3), (97, .iconst 0, 1), (98, .istore 7, 2), (100, .iconst 0, 1), (101, .istore 8, 2), (103, .iload 8, 2),
  (105, .bipush 7, 2), (107, .if_icmp .ge 51, 3), (110, .aload_n 0, 1), (111, .iload 6, 2), (113, .iload 8, 2), (115, .invokevirtual 241, 3), (118, .ifCond .eq 34, 3), (121, .aload_n 0, 1),
  (122, .iload_n 2, 1), (123, .iload 5, 2), (125, .iload 6, 2), (127, .iload 8, 2), (129, .iload_n 3, 1), (130, .invokevirtual 244, 3), (133, .iload 7, 2), (135, .if_icmp .le 17, 3),
  (138, .aload_n 0, 1), (139, .iload_n 2, 1), (140, .iload 5, 2), (142, .iload 6, 2), (144, .iload 8, 2), (146, .iload_n 3, 1), (147, .invokevirtual 244, 3), (150, .istore 7, 2),
  (152, .iinc 8 1, 3), (155, .goto (-52), 3), (158, .aload_n 0, 1), (159, .getfield 23, 3), (162, .bipush 64, 2), (164, .iload 5, 2), (166, .imul, 1), (167, .iload 6, 2),
  (169, .iadd, 1), (170, .iload 7, 2), (172, .iastore, 1), (173, .iinc 6 1, 3), (176, .goto (-86), 3), (179, .iinc 5 (-1), 3), (182, .goto (-100), 3), (185, .iload 4, 2),
  (187, .iconst (-1), 1), (188, .if_icmp .ne 10, 3), (191, .aload_n 0, 1), (192, .getfield 23, 3), (195, .iconst 0, 1), (196, .iaload, 1), (197, .ireturn, 1), (198, .iconst 0, 1),
  (199, .istore 5, 2), (201, .bipush 6, 2), (203, .istore 6, 2), (205, .iconst 0, 1), (206, .istore 7, 2), (208, .iload 7, 2), (210, .iload 4, 2), (212, .if_icmp .gt 77, 3),
  (215, .iconst 0, 1), (216, .istore 6, 2), (218, .aload_n 0, 1), (219, .iload 5, 2), (221, .iload 6, 2), (223, .invokevirtual 241, 3), (226, .ifCond .eq 31, 3), (229, .aload_n 0, 1),
  (230, .iload_n 2, 1), (231, .iload 7, 2), (233, .iload 5, 2), (235, .iload 6, 2), (237, .iload_n 3, 1), (238, .invokevirtual 244, 3), (241, .aload_n 0, 1), (242, .getfield 23, 3),
  (245, .bipush 64, 2), (247, .iload 7, 2), (249, .imul, 1), (250, .iload 5, 2), (252, .iadd, 1), (253, .iaload, 1), (254, .if_icmp .eq 9, 3), (257, .iinc 6 1, 3),
  (260, .goto (-42), 3), (263, .iload 5, 2), (265, .iload 6, 2), (267, .bipush 6, 2), (269, .if_icmp .ne 7, 3), (272, .iconst 0, 1), (273, .goto 7, 3), (276, .iconst 1, 1),
  (277, .iload 6, 2), (279, .ishl, 1), (280, .ior, 1), (281, .istore 5, 2), (283, .iinc 7 1, 3), (286, .goto (-78), 3), (289, .iload 6, 2), (291, .ireturn, 1)]
def cd_248 : List zSem := [sP (fAld 0), sP (fIld 1), sCI 226 2 (some 12) 2, sBr (c1 (zc0 .eq)) 20, sP (fAld 0), sP (fIld 2),
  sCI 228 2 (some 12) 2, sBr (c1 (zc0 .eq)) 20, sP (fIld 3), sP (fCon 0), sP (fCon 2), sCI 200 3 none 3,
  sBr (c1 (zc0 .eq)) 20, sP (fIld 4), sP (fCon (-1)), sBr (c2 (zcI .eq)) 22, sP (fAld 0), sP (fIld 4),
  sCI 229 2 (some 12) 2, sBr (c1 (zc0 .ne)) 22, sP (fCon (-1)), sRet rI, sP (fCon 0), sP (fIst 5),
  sP (fIld 5), sP (fCon 64), sBr (c2 (zcI .ge)) 39, sP (fAld 0), sRR (gFR 786), sP (fCon 64),
  sP (fAld 0), sRI (gFI 781), sP (fII (fun x y => x * y)), sP (fIld 5), sP (fII (fun x y => x + y)), sP (fCon 0),
  sWr wAI, sP (fInc 5 1), sGo 24, sP (fAld 0), sRI (gFI 781), sP (fCon 1),
  sP (fII (fun x y => x - y)), sP (fIst 5), sP (fIld 5), sBr (c1 (zc0 .lt)) 95, sP (fCon 0), sP (fIst 6),
  sP (fIld 6), sP (fCon 64), sBr (c2 (zcI .ge)) 93, sP (fCon 0), sP (fIst 7), sP (fCon 0),
  sP (fIst 8), sP (fIld 8), sP (fCon 7), sBr (c2 (zcI .ge)) 82, sP (fAld 0), sP (fIld 6),
  sP (fIld 8), sCI 247 3 (some 12) 3, sBr (c1 (zc0 .eq)) 80, sP (fAld 0), sP (fIld 2), sP (fIld 5),
  sP (fIld 6), sP (fIld 8), sP (fIld 3), sCI 246 6 (some 12) 6, sP (fIld 7), sBr (c2 (zcI .le)) 80,
  sP (fAld 0), sP (fIld 2), sP (fIld 5), sP (fIld 6), sP (fIld 8), sP (fIld 3),
  sCI 246 6 (some 12) 6, sP (fIst 7), sP (fInc 8 1), sGo 55, sP (fAld 0), sRR (gFR 786),
  sP (fCon 64), sP (fIld 5), sP (fII (fun x y => x * y)), sP (fIld 6), sP (fII (fun x y => x + y)), sP (fIld 7),
  sWr wAI, sP (fInc 6 1), sGo 48, sP (fInc 5 (-1)), sGo 44, sP (fIld 4),
  sP (fCon (-1)), sBr (c2 (zcI .ne)) 103, sP (fAld 0), sRR (gFR 786), sP (fCon 0), sRI gAI,
  sRet rI, sP (fCon 0), sP (fIst 5), sP (fCon 6), sP (fIst 6), sP (fCon 0),
  sP (fIst 7), sP (fIld 7), sP (fIld 4), sBr (c2 (zcI .gt)) 150, sP (fCon 0), sP (fIst 6),
  sP (fAld 0), sP (fIld 5), sP (fIld 6), sCI 247 3 (some 12) 3, sBr (c1 (zc0 .eq)) 135, sP (fAld 0),
  sP (fIld 2), sP (fIld 7), sP (fIld 5), sP (fIld 6), sP (fIld 3), sCI 246 6 (some 12) 6,
  sP (fAld 0), sRR (gFR 786), sP (fCon 64), sP (fIld 7), sP (fII (fun x y => x * y)), sP (fIld 5),
  sP (fII (fun x y => x + y)), sRI gAI, sBr (c2 (zcI .eq)) 137, sP (fInc 6 1), sGo 114, sP (fIld 5),
  sP (fIld 6), sP (fCon 6), sBr (c2 (zcI .ne)) 143, sP (fCon 0), sGo 146, sP (fCon 1),
  sP (fIld 6), sP (fII zshl), sP (fII (fun x y => x ||| y)), sP (fIst 5), sP (fInc 7 1), sGo 109,
  sP (fIld 6), sRet rI]
set_option maxRecDepth 100000 in
theorem ck_248 : in_248.map (fun q => zsem zTb (zlk zPl_12) (ztg in_248 q.1) false q.2.1) = cd_248.map some := rfl
/-- Model_bitsOf -/
def in_249 : List zIns := [(0, .iconst 0, 1), (1, .istore_n 1, 1), (2, .iconst 0, 1), (3, .istore_n 2, 1), (4, .iload_n 2, 1), (5, .bipush 9, 2), (7, .if_icmp .ge 17, 3), (10, .iload_n 1, 1),
  (11, .iload_n 0, 1), (12, .iload_n 2, 1), (13, .ishr, 1), (14, .iconst 1, 1), (15, .iand, 1), (16, .iadd, 1), (17, .istore_n 1, 1), (18, .iinc 2 1, 3),
  (21, .goto (-17), 3), (24, .iload_n 1, 1), (25, .ireturn, 1)]
def cd_249 : List zSem := [sP (fCon 0), sP (fIst 1), sP (fCon 0), sP (fIst 2), sP (fIld 2), sP (fCon 9),
  sBr (c2 (zcI .ge)) 17, sP (fIld 1), sP (fIld 0), sP (fIld 2), sP (fII zshr), sP (fCon 1),
  sP (fII (fun x y => x &&& y)), sP (fII (fun x y => x + y)), sP (fIst 1), sP (fInc 2 1), sGo 4, sP (fIld 1),
  sRet rI]
set_option maxRecDepth 100000 in
theorem ck_249 : in_249.map (fun q => zsem zTb (zlk zPl_12) (ztg in_249 q.1) false q.2.1) = cd_249.map some := rfl
/-- Model_laysDares -/
def in_250 : List zIns := [(0, .aload_n 0, 1), (1, .iload_n 1, 1), (2, .invokevirtual 222, 3), (5, .iconst 1, 1), (6, .aload_n 0, 1), (7, .getfield 173, 3), (10, .ishl, 1), (11, .iconst 1, 1),
  (12, .isub, 1), (13, .istore_n 3, 1), (14, .iload_n 3, 1), (15, .ifCond .lt 137, 3), (18, .aload_n 0, 1), (19, .iload_n 1, 1), (20, .invokevirtual 182, 3), (23, .iload_n 3, 1),
  (24, .invokestatic 248, 3), (27, .isub, 1), (28, .istore 4, 2), (30, .aload_n 0, 1), (31, .iload 4, 2), (33, .ifCond .le 8, 3), (36, .iload 4, 2), (38, .goto 4, 3),
  (41, .iconst 0, 1), (42, .putfield 203, 3), (45, .iconst (-1), 1), (46, .istore 5, 2), (48, .iconst 0, 1), (49, .istore 6, 2), (51, .iload 6, 2), (53, .aload_n 0, 1),
  (54, .getfield 173, 3), (57, .if_icmp .ge 71, 3), (60, .iload_n 3, 1), (61, .iload 6, 2), (63, .ishr, 1), (64, .iconst 1, 1), (65, .iand, 1), (66, .iconst 1, 1),
  (67, .if_icmp .ne 6, 3), (70, .goto 52, 3), (73, .aload_n 0, 1), (74, .iload_n 2, 1), (75, .iload 6, 2), (77, .invokevirtual 212, 3), (80, .ifCond .gt 7, 3), (83, .iconst 0, 1),
  (84, .goto 16, 3), (87, .iconst 2, 1), (88, .aload_n 0, 1), (89, .getfield 26, 3), (92, .iload_n 3, 1), (93, .iconst 1, 1), (94, .iload 6, 2), (96, .ishl, 1),
  (97, .ior, 1), (98, .iaload, 1), (99, .isub, 1), (100, .istore 7, 2), (102, .iload 7, 2), (104, .iload 5, 2), (106, .if_icmp .gt 6, 3), (109, .goto 13, 3),
  (112, .iload 7, 2), (114, .istore 5, 2), (116, .aload_n 0, 1), (117, .iload 6, 2), (119, .putfield 251, 3), (122, .iinc 6 1, 3), (125, .goto (-74), 3), (128, .aload_n 0, 1),
  (129, .getfield 26, 3), (132, .iload_n 3, 1), (133, .iload 5, 2), (135, .iconst (-1), 1), (136, .if_icmp .ne 7, 3), (139, .iconst 1, 1), (140, .goto 5, 3), (143, .iload 5, 2),
  (145, .iastore, 1), (146, .iinc 3 (-1), 3), (149, .goto (-135), 3), (152, .return_, 1)]
def cd_250 : List zSem := [sP (fAld 0), sP (fIld 1), sCV 236 2 (some 12) 2, sP (fCon 1), sP (fAld 0), sRI (gFI 781),
  sP (fII zshl), sP (fCon 1), sP (fII (fun x y => x - y)), sP (fIst 3), sP (fIld 3), sBr (c1 (zc0 .lt)) 83,
  sP (fAld 0), sP (fIld 1), sCI 230 2 (some 12) 2, sP (fIld 3), sCI 249 1 none 3, sP (fII (fun x y => x - y)),
  sP (fIst 4), sP (fAld 0), sP (fIld 4), sBr (c1 (zc0 .le)) 24, sP (fIld 4), sGo 25,
  sP (fCon 0), sWr (wFI 782), sP (fCon (-1)), sP (fIst 5), sP (fCon 0), sP (fIst 6),
  sP (fIld 6), sP (fAld 0), sRI (gFI 781), sBr (c2 (zcI .ge)) 71, sP (fIld 3), sP (fIld 6),
  sP (fII zshr), sP (fCon 1), sP (fII (fun x y => x &&& y)), sP (fCon 1), sBr (c2 (zcI .ne)) 42, sGo 69,
  sP (fAld 0), sP (fIld 2), sP (fIld 6), sCI 237 3 (some 12) 3, sBr (c1 (zc0 .gt)) 49, sP (fCon 0),
  sGo 59, sP (fCon 2), sP (fAld 0), sRR (gFR 787), sP (fIld 3), sP (fCon 1),
  sP (fIld 6), sP (fII zshl), sP (fII (fun x y => x ||| y)), sRI gAI, sP (fII (fun x y => x - y)), sP (fIst 7),
  sP (fIld 7), sP (fIld 5), sBr (c2 (zcI .gt)) 64, sGo 69, sP (fIld 7), sP (fIst 5),
  sP (fAld 0), sP (fIld 6), sWr (wFI 788), sP (fInc 6 1), sGo 30, sP (fAld 0),
  sRR (gFR 787), sP (fIld 3), sP (fIld 5), sP (fCon (-1)), sBr (c2 (zcI .ne)) 79, sP (fCon 1),
  sGo 80, sP (fIld 5), sWr wAI, sP (fInc 3 (-1)), sGo 10, sRet rV]
set_option maxRecDepth 100000 in
theorem ck_250 : in_250.map (fun q => zsem zTb (zlk zPl_12) (ztg in_250 q.1) false q.2.1) = cd_250.map some := rfl
/-- Model_dare -/
def in_251 : List zIns := [(0, .aload_n 0, 1), (1, .iload_n 1, 1), (2, .invokevirtual 176, 3), (5, .ifCond .eq 19, 3), (8, .aload_n 0, 1), (9, .iload_n 2, 1), (10, .invokevirtual 179, 3), (13, .ifCond .eq 11, 3),
  (16, .aload_n 0, 1), (17, .iload_n 3, 1), (18, .invokevirtual 188, 3), (21, .ifCond .ne 6, 3), (24, .bipush (-2), 2), (26, .ireturn, 1), (27, .aload_n 0, 1), (28, .iconst (-1), 1),
  (29, .putfield 251, 3), (32, .aload_n 0, 1), (33, .iload_n 2, 1), (34, .iload_n 3, 1), (35, .invokevirtual 254, 3), (38, .iload 4, 2), (40, .ifCond .eq 10, 3), (43, .aload_n 0, 1),
  (44, .getfield 251, 3), (47, .goto 32, 3), (50, .aload_n 0, 1), (51, .getfield 26, 3), (54, .iconst 0, 1), (55, .iaload, 1), (56, .iconst 2, 1), (57, .if_icmp .ne 7, 3),
  (60, .iconst 1, 1), (61, .goto 18, 3), (64, .aload_n 0, 1), (65, .getfield 26, 3), (68, .iconst 0, 1), (69, .iaload, 1), (70, .iconst 1, 1), (71, .if_icmp .ne 7, 3),
  (74, .iconst 2, 1), (75, .goto 4, 3), (78, .iconst 0, 1), (79, .ireturn, 1)]
def cd_251 : List zSem := [sP (fAld 0), sP (fIld 1), sCI 226 2 (some 12) 2, sBr (c1 (zc0 .eq)) 12, sP (fAld 0), sP (fIld 2),
  sCI 227 2 (some 12) 2, sBr (c1 (zc0 .eq)) 12, sP (fAld 0), sP (fIld 3), sCI 228 2 (some 12) 2, sBr (c1 (zc0 .ne)) 14,
  sP (fCon (-2)), sRet rI, sP (fAld 0), sP (fCon (-1)), sWr (wFI 788), sP (fAld 0),
  sP (fIld 2), sP (fIld 3), sCV 250 3 (some 12) 8, sP (fIld 4), sBr (c1 (zc0 .eq)) 26, sP (fAld 0),
  sRI (gFI 788), sGo 43, sP (fAld 0), sRR (gFR 787), sP (fCon 0), sRI gAI,
  sP (fCon 2), sBr (c2 (zcI .ne)) 34, sP (fCon 1), sGo 43, sP (fAld 0), sRR (gFR 787),
  sP (fCon 0), sRI gAI, sP (fCon 1), sBr (c2 (zcI .ne)) 42, sP (fCon 2), sGo 43,
  sP (fCon 0), sRet rI]
set_option maxRecDepth 100000 in
theorem ck_251 : in_251.map (fun q => zsem zTb (zlk zPl_12) (ztg in_251 q.1) false q.2.1) = cd_251.map some := rfl
/-- Model_alike -/
def in_252 : List zIns := [(0, .aload_n 0, 1), (1, .iload_n 1, 1), (2, .invokevirtual 176, 3), (5, .ifCond .eq 19, 3), (8, .aload_n 0, 1), (9, .iload_n 2, 1), (10, .invokevirtual 179, 3), (13, .ifCond .eq 11, 3),
  (16, .aload_n 0, 1), (17, .iload_n 3, 1), (18, .invokevirtual 179, 3), (21, .ifCond .ne 5, 3), (24, .iconst (-1), 1), (25, .ireturn, 1), (26, .iconst 0, 1), (27, .istore 4, 2),
  (29, .iconst 0, 1), (30, .istore 5, 2), (32, .iload 5, 2), (34, .aload_n 0, 1), (35, .getfield 170, 3), (38, .if_icmp .ge 70, 3), (41, .iconst 0, 1), (42, .istore 6, 2),
  (44, .iload 6, 2), (46, .aload_n 0, 1), (47, .getfield 173, 3), (50, .if_icmp .ge 52, 3), (53, .aload_n 0, 1), (54, .iload_n 2, 1), (55, .invokevirtual 222, 3), (58, .aload_n 0, 1),
  (59, .iload 5, 2), (61, .iload 6, 2), (63, .invokevirtual 226, 3), (66, .istore 7, 2), (68, .aload_n 0, 1), (69, .iload_n 3, 1), (70, .invokevirtual 222, 3), (73, .iload 4, 2),
  (75, .iload 7, 2), (77, .aload_n 0, 1), (78, .iload 5, 2), (80, .iload 6, 2), (82, .invokevirtual 226, 3), (85, .if_icmp .ne 7, 3), (88, .iconst 1, 1), (89, .goto 4, 3),
  (92, .iconst 0, 1), (93, .iadd, 1), (94, .istore 4, 2), (96, .iinc 6 1, 3), (99, .goto (-55), 3), (102, .iinc 5 1, 3), (105, .goto (-73), 3), (108, .iload 4, 2),
  (110, .ireturn, 1)]
def cd_252 : List zSem := [sP (fAld 0), sP (fIld 1), sCI 226 2 (some 12) 2, sBr (c1 (zc0 .eq)) 12, sP (fAld 0), sP (fIld 2),
  sCI 227 2 (some 12) 2, sBr (c1 (zc0 .eq)) 12, sP (fAld 0), sP (fIld 3), sCI 227 2 (some 12) 2, sBr (c1 (zc0 .ne)) 14,
  sP (fCon (-1)), sRet rI, sP (fCon 0), sP (fIst 4), sP (fCon 0), sP (fIst 5),
  sP (fIld 5), sP (fAld 0), sRI (gFI 780), sBr (c2 (zcI .ge)) 55, sP (fCon 0), sP (fIst 6),
  sP (fIld 6), sP (fAld 0), sRI (gFI 781), sBr (c2 (zcI .ge)) 53, sP (fAld 0), sP (fIld 2),
  sCV 236 2 (some 12) 2, sP (fAld 0), sP (fIld 5), sP (fIld 6), sCI 239 3 (some 12) 3, sP (fIst 7),
  sP (fAld 0), sP (fIld 3), sCV 236 2 (some 12) 2, sP (fIld 4), sP (fIld 7), sP (fAld 0),
  sP (fIld 5), sP (fIld 6), sCI 239 3 (some 12) 3, sBr (c2 (zcI .ne)) 48, sP (fCon 1), sGo 49,
  sP (fCon 0), sP (fII (fun x y => x + y)), sP (fIst 4), sP (fInc 6 1), sGo 24, sP (fInc 5 1),
  sGo 18, sP (fIld 4), sRet rI]
set_option maxRecDepth 100000 in
theorem ck_252 : in_252.map (fun q => zsem zTb (zlk zPl_12) (ztg in_252 q.1) false q.2.1) = cd_252.map some := rfl
/-- Model_lows -/
def in_253 : List zIns := [(0, .aload_n 0, 1), (1, .iload_n 1, 1), (2, .invokevirtual 176, 3), (5, .ifCond .ne 5, 3), (8, .iconst (-1), 1), (9, .ireturn, 1), (10, .iconst 0, 1), (11, .istore_n 2, 1),
  (12, .iconst 0, 1), (13, .istore_n 3, 1), (14, .iload_n 3, 1), (15, .aload_n 0, 1), (16, .getfield 167, 3), (19, .if_icmp .ge 69, 3), (22, .aload_n 0, 1), (23, .iload_n 3, 1),
  (24, .invokevirtual 222, 3), (27, .iconst 0, 1), (28, .istore 4, 2), (30, .iload 4, 2), (32, .aload_n 0, 1), (33, .getfield 170, 3), (36, .if_icmp .ge 46, 3), (39, .iconst 0, 1),
  (40, .istore 5, 2), (42, .iload 5, 2), (44, .aload_n 0, 1), (45, .getfield 173, 3), (48, .if_icmp .ge 28, 3), (51, .iload_n 2, 1), (52, .aload_n 0, 1), (53, .iload 4, 2),
  (55, .iload 5, 2), (57, .invokevirtual 212, 3), (60, .ifCond .ne 7, 3), (63, .iconst 1, 1), (64, .goto 4, 3), (67, .iconst 0, 1), (68, .iadd, 1), (69, .istore_n 2, 1),
  (70, .iinc 5 1, 3), (73, .goto (-31), 3), (76, .iinc 4 1, 3), (79, .goto (-49), 3), (82, .iinc 3 1, 3), (85, .goto (-71), 3), (88, .iload_n 2, 1), (89, .ireturn, 1)]
def cd_253 : List zSem := [sP (fAld 0), sP (fIld 1), sCI 226 2 (some 12) 2, sBr (c1 (zc0 .ne)) 6, sP (fCon (-1)), sRet rI,
  sP (fCon 0), sP (fIst 2), sP (fCon 0), sP (fIst 3), sP (fIld 3), sP (fAld 0),
  sRI (gFI 779), sBr (c2 (zcI .ge)) 46, sP (fAld 0), sP (fIld 3), sCV 236 2 (some 12) 2, sP (fCon 0),
  sP (fIst 4), sP (fIld 4), sP (fAld 0), sRI (gFI 780), sBr (c2 (zcI .ge)) 44, sP (fCon 0),
  sP (fIst 5), sP (fIld 5), sP (fAld 0), sRI (gFI 781), sBr (c2 (zcI .ge)) 42, sP (fIld 2),
  sP (fAld 0), sP (fIld 4), sP (fIld 5), sCI 237 3 (some 12) 3, sBr (c1 (zc0 .ne)) 37, sP (fCon 1),
  sGo 38, sP (fCon 0), sP (fII (fun x y => x + y)), sP (fIst 2), sP (fInc 5 1), sGo 25,
  sP (fInc 4 1), sGo 19, sP (fInc 3 1), sGo 10, sP (fIld 2), sRet rI]
set_option maxRecDepth 100000 in
theorem ck_253 : in_253.map (fun q => zsem zTb (zlk zPl_12) (ztg in_253 q.1) false q.2.1) = cd_253.map some := rfl
/-- Model_told -/
def in_254 : List zIns := [(0, .aload_n 0, 1), (1, .iload_n 1, 1), (2, .invokevirtual 176, 3), (5, .ifCond .eq 20, 3), (8, .aload_n 0, 1), (9, .iload_n 2, 1), (10, .invokevirtual 194, 3), (13, .ifCond .eq 12, 3),
  (16, .iload_n 3, 1), (17, .iconst 0, 1), (18, .iconst 3, 1), (19, .invokestatic 114, 3), (22, .ifCond .ne 5, 3), (25, .iconst (-1), 1), (26, .ireturn, 1), (27, .iconst 0, 1),
  (28, .istore 4, 2), (30, .iconst 0, 1), (31, .istore 5, 2), (33, .iload 5, 2), (35, .aload_n 0, 1), (36, .getfield 167, 3), (39, .if_icmp .ge 63, 3), (42, .aload_n 0, 1),
  (43, .iload 5, 2), (45, .invokevirtual 222, 3), (48, .iconst 0, 1), (49, .istore 6, 2), (51, .iload 6, 2), (53, .aload_n 0, 1), (54, .getfield 170, 3), (57, .if_icmp .ge 39, 3),
  (60, .iload 4, 2), (62, .aload_n 0, 1), (63, .iload 6, 2), (65, .iload_n 2, 1), (66, .invokevirtual 226, 3), (69, .iload_n 3, 1), (70, .iconst 3, 1), (71, .if_icmp .ne 7, 3),
  (74, .iconst (-1), 1), (75, .goto 4, 3), (78, .iload_n 3, 1), (79, .if_icmp .ne 7, 3), (82, .iconst 1, 1), (83, .goto 4, 3), (86, .iconst 0, 1), (87, .iadd, 1),
  (88, .istore 4, 2), (90, .iinc 6 1, 3), (93, .goto (-42), 3), (96, .iinc 5 1, 3), (99, .goto (-66), 3), (102, .iload 4, 2), (104, .ireturn, 1)]
def cd_254 : List zSem := [sP (fAld 0), sP (fIld 1), sCI 226 2 (some 12) 2, sBr (c1 (zc0 .eq)) 13, sP (fAld 0), sP (fIld 2),
  sCI 229 2 (some 12) 2, sBr (c1 (zc0 .eq)) 13, sP (fIld 3), sP (fCon 0), sP (fCon 3), sCI 200 3 none 3,
  sBr (c1 (zc0 .ne)) 15, sP (fCon (-1)), sRet rI, sP (fCon 0), sP (fIst 4), sP (fCon 0),
  sP (fIst 5), sP (fIld 5), sP (fAld 0), sRI (gFI 779), sBr (c2 (zcI .ge)) 53, sP (fAld 0),
  sP (fIld 5), sCV 236 2 (some 12) 2, sP (fCon 0), sP (fIst 6), sP (fIld 6), sP (fAld 0),
  sRI (gFI 780), sBr (c2 (zcI .ge)) 51, sP (fIld 4), sP (fAld 0), sP (fIld 6), sP (fIld 2),
  sCI 239 3 (some 12) 3, sP (fIld 3), sP (fCon 3), sBr (c2 (zcI .ne)) 42, sP (fCon (-1)), sGo 43,
  sP (fIld 3), sBr (c2 (zcI .ne)) 46, sP (fCon 1), sGo 47, sP (fCon 0), sP (fII (fun x y => x + y)),
  sP (fIst 4), sP (fInc 6 1), sGo 28, sP (fInc 5 1), sGo 19, sP (fIld 4),
  sRet rI]
set_option maxRecDepth 100000 in
theorem ck_254 : in_254.map (fun q => zsem zTb (zlk zPl_12) (ztg in_254 q.1) false q.2.1) = cd_254.map some := rfl
/-- Model_weather -/
def in_255 : List zIns := [(0, .aload_n 0, 1), (1, .iload_n 1, 1), (2, .iload_n 2, 1), (3, .iload_n 3, 1), (4, .iload 4, 2), (6, .invokevirtual 218, 3), (9, .ifCond .eq 13, 3), (12, .iload 5, 2),
  (14, .iconst 0, 1), (15, .iconst 2, 1), (16, .invokestatic 114, 3), (19, .ifCond .ne 5, 3), (22, .iconst (-1), 1), (23, .ireturn, 1), (24, .aload_n 0, 1), (25, .iload_n 2, 1),
  (26, .invokevirtual 222, 3), (29, .iconst 0, 1), (30, .istore 6, 2), (32, .aload_n 0, 1), (33, .iconst 0, 1), (34, .putfield 209, 3), (37, .aload_n 0, 1), (38, .getfield 209, 3),
  (41, .bipush 10, 2), (43, .if_icmp .ge 38, 3), (46, .iload 6, 2), (48, .aload_n 0, 1), (49, .iload_n 3, 1), (50, .iload 4, 2), (52, .invokevirtual 226, 3), (55, .iload 5, 2),
  (57, .if_icmp .ne 7, 3), (60, .iconst 1, 1), (61, .goto 4, 3), (64, .iconst 0, 1), (65, .iadd, 1), (66, .istore 6, 2), (68, .aload_n 0, 1), (69, .dup, 1),
  (70, .getfield 209, 3), (73, .iconst 1, 1), (74, .iadd, 1), (75, .putfield 209, 3), (78, .goto (-41), 3), (81, .iload 6, 2), (83, .ireturn, 1)]
def cd_255 : List zSem := [sP (fAld 0), sP (fIld 1), sP (fIld 2), sP (fIld 3), sP (fIld 4), sCI 240 5 (some 12) 5,
  sBr (c1 (zc0 .eq)) 12, sP (fIld 5), sP (fCon 0), sP (fCon 2), sCI 200 3 none 3, sBr (c1 (zc0 .ne)) 14,
  sP (fCon (-1)), sRet rI, sP (fAld 0), sP (fIld 2), sCV 236 2 (some 12) 2, sP (fCon 0),
  sP (fIst 6), sP (fAld 0), sP (fCon 0), sWr (wFI 784), sP (fAld 0), sRI (gFI 784),
  sP (fCon 10), sBr (c2 (zcI .ge)) 45, sP (fIld 6), sP (fAld 0), sP (fIld 3), sP (fIld 4),
  sCI 239 3 (some 12) 3, sP (fIld 5), sBr (c2 (zcI .ne)) 35, sP (fCon 1), sGo 36, sP (fCon 0),
  sP (fII (fun x y => x + y)), sP (fIst 6), sP (fAld 0), sP fDup, sRI (gFI 784), sP (fCon 1),
  sP (fII (fun x y => x + y)), sWr (wFI 784), sGo 22, sP (fIld 6), sRet rI]
set_option maxRecDepth 100000 in
theorem ck_255 : in_255.map (fun q => zsem zTb (zlk zPl_12) (ztg in_255 q.1) false q.2.1) = cd_255.map some := rfl
/-- Model_dries -/
def in_256 : List zIns := [(0, .aload_n 0, 1), (1, .iload_n 1, 1), (2, .invokevirtual 222, 3), (5, .aload_n 0, 1), (6, .aload_n 0, 1), (7, .getfield 203, 3), (10, .iload_n 2, 1), (11, .if_icmp .le 12, 3),
  (14, .aload_n 0, 1), (15, .getfield 203, 3), (18, .iload_n 2, 1), (19, .isub, 1), (20, .goto 4, 3), (23, .iconst 0, 1), (24, .putfield 203, 3), (27, .return_, 1)]
def cd_256 : List zSem := [sP (fAld 0), sP (fIld 1), sCV 236 2 (some 12) 2, sP (fAld 0), sP (fAld 0), sRI (gFI 782),
  sP (fIld 2), sBr (c2 (zcI .le)) 13, sP (fAld 0), sRI (gFI 782), sP (fIld 2), sP (fII (fun x y => x - y)),
  sGo 14, sP (fCon 0), sWr (wFI 782), sRet rV]
set_option maxRecDepth 100000 in
theorem ck_256 : in_256.map (fun q => zsem zTb (zlk zPl_12) (ztg in_256 q.1) false q.2.1) = cd_256.map some := rfl
/-- Model_chant -/
def in_257 : List zIns := [(0, .aload_n 0, 1), (1, .iload_n 1, 1), (2, .iload_n 2, 1), (3, .iload_n 3, 1), (4, .iload 4, 2), (6, .invokevirtual 218, 3), (9, .ifCond .eq 14, 3), (12, .iload 5, 2),
  (14, .iconst 0, 1), (15, .bipush 20, 2), (17, .invokestatic 114, 3), (20, .ifCond .ne 6, 3), (23, .bipush (-2), 2), (25, .ireturn, 1), (26, .aload_n 0, 1), (27, .iload_n 2, 1),
  (28, .iload 5, 2), (30, .invokevirtual 257, 3), (33, .aload_n 0, 1), (34, .iload_n 3, 1), (35, .iload 4, 2), (37, .invokevirtual 212, 3), (40, .ireturn, 1)]
def cd_257 : List zSem := [sP (fAld 0), sP (fIld 1), sP (fIld 2), sP (fIld 3), sP (fIld 4), sCI 240 5 (some 12) 5,
  sBr (c1 (zc0 .eq)) 12, sP (fIld 5), sP (fCon 0), sP (fCon 20), sCI 200 3 none 3, sBr (c1 (zc0 .ne)) 14,
  sP (fCon (-2)), sRet rI, sP (fAld 0), sP (fIld 2), sP (fIld 5), sCV 256 3 (some 12) 3,
  sP (fAld 0), sP (fIld 3), sP (fIld 4), sCI 237 3 (some 12) 3, sRet rI]
set_option maxRecDepth 100000 in
theorem ck_257 : in_257.map (fun q => zsem zTb (zlk zPl_12) (ztg in_257 q.1) false q.2.1) = cd_257.map some := rfl
/-- Model_ripe -/
def in_258 : List zIns := [(0, .aload_n 0, 1), (1, .iload_n 1, 1), (2, .iload_n 2, 1), (3, .iload_n 3, 1), (4, .iload 4, 2), (6, .invokevirtual 218, 3), (9, .ifCond .eq 13, 3), (12, .iload 5, 2),
  (14, .iconst 0, 1), (15, .iconst 2, 1), (16, .invokestatic 114, 3), (19, .ifCond .ne 5, 3), (22, .iconst (-1), 1), (23, .ireturn, 1), (24, .iconst 0, 1), (25, .istore 6, 2),
  (27, .aload_n 0, 1), (28, .iload_n 2, 1), (29, .iconst 0, 1), (30, .invokevirtual 257, 3), (33, .iload 6, 2), (35, .bipush 10, 2), (37, .if_icmp .ge 28, 3), (40, .aload_n 0, 1),
  (41, .iload_n 3, 1), (42, .iload 4, 2), (44, .invokevirtual 226, 3), (47, .iload 5, 2), (49, .if_icmp .eq 16, 3), (52, .iinc 6 1, 3), (55, .aload_n 0, 1), (56, .iload_n 2, 1),
  (57, .iload 6, 2), (59, .invokevirtual 257, 3), (62, .goto (-29), 3), (65, .iload 6, 2), (67, .bipush 10, 2), (69, .if_icmp .ge 8, 3), (72, .iload 6, 2), (74, .goto 4, 3),
  (77, .iconst (-1), 1), (78, .ireturn, 1)]
def cd_258 : List zSem := [sP (fAld 0), sP (fIld 1), sP (fIld 2), sP (fIld 3), sP (fIld 4), sCI 240 5 (some 12) 5,
  sBr (c1 (zc0 .eq)) 12, sP (fIld 5), sP (fCon 0), sP (fCon 2), sCI 200 3 none 3, sBr (c1 (zc0 .ne)) 14,
  sP (fCon (-1)), sRet rI, sP (fCon 0), sP (fIst 6), sP (fAld 0), sP (fIld 2),
  sP (fCon 0), sCV 256 3 (some 12) 3, sP (fIld 6), sP (fCon 10), sBr (c2 (zcI .ge)) 35, sP (fAld 0),
  sP (fIld 3), sP (fIld 4), sCI 239 3 (some 12) 3, sP (fIld 5), sBr (c2 (zcI .eq)) 35, sP (fInc 6 1),
  sP (fAld 0), sP (fIld 2), sP (fIld 6), sCV 256 3 (some 12) 3, sGo 20, sP (fIld 6),
  sP (fCon 10), sBr (c2 (zcI .ge)) 40, sP (fIld 6), sGo 41, sP (fCon (-1)), sRet rI]
set_option maxRecDepth 100000 in
theorem ck_258 : in_258.map (fun q => zsem zTb (zlk zPl_12) (ztg in_258 q.1) false q.2.1) = cd_258.map some := rfl
/-- Model_deepest -/
def in_259 : List zIns := [(0, .aload_n 0, 1), (1, .iload_n 1, 1), (2, .invokevirtual 176, 3), (5, .ifCond .eq 19, 3), (8, .aload_n 0, 1), (9, .iload_n 2, 1), (10, .invokevirtual 179, 3), (13, .ifCond .eq 11, 3),
  (16, .aload_n 0, 1), (17, .iload_n 3, 1), (18, .invokevirtual 188, 3), (21, .ifCond .ne 5, 3), (24, .iconst (-1), 1), (25, .ireturn, 1), (26, .aload_n 0, 1), (27, .iload_n 2, 1),
  (28, .invokevirtual 222, 3), (31, .iconst (-1), 1), (32, .istore 4, 2), (34, .iconst 0, 1), (35, .istore 5, 2), (37, .iload 5, 2), (39, .aload_n 0, 1), (40, .getfield 173, 3),
  (43, .if_icmp .ge 45, 3), (46, .aload_n 0, 1), (47, .iload_n 3, 1), (48, .iload 5, 2), (50, .invokevirtual 212, 3), (53, .iconst (-1), 1), (54, .if_icmp .eq 28, 3), (57, .iload 4, 2),
  (59, .iconst (-1), 1), (60, .if_icmp .eq 18, 3), (63, .aload_n 0, 1), (64, .iload 5, 2), (66, .invokevirtual 197, 3), (69, .aload_n 0, 1), (70, .iload 4, 2), (72, .invokevirtual 197, 3),
  (75, .if_icmp .le 7, 3), (78, .iload 5, 2), (80, .istore 4, 2), (82, .iinc 5 1, 3), (85, .goto (-48), 3), (88, .iload 4, 2), (90, .ireturn, 1)]
def cd_259 : List zSem := [sP (fAld 0), sP (fIld 1), sCI 226 2 (some 12) 2, sBr (c1 (zc0 .eq)) 12, sP (fAld 0), sP (fIld 2),
  sCI 227 2 (some 12) 2, sBr (c1 (zc0 .eq)) 12, sP (fAld 0), sP (fIld 3), sCI 228 2 (some 12) 2, sBr (c1 (zc0 .ne)) 14,
  sP (fCon (-1)), sRet rI, sP (fAld 0), sP (fIld 2), sCV 236 2 (some 12) 2, sP (fCon (-1)),
  sP (fIst 4), sP (fCon 0), sP (fIst 5), sP (fIld 5), sP (fAld 0), sRI (gFI 781),
  sBr (c2 (zcI .ge)) 45, sP (fAld 0), sP (fIld 3), sP (fIld 5), sCI 237 3 (some 12) 3, sP (fCon (-1)),
  sBr (c2 (zcI .eq)) 43, sP (fIld 4), sP (fCon (-1)), sBr (c2 (zcI .eq)) 41, sP (fAld 0), sP (fIld 5),
  sCI 233 2 (some 12) 2, sP (fAld 0), sP (fIld 4), sCI 233 2 (some 12) 2, sBr (c2 (zcI .le)) 43, sP (fIld 5),
  sP (fIst 4), sP (fInc 5 1), sGo 21, sP (fIld 4), sRet rI]
set_option maxRecDepth 100000 in
theorem ck_259 : in_259.map (fun q => zsem zTb (zlk zPl_12) (ztg in_259 q.1) false q.2.1) = cd_259.map some := rfl
/-- Model_isFine -/
def in_260 : List zIns := [(0, .aload_n 0, 1), (1, .iload_n 2, 1), (2, .iload_n 1, 1), (3, .invokestatic 248, 3), (6, .invokevirtual 257, 3), (9, .iload_n 1, 1), (10, .iload 4, 2), (12, .ishr, 1),
  (13, .iconst 1, 1), (14, .iand, 1), (15, .ifCond .ne 17, 3), (18, .aload_n 0, 1), (19, .iload_n 3, 1), (20, .iload 4, 2), (22, .invokevirtual 212, 3), (25, .ifCond .le 7, 3),
  (28, .iconst 1, 1), (29, .goto 4, 3), (32, .iconst 0, 1), (33, .ireturn, 1)]
def cd_260 : List zSem := [sP (fAld 0), sP (fIld 2), sP (fIld 1), sCI 249 1 none 3, sCV 256 3 (some 12) 3, sP (fIld 1),
  sP (fIld 4), sP (fII zshr), sP (fCon 1), sP (fII (fun x y => x &&& y)), sBr (c1 (zc0 .ne)) 18, sP (fAld 0),
  sP (fIld 3), sP (fIld 4), sCI 237 3 (some 12) 3, sBr (c1 (zc0 .le)) 18, sP (fCon 1), sGo 19,
  sP (fCon 0), sRz]
set_option maxRecDepth 100000 in
theorem ck_260 : in_260.map (fun q => zsem zTb (zlk zPl_12) (ztg in_260 q.1) true q.2.1) = cd_260.map some := rfl
/-- Model_program -/
def in_261 : List zIns := [(0, .aload_n 0, 1), (1, .iload_n 1, 1), (2, .invokevirtual 176, 3), (5, .ifCond .eq 25, 3), (8, .aload_n 0, 1), (9, .iload_n 2, 1), (10, .invokevirtual 179, 3), (13, .ifCond .eq 17, 3),
  (16, .aload_n 0, 1), (17, .iload_n 3, 1), (18, .invokevirtual 188, 3), (21, .ifCond .eq 9, 3), (24, .iload 4, 2), (26, .iconst (-1), 1), (27, .if_icmp .ge 5, 3), (30, .iconst (-1), 1),
  (31, .ireturn, 1), (32, .iconst 1, 1), (33, .aload_n 0, 1), (34, .getfield 173, 3), (37, .ishl, 1), (38, .iconst 1, 1), (39, .isub, 1), (40, .istore 5, 2),
  (42, .iload 5, 2), (44, .ifCond .lt 93, 3), (47, .aload_n 0, 1), (48, .getfield 29, 3), (51, .iload 5, 2), (53, .iconst 0, 1), (54, .iastore, 1), (55, .iconst 0, 1),
  (56, .istore 6, 2), (58, .iload 6, 2), (60, .aload_n 0, 1), (61, .getfield 173, 3), (64, .if_icmp .ge 67, 3), (67, .aload_n 0, 1), (68, .iload 5, 2), (70, .iload_n 2, 1),
  (71, .iload_n 3, 1), (72, .iload 6, 2), (74, .invokevirtual 260, 3), (77, .ifCond .eq 48, 3), (80, .iconst 1, 1), (81, .aload_n 0, 1), (82, .getfield 29, 3), (85, .iload 5, 2),
  (87, .iconst 1, 1), (88, .iload 6, 2), (90, .ishl, 1), (91, .ior, 1), (92, .iaload, 1), (93, .iadd, 1), (94, .aload_n 0, 1), (95, .getfield 29, 3),
  (98, .iload 5, 2), (100, .iaload, 1), (101, .if_icmp .le 24, 3), (104, .aload_n 0, 1), (105, .getfield 29, 3), (108, .iload 5, 2), (110, .iconst 1, 1), (111, .aload_n 0, 1),
  (112, .getfield 29, 3), (115, .iload 5, 2), (117, .iconst 1, 1), (118, .iload 6, 2), (120, .ishl, 1), (121, .ior, 1), (122, .iaload, 1), (123, .iadd, 1),
  (124, .iastore, 1), (125, .iinc 6 1, 3), (128, .goto (-70), 3), (131, .iinc 5 (-1), 3), (134, .goto (-92), 3), (137, .iload 4, 2), (139, .iconst (-1), 1), (140, .if_icmp .ne 10, 3),
  (143, .aload_n 0, 1), (144, .getfield 29, 3), (147, .iconst 0, 1), (148, .iaload, 1), (149, .ireturn, 1), (150, .iconst 0, 1), (151, .istore 5, 2), (153, .iconst 0, 1),
  (154, .istore 6, 2), (156, .aload_n 0, 1), (157, .getfield 29, 3), (160, .iload 5, 2), (162, .iaload, 1), (163, .ifCond .le 74, 3), (166, .iconst 0, 1), (167, .istore 7, 2),
  (169, .aload_n 0, 1), (170, .iload 5, 2), (172, .iload_n 2, 1), (173, .iload_n 3, 1), (174, .iload 7, 2), (176, .invokevirtual 260, 3), (179, .ifCond .eq 27, 3), (182, .iconst 1, 1),
  (183, .aload_n 0, 1), (184, .getfield 29, 3), (187, .iload 5, 2), (189, .iconst 1, 1), (190, .iload 7, 2), (192, .ishl, 1), (193, .ior, 1), (194, .iaload, 1),
  (195, .iadd, 1), (196, .aload_n 0, 1), (197, .getfield 29, 3), (200, .iload 5, 2), (202, .iaload, 1), (203, .if_icmp .eq 9, 3), (206, .iinc 7 1, 3), (209, .goto (-40), 3),
  (212, .iload 6, 2), (214, .iload 4, 2), (216, .if_icmp .ne 6, 3), (219, .iload 7, 2), (221, .ireturn, 1), (222, .iload 5, 2), (224, .iconst 1, 1), (225, .iload 7, 2),
  (227, .ishl, 1), (228, .ior, 1), (229, .istore 5, 2), (231, .iinc 6 1, 3), (234, .goto (-78), 3), (237, .iconst (-1), 1), (238, .ireturn, 1)]
def cd_261 : List zSem := [sP (fAld 0), sP (fIld 1), sCI 226 2 (some 12) 2, sBr (c1 (zc0 .eq)) 15, sP (fAld 0), sP (fIld 2),
  sCI 227 2 (some 12) 2, sBr (c1 (zc0 .eq)) 15, sP (fAld 0), sP (fIld 3), sCI 228 2 (some 12) 2, sBr (c1 (zc0 .eq)) 15,
  sP (fIld 4), sP (fCon (-1)), sBr (c2 (zcI .ge)) 17, sP (fCon (-1)), sRet rI, sP (fCon 1),
  sP (fAld 0), sRI (gFI 781), sP (fII zshl), sP (fCon 1), sP (fII (fun x y => x - y)), sP (fIst 5),
  sP (fIld 5), sBr (c1 (zc0 .lt)) 77, sP (fAld 0), sRR (gFR 789), sP (fIld 5), sP (fCon 0),
  sWr wAI, sP (fCon 0), sP (fIst 6), sP (fIld 6), sP (fAld 0), sRI (gFI 781),
  sBr (c2 (zcI .ge)) 75, sP (fAld 0), sP (fIld 5), sP (fIld 2), sP (fIld 3), sP (fIld 6),
  sCI 260 5 (some 12) 5, sBr (c1 (zc0 .eq)) 73, sP (fCon 1), sP (fAld 0), sRR (gFR 789), sP (fIld 5),
  sP (fCon 1), sP (fIld 6), sP (fII zshl), sP (fII (fun x y => x ||| y)), sRI gAI, sP (fII (fun x y => x + y)),
  sP (fAld 0), sRR (gFR 789), sP (fIld 5), sRI gAI, sBr (c2 (zcI .le)) 73, sP (fAld 0),
  sRR (gFR 789), sP (fIld 5), sP (fCon 1), sP (fAld 0), sRR (gFR 789), sP (fIld 5),
  sP (fCon 1), sP (fIld 6), sP (fII zshl), sP (fII (fun x y => x ||| y)), sRI gAI, sP (fII (fun x y => x + y)),
  sWr wAI, sP (fInc 6 1), sGo 33, sP (fInc 5 (-1)), sGo 24, sP (fIld 4),
  sP (fCon (-1)), sBr (c2 (zcI .ne)) 85, sP (fAld 0), sRR (gFR 789), sP (fCon 0), sRI gAI,
  sRet rI, sP (fCon 0), sP (fIst 5), sP (fCon 0), sP (fIst 6), sP (fAld 0),
  sRR (gFR 789), sP (fIld 5), sRI gAI, sBr (c1 (zc0 .le)) 133, sP (fCon 0), sP (fIst 7),
  sP (fAld 0), sP (fIld 5), sP (fIld 2), sP (fIld 3), sP (fIld 7), sCI 260 5 (some 12) 5,
  sBr (c1 (zc0 .eq)) 118, sP (fCon 1), sP (fAld 0), sRR (gFR 789), sP (fIld 5), sP (fCon 1),
  sP (fIld 7), sP (fII zshl), sP (fII (fun x y => x ||| y)), sRI gAI, sP (fII (fun x y => x + y)), sP (fAld 0),
  sRR (gFR 789), sP (fIld 5), sRI gAI, sBr (c2 (zcI .eq)) 120, sP (fInc 7 1), sGo 96,
  sP (fIld 6), sP (fIld 4), sBr (c2 (zcI .ne)) 125, sP (fIld 7), sRet rI, sP (fIld 5),
  sP (fCon 1), sP (fIld 7), sP (fII zshl), sP (fII (fun x y => x ||| y)), sP (fIst 5), sP (fInc 6 1),
  sGo 89, sP (fCon (-1)), sRet rI]
set_option maxRecDepth 100000 in
theorem ck_261 : in_261.map (fun q => zsem zTb (zlk zPl_12) (ztg in_261 q.1) false q.2.1) = cd_261.map some := rfl
/-- Model_edit -/
def in_262 : List zIns := [(0, .aload_n 0, 1), (1, .iload_n 1, 1), (2, .invokevirtual 176, 3), (5, .ifCond .eq 29, 3), (8, .aload_n 0, 1), (9, .iload_n 2, 1), (10, .invokevirtual 179, 3), (13, .ifCond .eq 21, 3),
  (16, .aload_n 0, 1), (17, .iload_n 3, 1), (18, .invokevirtual 188, 3), (21, .ifCond .eq 13, 3), (24, .iload 4, 2), (26, .iconst 0, 1), (27, .iconst 2, 1), (28, .invokestatic 114, 3),
  (31, .ifCond .ne 5, 3), (34, .iconst (-1), 1), (35, .ireturn, 1), (36, .aload_n 0, 1), (37, .iload_n 2, 1), (38, .invokevirtual 222, 3), (41, .iconst 0, 1), (42, .istore 5, 2),
  (44, .iconst 0, 1), (45, .istore 6, 2), (47, .iload 6, 2), (49, .bipush 8, 2), (51, .if_icmp .ge 80, 3), (54, .iconst 0, 1), (55, .istore 7, 2), (57, .iconst 0, 1),
  (58, .istore 8, 2), (60, .iload 8, 2), (62, .aload_n 0, 1), (63, .getfield 173, 3), (66, .if_icmp .ge 33, 3), (69, .iload 7, 2), (71, .ifCond .ne 15, 3), (74, .aload_n 0, 1),
  (75, .iload_n 3, 1), (76, .iload 8, 2), (78, .invokevirtual 212, 3), (81, .iload 6, 2), (83, .if_icmp .ne 7, 3), (86, .iconst 1, 1), (87, .goto 4, 3), (90, .iconst 0, 1),
  (91, .istore 7, 2), (93, .iinc 8 1, 3), (96, .goto (-36), 3), (99, .iload 5, 2), (101, .iload 7, 2), (103, .ifCond .eq 18, 3), (106, .aload_n 0, 1), (107, .iload 6, 2),
  (109, .invokevirtual 215, 3), (112, .iload 4, 2), (114, .if_icmp .eq 7, 3), (117, .iconst 1, 1), (118, .goto 4, 3), (121, .iconst 0, 1), (122, .iadd, 1), (123, .istore 5, 2),
  (125, .iinc 6 1, 3), (128, .goto (-81), 3), (131, .iload 5, 2), (133, .ireturn, 1)]
def cd_262 : List zSem := [sP (fAld 0), sP (fIld 1), sCI 226 2 (some 12) 2, sBr (c1 (zc0 .eq)) 17, sP (fAld 0), sP (fIld 2),
  sCI 227 2 (some 12) 2, sBr (c1 (zc0 .eq)) 17, sP (fAld 0), sP (fIld 3), sCI 228 2 (some 12) 2, sBr (c1 (zc0 .eq)) 17,
  sP (fIld 4), sP (fCon 0), sP (fCon 2), sCI 200 3 none 3, sBr (c1 (zc0 .ne)) 19, sP (fCon (-1)),
  sRet rI, sP (fAld 0), sP (fIld 2), sCV 236 2 (some 12) 2, sP (fCon 0), sP (fIst 5),
  sP (fCon 0), sP (fIst 6), sP (fIld 6), sP (fCon 8), sBr (c2 (zcI .ge)) 66, sP (fCon 0),
  sP (fIst 7), sP (fCon 0), sP (fIst 8), sP (fIld 8), sP (fAld 0), sRI (gFI 781),
  sBr (c2 (zcI .ge)) 51, sP (fIld 7), sBr (c1 (zc0 .ne)) 45, sP (fAld 0), sP (fIld 3), sP (fIld 8),
  sCI 237 3 (some 12) 3, sP (fIld 6), sBr (c2 (zcI .ne)) 47, sP (fCon 1), sGo 48, sP (fCon 0),
  sP (fIst 7), sP (fInc 8 1), sGo 33, sP (fIld 5), sP (fIld 7), sBr (c1 (zc0 .eq)) 61,
  sP (fAld 0), sP (fIld 6), sCI 238 2 (some 12) 2, sP (fIld 4), sBr (c2 (zcI .eq)) 61, sP (fCon 1),
  sGo 62, sP (fCon 0), sP (fII (fun x y => x + y)), sP (fIst 5), sP (fInc 6 1), sGo 26,
  sP (fIld 5), sRet rI]
set_option maxRecDepth 100000 in
theorem ck_262 : in_262.map (fun q => zsem zTb (zlk zPl_12) (ztg in_262 q.1) false q.2.1) = cd_262.map some := rfl
/-- Model_sounds -/
def in_263 : List zIns := [(0, .iconst 1, 1), (1, .istore_n 3, 1), (2, .iconst 0, 1), (3, .istore 4, 2), (5, .iload 4, 2), (7, .aload_n 0, 1), (8, .getfield 173, 3), (11, .if_icmp .ge 70, 3),
  (14, .iload_n 3, 1), (15, .ifCond .eq 66, 3), (18, .iconst 0, 1), (19, .istore_n 3, 1), (20, .iconst 0, 1), (21, .istore 5, 2), (23, .iload 5, 2), (25, .aload_n 0, 1),
  (26, .getfield 167, 3), (29, .if_icmp .ge 46, 3), (32, .aload_n 0, 1), (33, .iload 5, 2), (35, .invokevirtual 222, 3), (38, .iload_n 3, 1), (39, .ifCond .ne 24, 3), (42, .iload_n 1, 1),
  (43, .iload 5, 2), (45, .ishr, 1), (46, .iconst 1, 1), (47, .iand, 1), (48, .iconst 1, 1), (49, .if_icmp .ne 18, 3), (52, .aload_n 0, 1), (53, .iload_n 2, 1),
  (54, .iload 4, 2), (56, .invokevirtual 212, 3), (59, .iconst (-1), 1), (60, .if_icmp .eq 7, 3), (63, .iconst 1, 1), (64, .goto 4, 3), (67, .iconst 0, 1), (68, .istore_n 3, 1),
  (69, .iinc 5 1, 3), (72, .goto (-49), 3), (75, .iinc 4 1, 3), (78, .goto (-73), 3), (81, .iload_n 3, 1), (82, .ireturn, 1)]
def cd_263 : List zSem := [sP (fCon 1), sP (fIst 3), sP (fCon 0), sP (fIst 4), sP (fIld 4), sP (fAld 0),
  sRI (gFI 781), sBr (c2 (zcI .ge)) 44, sP (fIld 3), sBr (c1 (zc0 .eq)) 44, sP (fCon 0), sP (fIst 3),
  sP (fCon 0), sP (fIst 5), sP (fIld 5), sP (fAld 0), sRI (gFI 779), sBr (c2 (zcI .ge)) 42,
  sP (fAld 0), sP (fIld 5), sCV 236 2 (some 12) 2, sP (fIld 3), sBr (c1 (zc0 .ne)) 36, sP (fIld 1),
  sP (fIld 5), sP (fII zshr), sP (fCon 1), sP (fII (fun x y => x &&& y)), sP (fCon 1), sBr (c2 (zcI .ne)) 38,
  sP (fAld 0), sP (fIld 2), sP (fIld 4), sCI 237 3 (some 12) 3, sP (fCon (-1)), sBr (c2 (zcI .eq)) 38,
  sP (fCon 1), sGo 39, sP (fCon 0), sP (fIst 3), sP (fInc 5 1), sGo 14,
  sP (fInc 4 1), sGo 4, sP (fIld 3), sRz]
set_option maxRecDepth 100000 in
theorem ck_263 : in_263.map (fun q => zsem zTb (zlk zPl_12) (ztg in_263 q.1) true q.2.1) = cd_263.map some := rfl
/-- Model_choir -/
def in_264 : List zIns := [(0, .aload_n 0, 1), (1, .iload_n 1, 1), (2, .invokevirtual 176, 3), (5, .ifCond .eq 11, 3), (8, .aload_n 0, 1), (9, .iload_n 2, 1), (10, .invokevirtual 188, 3), (13, .ifCond .ne 5, 3),
  (16, .iconst (-1), 1), (17, .ireturn, 1), (18, .iconst (-1), 1), (19, .istore 4, 2), (21, .iconst 0, 1), (22, .istore 5, 2), (24, .iload 5, 2), (26, .iconst 1, 1),
  (27, .aload_n 0, 1), (28, .getfield 167, 3), (31, .ishl, 1), (32, .if_icmp .ge 42, 3), (35, .iload 4, 2), (37, .iconst (-1), 1), (38, .if_icmp .eq 16, 3), (41, .iload 5, 2),
  (43, .invokestatic 248, 3), (46, .iload 4, 2), (48, .invokestatic 248, 3), (51, .if_icmp .ge 17, 3), (54, .aload_n 0, 1), (55, .iload 5, 2), (57, .iload_n 2, 1), (58, .invokevirtual 263, 3),
  (61, .ifCond .eq 7, 3), (64, .iload 5, 2), (66, .istore 4, 2), (68, .iinc 5 1, 3), (71, .goto (-47), 3), (74, .iload 4, 2), (76, .iconst (-1), 1), (77, .if_icmp .eq 7, 3),
  (80, .iload_n 3, 1), (81, .ifCond .eq 8, 3), (84, .iload 4, 2), (86, .goto 8, 3), (89, .iload 4, 2), (91, .invokestatic 248, 3), (94, .ireturn, 1)]
def cd_264 : List zSem := [sP (fAld 0), sP (fIld 1), sCI 226 2 (some 12) 2, sBr (c1 (zc0 .eq)) 8, sP (fAld 0), sP (fIld 2),
  sCI 228 2 (some 12) 2, sBr (c1 (zc0 .ne)) 10, sP (fCon (-1)), sRet rI, sP (fCon (-1)), sP (fIst 4),
  sP (fCon 0), sP (fIst 5), sP (fIld 5), sP (fCon 1), sP (fAld 0), sRI (gFI 779),
  sP (fII zshl), sBr (c2 (zcI .ge)) 37, sP (fIld 4), sP (fCon (-1)), sBr (c2 (zcI .eq)) 28, sP (fIld 5),
  sCI 249 1 none 3, sP (fIld 4), sCI 249 1 none 3, sBr (c2 (zcI .ge)) 35, sP (fAld 0), sP (fIld 5),
  sP (fIld 2), sCI 263 3 (some 12) 6, sBr (c1 (zc0 .eq)) 35, sP (fIld 5), sP (fIst 4), sP (fInc 5 1),
  sGo 14, sP (fIld 4), sP (fCon (-1)), sBr (c2 (zcI .eq)) 42, sP (fIld 3), sBr (c1 (zc0 .eq)) 44,
  sP (fIld 4), sGo 46, sP (fIld 4), sCI 249 1 none 3, sRet rI]
set_option maxRecDepth 100000 in
theorem ck_264 : in_264.map (fun q => zsem zTb (zlk zPl_12) (ztg in_264 q.1) false q.2.1) = cd_264.map some := rfl
/-- Model_areApart -/
def in_265 : List zIns := [(0, .iconst 0, 1), (1, .istore 4, 2), (3, .iconst 0, 1), (4, .istore 5, 2), (6, .iload 5, 2), (8, .aload_n 0, 1), (9, .getfield 173, 3), (12, .if_icmp .ge 64, 3),
  (15, .aload_n 0, 1), (16, .iload_n 1, 1), (17, .invokevirtual 222, 3), (20, .aload_n 0, 1), (21, .iload_n 3, 1), (22, .iload 5, 2), (24, .invokevirtual 226, 3), (27, .istore 6, 2),
  (29, .aload_n 0, 1), (30, .iload_n 2, 1), (31, .invokevirtual 222, 3), (34, .iload 4, 2), (36, .ifCond .ne 27, 3), (39, .iload 6, 2), (41, .iconst 0, 1), (42, .iconst 1, 1),
  (43, .invokestatic 114, 3), (46, .ifCond .eq 21, 3), (49, .aload_n 0, 1), (50, .iload_n 3, 1), (51, .iload 5, 2), (53, .invokevirtual 226, 3), (56, .iconst 1, 1), (57, .iload 6, 2),
  (59, .isub, 1), (60, .if_icmp .ne 7, 3), (63, .iconst 1, 1), (64, .goto 4, 3), (67, .iconst 0, 1), (68, .istore 4, 2), (70, .iinc 5 1, 3), (73, .goto (-67), 3),
  (76, .iload 4, 2), (78, .ireturn, 1)]
def cd_265 : List zSem := [sP (fCon 0), sP (fIst 4), sP (fCon 0), sP (fIst 5), sP (fIld 5), sP (fAld 0),
  sRI (gFI 781), sBr (c2 (zcI .ge)) 40, sP (fAld 0), sP (fIld 1), sCV 236 2 (some 12) 2, sP (fAld 0),
  sP (fIld 3), sP (fIld 5), sCI 239 3 (some 12) 3, sP (fIst 6), sP (fAld 0), sP (fIld 2),
  sCV 236 2 (some 12) 2, sP (fIld 4), sBr (c1 (zc0 .ne)) 34, sP (fIld 6), sP (fCon 0), sP (fCon 1),
  sCI 200 3 none 3, sBr (c1 (zc0 .eq)) 36, sP (fAld 0), sP (fIld 3), sP (fIld 5), sCI 239 3 (some 12) 3,
  sP (fCon 1), sP (fIld 6), sP (fII (fun x y => x - y)), sBr (c2 (zcI .ne)) 36, sP (fCon 1), sGo 37,
  sP (fCon 0), sP (fIst 4), sP (fInc 5 1), sGo 4, sP (fIld 4), sRz]
set_option maxRecDepth 100000 in
theorem ck_265 : in_265.map (fun q => zsem zTb (zlk zPl_12) (ztg in_265 q.1) true q.2.1) = cd_265.map some := rfl
/-- Model_isPeace -/
def in_266 : List zIns := [(0, .iconst 1, 1), (1, .istore_n 3, 1), (2, .iconst 0, 1), (3, .istore 4, 2), (5, .iload 4, 2), (7, .aload_n 0, 1), (8, .getfield 167, 3), (11, .if_icmp .ge 61, 3),
  (14, .iconst 0, 1), (15, .istore 5, 2), (17, .iload 5, 2), (19, .iload 4, 2), (21, .if_icmp .ge 45, 3), (24, .iload_n 3, 1), (25, .ifCond .eq 33, 3), (28, .iload_n 1, 1),
  (29, .iload 4, 2), (31, .ishr, 1), (32, .iload_n 1, 1), (33, .iload 5, 2), (35, .ishr, 1), (36, .iand, 1), (37, .iconst 1, 1), (38, .iand, 1),
  (39, .ifCond .eq 15, 3), (42, .aload_n 0, 1), (43, .iload 4, 2), (45, .iload 5, 2), (47, .iload_n 2, 1), (48, .invokevirtual 266, 3), (51, .ifCond .ne 7, 3), (54, .iconst 1, 1),
  (55, .goto 4, 3), (58, .iconst 0, 1), (59, .istore_n 3, 1), (60, .iinc 5 1, 3), (63, .goto (-46), 3), (66, .iinc 4 1, 3), (69, .goto (-64), 3), (72, .iload_n 3, 1),
  (73, .ireturn, 1)]
def cd_266 : List zSem := [sP (fCon 1), sP (fIst 3), sP (fCon 0), sP (fIst 4), sP (fIld 4), sP (fAld 0),
  sRI (gFI 779), sBr (c2 (zcI .ge)) 39, sP (fCon 0), sP (fIst 5), sP (fIld 5), sP (fIld 4),
  sBr (c2 (zcI .ge)) 37, sP (fIld 3), sBr (c1 (zc0 .eq)) 33, sP (fIld 1), sP (fIld 4), sP (fII zshr),
  sP (fIld 1), sP (fIld 5), sP (fII zshr), sP (fII (fun x y => x &&& y)), sP (fCon 1), sP (fII (fun x y => x &&& y)),
  sBr (c1 (zc0 .eq)) 31, sP (fAld 0), sP (fIld 4), sP (fIld 5), sP (fIld 2), sCI 265 4 (some 12) 7,
  sBr (c1 (zc0 .ne)) 33, sP (fCon 1), sGo 34, sP (fCon 0), sP (fIst 3), sP (fInc 5 1),
  sGo 10, sP (fInc 4 1), sGo 4, sP (fIld 3), sRz]
set_option maxRecDepth 100000 in
theorem ck_266 : in_266.map (fun q => zsem zTb (zlk zPl_12) (ztg in_266 q.1) true q.2.1) = cd_266.map some := rfl
/-- Model_peace -/
def in_267 : List zIns := [(0, .aload_n 0, 1), (1, .iload_n 1, 1), (2, .invokevirtual 176, 3), (5, .ifCond .eq 11, 3), (8, .aload_n 0, 1), (9, .iload_n 2, 1), (10, .invokevirtual 188, 3), (13, .ifCond .ne 5, 3),
  (16, .iconst (-1), 1), (17, .ireturn, 1), (18, .iconst 0, 1), (19, .istore 4, 2), (21, .iconst 1, 1), (22, .istore 5, 2), (24, .iload 5, 2), (26, .iconst 1, 1),
  (27, .aload_n 0, 1), (28, .getfield 167, 3), (31, .ishl, 1), (32, .if_icmp .ge 36, 3), (35, .iload 5, 2), (37, .invokestatic 248, 3), (40, .iload 4, 2), (42, .invokestatic 248, 3),
  (45, .if_icmp .le 17, 3), (48, .aload_n 0, 1), (49, .iload 5, 2), (51, .iload_n 2, 1), (52, .invokevirtual 269, 3), (55, .ifCond .eq 7, 3), (58, .iload 5, 2), (60, .istore 4, 2),
  (62, .iinc 5 1, 3), (65, .goto (-41), 3), (68, .iload_n 3, 1), (69, .ifCond .eq 8, 3), (72, .iload 4, 2), (74, .goto 8, 3), (77, .iload 4, 2), (79, .invokestatic 248, 3),
  (82, .ireturn, 1)]
def cd_267 : List zSem := [sP (fAld 0), sP (fIld 1), sCI 226 2 (some 12) 2, sBr (c1 (zc0 .eq)) 8, sP (fAld 0), sP (fIld 2),
  sCI 228 2 (some 12) 2, sBr (c1 (zc0 .ne)) 10, sP (fCon (-1)), sRet rI, sP (fCon 0), sP (fIst 4),
  sP (fCon 1), sP (fIst 5), sP (fIld 5), sP (fCon 1), sP (fAld 0), sRI (gFI 779),
  sP (fII zshl), sBr (c2 (zcI .ge)) 34, sP (fIld 5), sCI 249 1 none 3, sP (fIld 4), sCI 249 1 none 3,
  sBr (c2 (zcI .le)) 32, sP (fAld 0), sP (fIld 5), sP (fIld 2), sCI 266 3 (some 12) 6, sBr (c1 (zc0 .eq)) 32,
  sP (fIld 5), sP (fIst 4), sP (fInc 5 1), sGo 14, sP (fIld 3), sBr (c1 (zc0 .eq)) 38,
  sP (fIld 4), sGo 40, sP (fIld 4), sCI 249 1 none 3, sRet rI]
set_option maxRecDepth 100000 in
theorem ck_267 : in_267.map (fun q => zsem zTb (zlk zPl_12) (ztg in_267 q.1) false q.2.1) = cd_267.map some := rfl
/-- Model_answerBy -/
def in_268 : List zIns := [(0, .aload_n 0, 1), (1, .iload_n 1, 1), (2, .invokevirtual 222, 3), (5, .aload_n 0, 1), (6, .iload_n 2, 1), (7, .iload_n 3, 1), (8, .invokevirtual 226, 3), (11, .ireturn, 1)]
def cd_268 : List zSem := [sP (fAld 0), sP (fIld 1), sCV 236 2 (some 12) 2, sP (fAld 0), sP (fIld 2), sP (fIld 3),
  sCI 239 3 (some 12) 3, sRet rI]
set_option maxRecDepth 100000 in
theorem ck_268 : in_268.map (fun q => zsem zTb (zlk zPl_12) (ztg in_268 q.1) false q.2.1) = cd_268.map some := rfl
/-- Model_noteByReed -/
def in_269 : List zIns := [(0, .aload_n 0, 1), (1, .iload_n 1, 1), (2, .invokevirtual 222, 3), (5, .aload_n 0, 1), (6, .iload_n 2, 1), (7, .iload_n 3, 1), (8, .invokevirtual 212, 3), (11, .ireturn, 1)]
def cd_269 : List zSem := [sP (fAld 0), sP (fIld 1), sCV 236 2 (some 12) 2, sP (fAld 0), sP (fIld 2), sP (fIld 3),
  sCI 237 3 (some 12) 3, sRet rI]
set_option maxRecDepth 100000 in
theorem ck_269 : in_269.map (fun q => zsem zTb (zlk zPl_12) (ztg in_269 q.1) false q.2.1) = cd_269.map some := rfl
/-- Model_marched -/
def in_270 : List zIns := [(0, .aload_n 0, 1), (1, .iload_n 1, 1), (2, .invokevirtual 176, 3), (5, .ifCond .eq 11, 3), (8, .aload_n 0, 1), (9, .iload_n 2, 1), (10, .invokevirtual 194, 3), (13, .ifCond .ne 5, 3),
  (16, .iconst (-1), 1), (17, .ireturn, 1), (18, .iconst 0, 1), (19, .istore_n 3, 1), (20, .iconst 0, 1), (21, .istore 4, 2), (23, .iload 4, 2), (25, .aload_n 0, 1),
  (26, .getfield 167, 3), (29, .if_icmp .ge 115, 3), (32, .iload 4, 2), (34, .iconst 1, 1), (35, .iadd, 1), (36, .istore 5, 2), (38, .iload 5, 2), (40, .aload_n 0, 1),
  (41, .getfield 167, 3), (44, .if_icmp .ge 94, 3), (47, .iconst 0, 1), (48, .istore 6, 2), (50, .iload 6, 2), (52, .aload_n 0, 1), (53, .getfield 170, 3), (56, .if_icmp .ge 76, 3),
  (59, .iconst 0, 1), (60, .istore 7, 2), (62, .iload 7, 2), (64, .aload_n 0, 1), (65, .getfield 170, 3), (68, .if_icmp .ge 58, 3), (71, .iload_n 3, 1), (72, .iload 6, 2),
  (74, .iload 7, 2), (76, .if_icmp .eq 41, 3), (79, .aload_n 0, 1), (80, .iload 4, 2), (82, .iload 6, 2), (84, .iload_n 2, 1), (85, .invokevirtual 272, 3), (88, .iconst (-1), 1),
  (89, .if_icmp .eq 28, 3), (92, .aload_n 0, 1), (93, .iload 4, 2), (95, .iload 6, 2), (97, .iload_n 2, 1), (98, .invokevirtual 272, 3), (101, .aload_n 0, 1), (102, .iload 5, 2),
  (104, .iload 7, 2), (106, .iload_n 2, 1), (107, .invokevirtual 272, 3), (110, .if_icmp .ne 7, 3), (113, .iconst 1, 1), (114, .goto 4, 3), (117, .iconst 0, 1), (118, .iadd, 1),
  (119, .istore_n 3, 1), (120, .iinc 7 1, 3), (123, .goto (-61), 3), (126, .iinc 6 1, 3), (129, .goto (-79), 3), (132, .iinc 5 1, 3), (135, .goto (-97), 3), (138, .iinc 4 1, 3),
  (141, .goto (-118), 3), (144, .iload_n 3, 1), (145, .ireturn, 1)]
def cd_270 : List zSem := [sP (fAld 0), sP (fIld 1), sCI 226 2 (some 12) 2, sBr (c1 (zc0 .eq)) 8, sP (fAld 0), sP (fIld 2),
  sCI 229 2 (some 12) 2, sBr (c1 (zc0 .ne)) 10, sP (fCon (-1)), sRet rI, sP (fCon 0), sP (fIst 3),
  sP (fCon 0), sP (fIst 4), sP (fIld 4), sP (fAld 0), sRI (gFI 779), sBr (c2 (zcI .ge)) 73,
  sP (fIld 4), sP (fCon 1), sP (fII (fun x y => x + y)), sP (fIst 5), sP (fIld 5), sP (fAld 0),
  sRI (gFI 779), sBr (c2 (zcI .ge)) 71, sP (fCon 0), sP (fIst 6), sP (fIld 6), sP (fAld 0),
  sRI (gFI 780), sBr (c2 (zcI .ge)) 69, sP (fCon 0), sP (fIst 7), sP (fIld 7), sP (fAld 0),
  sRI (gFI 780), sBr (c2 (zcI .ge)) 67, sP (fIld 3), sP (fIld 6), sP (fIld 7), sBr (c2 (zcI .eq)) 62,
  sP (fAld 0), sP (fIld 4), sP (fIld 6), sP (fIld 2), sCI 268 4 (some 12) 4, sP (fCon (-1)),
  sBr (c2 (zcI .eq)) 62, sP (fAld 0), sP (fIld 4), sP (fIld 6), sP (fIld 2), sCI 268 4 (some 12) 4,
  sP (fAld 0), sP (fIld 5), sP (fIld 7), sP (fIld 2), sCI 268 4 (some 12) 4, sBr (c2 (zcI .ne)) 62,
  sP (fCon 1), sGo 63, sP (fCon 0), sP (fII (fun x y => x + y)), sP (fIst 3), sP (fInc 7 1),
  sGo 34, sP (fInc 6 1), sGo 28, sP (fInc 5 1), sGo 22, sP (fInc 4 1),
  sGo 14, sP (fIld 3), sRet rI]
set_option maxRecDepth 100000 in
theorem ck_270 : in_270.map (fun q => zsem zTb (zlk zPl_12) (ztg in_270 q.1) false q.2.1) = cd_270.map some := rfl
/-- Model_isChord -/
def in_271 : List zIns := [(0, .iload_n 0, 1), (1, .iconst (-1), 1), (2, .if_icmp .eq 27, 3), (5, .iload_n 1, 1), (6, .iload_n 0, 1), (7, .iconst 2, 1), (8, .iadd, 1), (9, .bipush 8, 2),
  (11, .irem, 1), (12, .if_icmp .ne 17, 3), (15, .iload_n 2, 1), (16, .iload_n 0, 1), (17, .iconst 4, 1), (18, .iadd, 1), (19, .bipush 8, 2), (21, .irem, 1),
  (22, .if_icmp .ne 7, 3), (25, .iconst 1, 1), (26, .goto 4, 3), (29, .iconst 0, 1), (30, .ireturn, 1)]
def cd_271 : List zSem := [sP (fIld 0), sP (fCon (-1)), sBr (c2 (zcI .eq)) 19, sP (fIld 1), sP (fIld 0), sP (fCon 2),
  sP (fII (fun x y => x + y)), sP (fCon 8), sRI (gDiv zrem), sBr (c2 (zcI .ne)) 19, sP (fIld 2), sP (fIld 0),
  sP (fCon 4), sP (fII (fun x y => x + y)), sP (fCon 8), sRI (gDiv zrem), sBr (c2 (zcI .ne)) 19, sP (fCon 1),
  sGo 20, sP (fCon 0), sRz]
set_option maxRecDepth 100000 in
theorem ck_271 : in_271.map (fun q => zsem zTb (zlk zPl_12) (ztg in_271 q.1) true q.2.1) = cd_271.map some := rfl
/-- Model_chords -/
def in_272 : List zIns := [(0, .aload_n 0, 1), (1, .iload_n 1, 1), (2, .invokevirtual 176, 3), (5, .ifCond .eq 19, 3), (8, .aload_n 0, 1), (9, .iload_n 2, 1), (10, .invokevirtual 188, 3), (13, .ifCond .eq 11, 3),
  (16, .aload_n 0, 1), (17, .iload_n 3, 1), (18, .invokevirtual 194, 3), (21, .ifCond .ne 5, 3), (24, .iconst (-1), 1), (25, .ireturn, 1), (26, .iconst 0, 1), (27, .istore 4, 2),
  (29, .iconst 0, 1), (30, .istore 5, 2), (32, .iload 5, 2), (34, .aload_n 0, 1), (35, .getfield 167, 3), (38, .if_icmp .ge 85, 3), (41, .iconst 0, 1), (42, .istore 6, 2),
  (44, .iload 6, 2), (46, .aload_n 0, 1), (47, .getfield 167, 3), (50, .if_icmp .ge 67, 3), (53, .iconst 0, 1), (54, .istore 7, 2), (56, .iload 7, 2), (58, .aload_n 0, 1),
  (59, .getfield 167, 3), (62, .if_icmp .ge 49, 3), (65, .iload 4, 2), (67, .aload_n 0, 1), (68, .iload 5, 2), (70, .iload_n 2, 1), (71, .iload_n 3, 1), (72, .invokevirtual 276, 3),
  (75, .aload_n 0, 1), (76, .iload 6, 2), (78, .iload_n 2, 1), (79, .iload_n 3, 1), (80, .invokevirtual 276, 3), (83, .aload_n 0, 1), (84, .iload 7, 2), (86, .iload_n 2, 1),
  (87, .iload_n 3, 1), (88, .invokevirtual 276, 3), (91, .invokestatic 279, 3), (94, .ifCond .eq 7, 3), (97, .iconst 1, 1), (98, .goto 4, 3), (101, .iconst 0, 1), (102, .iadd, 1),
  (103, .istore 4, 2), (105, .iinc 7 1, 3), (108, .goto (-52), 3), (111, .iinc 6 1, 3), (114, .goto (-70), 3), (117, .iinc 5 1, 3), (120, .goto (-88), 3), (123, .iload 4, 2),
  (125, .ireturn, 1)]
def cd_272 : List zSem := [sP (fAld 0), sP (fIld 1), sCI 226 2 (some 12) 2, sBr (c1 (zc0 .eq)) 12, sP (fAld 0), sP (fIld 2),
  sCI 228 2 (some 12) 2, sBr (c1 (zc0 .eq)) 12, sP (fAld 0), sP (fIld 3), sCI 229 2 (some 12) 2, sBr (c1 (zc0 .ne)) 14,
  sP (fCon (-1)), sRet rI, sP (fCon 0), sP (fIst 4), sP (fCon 0), sP (fIst 5),
  sP (fIld 5), sP (fAld 0), sRI (gFI 779), sBr (c2 (zcI .ge)) 63, sP (fCon 0), sP (fIst 6),
  sP (fIld 6), sP (fAld 0), sRI (gFI 779), sBr (c2 (zcI .ge)) 61, sP (fCon 0), sP (fIst 7),
  sP (fIld 7), sP (fAld 0), sRI (gFI 779), sBr (c2 (zcI .ge)) 59, sP (fIld 4), sP (fAld 0),
  sP (fIld 5), sP (fIld 2), sP (fIld 3), sCI 269 4 (some 12) 4, sP (fAld 0), sP (fIld 6),
  sP (fIld 2), sP (fIld 3), sCI 269 4 (some 12) 4, sP (fAld 0), sP (fIld 7), sP (fIld 2),
  sP (fIld 3), sCI 269 4 (some 12) 4, sCI 271 3 none 3, sBr (c1 (zc0 .eq)) 54, sP (fCon 1), sGo 55,
  sP (fCon 0), sP (fII (fun x y => x + y)), sP (fIst 4), sP (fInc 7 1), sGo 30, sP (fInc 6 1),
  sGo 24, sP (fInc 5 1), sGo 18, sP (fIld 4), sRet rI]
set_option maxRecDepth 100000 in
theorem ck_272 : in_272.map (fun q => zsem zTb (zlk zPl_12) (ztg in_272 q.1) false q.2.1) = cd_272.map some := rfl
/-- Model_areTwins -/
def in_273 : List zIns := [(0, .iconst 1, 1), (1, .istore_n 3, 1), (2, .iconst 0, 1), (3, .istore 4, 2), (5, .iload 4, 2), (7, .aload_n 0, 1), (8, .getfield 170, 3), (11, .if_icmp .ge 58, 3),
  (14, .iconst 0, 1), (15, .istore 5, 2), (17, .iload 5, 2), (19, .aload_n 0, 1), (20, .getfield 173, 3), (23, .if_icmp .ge 40, 3), (26, .iload_n 3, 1), (27, .ifCond .eq 28, 3),
  (30, .aload_n 0, 1), (31, .iload_n 1, 1), (32, .iload 4, 2), (34, .iload 5, 2), (36, .invokevirtual 276, 3), (39, .aload_n 0, 1), (40, .iload_n 2, 1), (41, .iload 4, 2),
  (43, .iload 5, 2), (45, .invokevirtual 276, 3), (48, .if_icmp .ne 7, 3), (51, .iconst 1, 1), (52, .goto 4, 3), (55, .iconst 0, 1), (56, .istore_n 3, 1), (57, .iinc 5 1, 3),
  (60, .goto (-43), 3), (63, .iinc 4 1, 3), (66, .goto (-61), 3), (69, .iload_n 3, 1), (70, .ireturn, 1)]
def cd_273 : List zSem := [sP (fCon 1), sP (fIst 3), sP (fCon 0), sP (fIst 4), sP (fIld 4), sP (fAld 0),
  sRI (gFI 780), sBr (c2 (zcI .ge)) 35, sP (fCon 0), sP (fIst 5), sP (fIld 5), sP (fAld 0),
  sRI (gFI 781), sBr (c2 (zcI .ge)) 33, sP (fIld 3), sBr (c1 (zc0 .eq)) 29, sP (fAld 0), sP (fIld 1),
  sP (fIld 4), sP (fIld 5), sCI 269 4 (some 12) 4, sP (fAld 0), sP (fIld 2), sP (fIld 4),
  sP (fIld 5), sCI 269 4 (some 12) 4, sBr (c2 (zcI .ne)) 29, sP (fCon 1), sGo 30, sP (fCon 0),
  sP (fIst 3), sP (fInc 5 1), sGo 10, sP (fInc 4 1), sGo 4, sP (fIld 3),
  sRz]
set_option maxRecDepth 100000 in
theorem ck_273 : in_273.map (fun q => zsem zTb (zlk zPl_12) (ztg in_273 q.1) true q.2.1) = cd_273.map some := rfl
/-- Model_cutsTo -/
def in_274 : List zIns := [(0, .iconst 0, 1), (1, .istore_n 2, 1), (2, .iconst 0, 1), (3, .istore_n 3, 1), (4, .iload_n 3, 1), (5, .aload_n 0, 1), (6, .getfield 167, 3), (9, .if_icmp .ge 25, 3),
  (12, .iload_n 2, 1), (13, .iload_n 1, 1), (14, .bipush 8, 2), (16, .iadd, 1), (17, .aload_n 0, 1), (18, .iload_n 3, 1), (19, .invokevirtual 185, 3), (22, .isub, 1),
  (23, .bipush 8, 2), (25, .irem, 1), (26, .iadd, 1), (27, .istore_n 2, 1), (28, .iinc 3 1, 3), (31, .goto (-27), 3), (34, .iload_n 2, 1), (35, .ireturn, 1)]
def cd_274 : List zSem := [sP (fCon 0), sP (fIst 2), sP (fCon 0), sP (fIst 3), sP (fIld 3), sP (fAld 0),
  sRI (gFI 779), sBr (c2 (zcI .ge)) 22, sP (fIld 2), sP (fIld 1), sP (fCon 8), sP (fII (fun x y => x + y)),
  sP (fAld 0), sP (fIld 3), sCI 231 2 (some 12) 2, sP (fII (fun x y => x - y)), sP (fCon 8), sRI (gDiv zrem),
  sP (fII (fun x y => x + y)), sP (fIst 2), sP (fInc 3 1), sGo 4, sP (fIld 2), sRet rI]
set_option maxRecDepth 100000 in
theorem ck_274 : in_274.map (fun q => zsem zTb (zlk zPl_12) (ztg in_274 q.1) false q.2.1) = cd_274.map some := rfl
/-- Model_twins -/
def in_275 : List zIns := [(0, .aload_n 0, 1), (1, .iload_n 1, 1), (2, .invokevirtual 176, 3), (5, .ifCond .eq 12, 3), (8, .iload_n 2, 1), (9, .iconst 0, 1), (10, .iconst 2, 1), (11, .invokestatic 114, 3),
  (14, .ifCond .ne 5, 3), (17, .iconst (-1), 1), (18, .ireturn, 1), (19, .iconst 0, 1), (20, .istore_n 3, 1), (21, .iconst 0, 1), (22, .istore 4, 2), (24, .iload 4, 2),
  (26, .aload_n 0, 1), (27, .getfield 167, 3), (30, .if_icmp .ge 44, 3), (33, .iconst 0, 1), (34, .istore 5, 2), (36, .iload 5, 2), (38, .iload 4, 2), (40, .if_icmp .ge 28, 3),
  (43, .iload_n 3, 1), (44, .aload_n 0, 1), (45, .iload 4, 2), (47, .iload 5, 2), (49, .invokevirtual 282, 3), (52, .ifCond .eq 7, 3), (55, .iconst 1, 1), (56, .goto 4, 3),
  (59, .iconst 0, 1), (60, .iadd, 1), (61, .istore_n 3, 1), (62, .iinc 5 1, 3), (65, .goto (-29), 3), (68, .iinc 4 1, 3), (71, .goto (-47), 3), (74, .iconst 0, 1),
  (75, .istore 4, 2), (77, .iconst 1, 1), (78, .istore 5, 2), (80, .iload 5, 2), (82, .bipush 8, 2), (84, .if_icmp .ge 33, 3), (87, .aload_n 0, 1), (88, .iload 5, 2),
  (90, .invokevirtual 285, 3), (93, .aload_n 0, 1), (94, .iload 4, 2), (96, .invokevirtual 285, 3), (99, .if_icmp .ge 8, 3), (102, .iload 5, 2), (104, .goto 5, 3), (107, .iload 4, 2),
  (109, .istore 4, 2), (111, .iinc 5 1, 3), (114, .goto (-34), 3), (117, .iload_n 2, 1), (118, .ifCond .ne 7, 3), (121, .iload_n 3, 1), (122, .goto 19, 3), (125, .iload_n 2, 1),
  (126, .iconst 1, 1), (127, .if_icmp .ne 12, 3), (130, .aload_n 0, 1), (131, .iload 4, 2), (133, .invokevirtual 285, 3), (136, .goto 5, 3), (139, .iload 4, 2), (141, .ireturn, 1)]
def cd_275 : List zSem := [sP (fAld 0), sP (fIld 1), sCI 226 2 (some 12) 2, sBr (c1 (zc0 .eq)) 9, sP (fIld 2), sP (fCon 0),
  sP (fCon 2), sCI 200 3 none 3, sBr (c1 (zc0 .ne)) 11, sP (fCon (-1)), sRet rI, sP (fCon 0),
  sP (fIst 3), sP (fCon 0), sP (fIst 4), sP (fIld 4), sP (fAld 0), sRI (gFI 779),
  sBr (c2 (zcI .ge)) 39, sP (fCon 0), sP (fIst 5), sP (fIld 5), sP (fIld 4), sBr (c2 (zcI .ge)) 37,
  sP (fIld 3), sP (fAld 0), sP (fIld 4), sP (fIld 5), sCI 273 3 (some 12) 6, sBr (c1 (zc0 .eq)) 32,
  sP (fCon 1), sGo 33, sP (fCon 0), sP (fII (fun x y => x + y)), sP (fIst 3), sP (fInc 5 1),
  sGo 21, sP (fInc 4 1), sGo 15, sP (fCon 0), sP (fIst 4), sP (fCon 1),
  sP (fIst 5), sP (fIld 5), sP (fCon 8), sBr (c2 (zcI .ge)) 59, sP (fAld 0), sP (fIld 5),
  sCI 274 2 (some 12) 4, sP (fAld 0), sP (fIld 4), sCI 274 2 (some 12) 4, sBr (c2 (zcI .ge)) 55, sP (fIld 5),
  sGo 56, sP (fIld 4), sP (fIst 4), sP (fInc 5 1), sGo 43, sP (fIld 2),
  sBr (c1 (zc0 .ne)) 63, sP (fIld 3), sGo 71, sP (fIld 2), sP (fCon 1), sBr (c2 (zcI .ne)) 70,
  sP (fAld 0), sP (fIld 4), sCI 274 2 (some 12) 4, sGo 71, sP (fIld 4), sRet rI]
set_option maxRecDepth 100000 in
theorem ck_275 : in_275.map (fun q => zsem zTb (zlk zPl_12) (ztg in_275 q.1) false q.2.1) = cd_275.map some := rfl
/-- Model_soundsBy -/
def in_276 : List zIns := [(0, .aload_n 0, 1), (1, .iload_n 1, 1), (2, .invokevirtual 222, 3), (5, .iconst 0, 1), (6, .istore_n 3, 1), (7, .iconst 0, 1), (8, .istore 4, 2), (10, .iload 4, 2),
  (12, .aload_n 0, 1), (13, .getfield 173, 3), (16, .if_icmp .ge 28, 3), (19, .iload_n 3, 1), (20, .aload_n 0, 1), (21, .iload_n 2, 1), (22, .iload 4, 2), (24, .invokevirtual 212, 3),
  (27, .iconst (-1), 1), (28, .if_icmp .ne 7, 3), (31, .iconst 0, 1), (32, .goto 4, 3), (35, .iconst 1, 1), (36, .iadd, 1), (37, .istore_n 3, 1), (38, .iinc 4 1, 3),
  (41, .goto (-31), 3), (44, .iload_n 3, 1), (45, .ireturn, 1)]
def cd_276 : List zSem := [sP (fAld 0), sP (fIld 1), sCV 236 2 (some 12) 2, sP (fCon 0), sP (fIst 3), sP (fCon 0),
  sP (fIst 4), sP (fIld 4), sP (fAld 0), sRI (gFI 781), sBr (c2 (zcI .ge)) 25, sP (fIld 3),
  sP (fAld 0), sP (fIld 2), sP (fIld 4), sCI 237 3 (some 12) 3, sP (fCon (-1)), sBr (c2 (zcI .ne)) 20,
  sP (fCon 0), sGo 21, sP (fCon 1), sP (fII (fun x y => x + y)), sP (fIst 3), sP (fInc 4 1),
  sGo 7, sP (fIld 3), sRet rI]
set_option maxRecDepth 100000 in
theorem ck_276 : in_276.map (fun q => zsem zTb (zlk zPl_12) (ztg in_276 q.1) false q.2.1) = cd_276.map some := rfl
/-- Model_wishOf -/
def in_277 : List zIns := [(0, .iconst (-1), 1), (1, .istore_n 2, 1), (2, .iconst 0, 1), (3, .istore_n 3, 1), (4, .iload_n 3, 1), (5, .aload_n 0, 1), (6, .getfield 167, 3), (9, .if_icmp .ge 44, 3),
  (12, .aload_n 0, 1), (13, .getfield 35, 3), (16, .iload_n 1, 1), (17, .iaload, 1), (18, .iload_n 3, 1), (19, .ishr, 1), (20, .iconst 1, 1), (21, .iand, 1),
  (22, .ifCond .ne 25, 3), (25, .iload_n 2, 1), (26, .iconst (-1), 1), (27, .if_icmp .eq 18, 3), (30, .aload_n 0, 1), (31, .iload_n 3, 1), (32, .iload_n 1, 1), (33, .invokevirtual 288, 3),
  (36, .aload_n 0, 1), (37, .iload_n 2, 1), (38, .iload_n 1, 1), (39, .invokevirtual 288, 3), (42, .if_icmp .le 5, 3), (45, .iload_n 3, 1), (46, .istore_n 2, 1), (47, .iinc 3 1, 3),
  (50, .goto (-46), 3), (53, .iload_n 2, 1), (54, .ireturn, 1)]
def cd_277 : List zSem := [sP (fCon (-1)), sP (fIst 2), sP (fCon 0), sP (fIst 3), sP (fIld 3), sP (fAld 0),
  sRI (gFI 779), sBr (c2 (zcI .ge)) 33, sP (fAld 0), sRR (gFR 791), sP (fIld 1), sRI gAI,
  sP (fIld 3), sP (fII zshr), sP (fCon 1), sP (fII (fun x y => x &&& y)), sBr (c1 (zc0 .ne)) 31, sP (fIld 2),
  sP (fCon (-1)), sBr (c2 (zcI .eq)) 29, sP (fAld 0), sP (fIld 3), sP (fIld 1), sCI 276 3 (some 12) 5,
  sP (fAld 0), sP (fIld 2), sP (fIld 1), sCI 276 3 (some 12) 5, sBr (c2 (zcI .le)) 31, sP (fIld 3),
  sP (fIst 2), sP (fInc 3 1), sGo 4, sP (fIld 2), sRet rI]
set_option maxRecDepth 100000 in
theorem ck_277 : in_277.map (fun q => zsem zTb (zlk zPl_12) (ztg in_277 q.1) false q.2.1) = cd_277.map some := rfl
/-- Model_hasAny -/
def in_278 : List zIns := [(0, .iconst 0, 1), (1, .istore_n 2, 1), (2, .iconst 0, 1), (3, .istore_n 3, 1), (4, .iload_n 3, 1), (5, .aload_n 0, 1), (6, .getfield 167, 3), (9, .if_icmp .ge 29, 3),
  (12, .iload_n 2, 1), (13, .ifCond .ne 13, 3), (16, .aload_n 0, 1), (17, .getfield 32, 3), (20, .iload_n 3, 1), (21, .iaload, 1), (22, .iload_n 1, 1), (23, .if_icmp .ne 7, 3),
  (26, .iconst 1, 1), (27, .goto 4, 3), (30, .iconst 0, 1), (31, .istore_n 2, 1), (32, .iinc 3 1, 3), (35, .goto (-31), 3), (38, .iload_n 2, 1), (39, .ireturn, 1)]
def cd_278 : List zSem := [sP (fCon 0), sP (fIst 2), sP (fCon 0), sP (fIst 3), sP (fIld 3), sP (fAld 0),
  sRI (gFI 779), sBr (c2 (zcI .ge)) 22, sP (fIld 2), sBr (c1 (zc0 .ne)) 16, sP (fAld 0), sRR (gFR 790),
  sP (fIld 3), sRI gAI, sP (fIld 1), sBr (c2 (zcI .ne)) 18, sP (fCon 1), sGo 19,
  sP (fCon 0), sP (fIst 2), sP (fInc 3 1), sGo 4, sP (fIld 2), sRz]
set_option maxRecDepth 100000 in
theorem ck_278 : in_278.map (fun q => zsem zTb (zlk zPl_12) (ztg in_278 q.1) true q.2.1) = cd_278.map some := rfl
/-- Model_asksAround -/
def in_279 : List zIns := [(0, .iconst 0, 1), (1, .istore_n 1, 1), (2, .iconst 0, 1), (3, .istore_n 2, 1), (4, .iload_n 2, 1), (5, .aload_n 0, 1), (6, .getfield 170, 3), (9, .if_icmp .ge 104, 3),
  (12, .aload_n 0, 1), (13, .iload_n 2, 1), (14, .invokevirtual 291, 3), (17, .ifCond .eq 7, 3), (20, .iconst (-1), 1), (21, .goto 8, 3), (24, .aload_n 0, 1), (25, .iload_n 2, 1),
  (26, .invokevirtual 294, 3), (29, .istore_n 3, 1), (30, .iload_n 3, 1), (31, .iconst (-1), 1), (32, .if_icmp .ne 6, 3), (35, .goto 72, 3), (38, .iconst 1, 1), (39, .istore_n 1, 1),
  (40, .aload_n 0, 1), (41, .getfield 35, 3), (44, .iload_n 2, 1), (45, .dup2, 1), (46, .iaload, 1), (47, .iconst 1, 1), (48, .iload_n 3, 1), (49, .ishl, 1),
  (50, .ior, 1), (51, .iastore, 1), (52, .aload_n 0, 1), (53, .getfield 32, 3), (56, .iload_n 3, 1), (57, .iaload, 1), (58, .istore 4, 2), (60, .iload 4, 2),
  (62, .iconst (-1), 1), (63, .if_icmp .eq 37, 3), (66, .aload_n 0, 1), (67, .iload_n 2, 1), (68, .invokevirtual 191, 3), (71, .aload_n 0, 1), (72, .iload 4, 2), (74, .invokevirtual 191, 3),
  (77, .if_icmp .gt 23, 3), (80, .aload_n 0, 1), (81, .iload_n 2, 1), (82, .invokevirtual 191, 3), (85, .aload_n 0, 1), (86, .iload 4, 2), (88, .invokevirtual 191, 3), (91, .if_icmp .ne 16, 3),
  (94, .iload_n 2, 1), (95, .iload 4, 2), (97, .if_icmp .ge 10, 3), (100, .aload_n 0, 1), (101, .getfield 32, 3), (104, .iload_n 3, 1), (105, .iload_n 2, 1), (106, .iastore, 1),
  (107, .iinc 2 1, 3), (110, .goto (-106), 3), (113, .iload_n 1, 1), (114, .ireturn, 1)]
def cd_279 : List zSem := [sP (fCon 0), sP (fIst 1), sP (fCon 0), sP (fIst 2), sP (fIld 2), sP (fAld 0),
  sRI (gFI 780), sBr (c2 (zcI .ge)) 66, sP (fAld 0), sP (fIld 2), sCI 278 2 (some 12) 4, sBr (c1 (zc0 .eq)) 14,
  sP (fCon (-1)), sGo 17, sP (fAld 0), sP (fIld 2), sCI 277 2 (some 12) 4, sP (fIst 3),
  sP (fIld 3), sP (fCon (-1)), sBr (c2 (zcI .ne)) 22, sGo 64, sP (fCon 1), sP (fIst 1),
  sP (fAld 0), sRR (gFR 791), sP (fIld 2), sP fDup2, sRI gAI, sP (fCon 1),
  sP (fIld 3), sP (fII zshl), sP (fII (fun x y => x ||| y)), sWr wAI, sP (fAld 0), sRR (gFR 790),
  sP (fIld 3), sRI gAI, sP (fIst 4), sP (fIld 4), sP (fCon (-1)), sBr (c2 (zcI .eq)) 59,
  sP (fAld 0), sP (fIld 2), sCI 232 2 (some 12) 2, sP (fAld 0), sP (fIld 4), sCI 232 2 (some 12) 2,
  sBr (c2 (zcI .gt)) 59, sP (fAld 0), sP (fIld 2), sCI 232 2 (some 12) 2, sP (fAld 0), sP (fIld 4),
  sCI 232 2 (some 12) 2, sBr (c2 (zcI .ne)) 64, sP (fIld 2), sP (fIld 4), sBr (c2 (zcI .ge)) 64, sP (fAld 0),
  sRR (gFR 790), sP (fIld 3), sP (fIld 2), sWr wAI, sP (fInc 2 1), sGo 4,
  sP (fIld 1), sRz]
set_option maxRecDepth 100000 in
theorem ck_279 : in_279.map (fun q => zsem zTb (zlk zPl_12) (ztg in_279 q.1) true q.2.1) = cd_279.map some := rfl
/-- Model_owns -/
def in_280 : List zIns := [(0, .aload_n 0, 1), (1, .iload_n 1, 1), (2, .invokevirtual 176, 3), (5, .ifCond .eq 26, 3), (8, .iload_n 3, 1), (9, .ifCond .eq 14, 3), (12, .aload_n 0, 1), (13, .iload_n 2, 1),
  (14, .invokevirtual 179, 3), (17, .ifCond .eq 14, 3), (20, .goto 14, 3), (23, .aload_n 0, 1), (24, .iload_n 2, 1), (25, .invokevirtual 188, 3), (28, .ifCond .ne 6, 3), (31, .bipush (-2), 2),
  (33, .ireturn, 1), (34, .iconst 0, 1), (35, .istore 4, 2), (37, .iload 4, 2), (39, .bipush 6, 2), (41, .if_icmp .ge 17, 3), (44, .aload_n 0, 1), (45, .getfield 32, 3),
  (48, .iload 4, 2), (50, .iconst (-1), 1), (51, .iastore, 1), (52, .iinc 4 1, 3), (55, .goto (-18), 3), (58, .iconst 0, 1), (59, .istore 4, 2), (61, .iload 4, 2),
  (63, .iconst 4, 1), (64, .if_icmp .ge 17, 3), (67, .aload_n 0, 1), (68, .getfield 35, 3), (71, .iload 4, 2), (73, .iconst 0, 1), (74, .iastore, 1), (75, .iinc 4 1, 3),
  (78, .goto (-17), 3), (81, .iconst 1, 1), (82, .istore 4, 2), (84, .iload 4, 2), (86, .ifCond .eq 12, 3), (89, .aload_n 0, 1), (90, .invokevirtual 297, 3), (93, .istore 4, 2),
  (95, .goto (-11), 3), (98, .iload_n 3, 1), (99, .ifCond .eq 10, 3), (102, .aload_n 0, 1), (103, .getfield 32, 3), (106, .iload_n 2, 1), (107, .iaload, 1), (108, .ireturn, 1),
  (109, .iconst 0, 1), (110, .istore 5, 2), (112, .iload 5, 2), (114, .aload_n 0, 1), (115, .getfield 167, 3), (118, .if_icmp .ge 23, 3), (121, .aload_n 0, 1), (122, .getfield 32, 3),
  (125, .iload 5, 2), (127, .iaload, 1), (128, .iload_n 2, 1), (129, .if_icmp .ne 6, 3), (132, .iload 5, 2), (134, .ireturn, 1), (135, .iinc 5 1, 3), (138, .goto (-26), 3),
  (141, .iconst (-1), 1), (142, .ireturn, 1)]
def cd_280 : List zSem := [sP (fAld 0), sP (fIld 1), sCI 226 2 (some 12) 2, sBr (c1 (zc0 .eq)) 15, sP (fIld 3), sBr (c1 (zc0 .eq)) 11,
  sP (fAld 0), sP (fIld 2), sCI 227 2 (some 12) 2, sBr (c1 (zc0 .eq)) 15, sGo 17, sP (fAld 0),
  sP (fIld 2), sCI 228 2 (some 12) 2, sBr (c1 (zc0 .ne)) 17, sP (fCon (-2)), sRet rI, sP (fCon 0),
  sP (fIst 4), sP (fIld 4), sP (fCon 6), sBr (c2 (zcI .ge)) 29, sP (fAld 0), sRR (gFR 790),
  sP (fIld 4), sP (fCon (-1)), sWr wAI, sP (fInc 4 1), sGo 19, sP (fCon 0),
  sP (fIst 4), sP (fIld 4), sP (fCon 4), sBr (c2 (zcI .ge)) 41, sP (fAld 0), sRR (gFR 791),
  sP (fIld 4), sP (fCon 0), sWr wAI, sP (fInc 4 1), sGo 31, sP (fCon 1),
  sP (fIst 4), sP (fIld 4), sBr (c1 (zc0 .eq)) 49, sP (fAld 0), sCI 279 1 (some 12) 5, sP (fIst 4),
  sGo 43, sP (fIld 3), sBr (c1 (zc0 .eq)) 56, sP (fAld 0), sRR (gFR 790), sP (fIld 2),
  sRI gAI, sRet rI, sP (fCon 0), sP (fIst 5), sP (fIld 5), sP (fAld 0),
  sRI (gFI 779), sBr (c2 (zcI .ge)) 72, sP (fAld 0), sRR (gFR 790), sP (fIld 5), sRI gAI,
  sP (fIld 2), sBr (c2 (zcI .ne)) 70, sP (fIld 5), sRet rI, sP (fInc 5 1), sGo 58,
  sP (fCon (-1)), sRet rI]
set_option maxRecDepth 100000 in
theorem ck_280 : in_280.map (fun q => zsem zTb (zlk zPl_12) (ztg in_280 q.1) false q.2.1) = cd_280.map some := rfl
/-- Model_wets -/
def in_281 : List zIns := [(0, .aload_n 0, 1), (1, .iload_n 1, 1), (2, .invokevirtual 176, 3), (5, .ifCond .eq 11, 3), (8, .aload_n 0, 1), (9, .iload_n 2, 1), (10, .invokevirtual 179, 3), (13, .ifCond .ne 5, 3),
  (16, .iconst (-1), 1), (17, .ireturn, 1), (18, .iconst 0, 1), (19, .istore_n 3, 1), (20, .iload_n 3, 1), (21, .iconst 4, 1), (22, .if_icmp .ge 114, 3), (25, .iconst 1, 1),
  (26, .istore 4, 2), (28, .aload_n 0, 1), (29, .iload_n 2, 1), (30, .invokevirtual 222, 3), (33, .aload_n 0, 1), (34, .aload_n 0, 1), (35, .getfield 203, 3), (38, .iconst 3, 1),
  (39, .iload_n 3, 1), (40, .imul, 1), (41, .iadd, 1), (42, .bipush 9, 2), (44, .if_icmp .le 8, 3), (47, .bipush 9, 2), (49, .goto 11, 3), (52, .aload_n 0, 1),
  (53, .getfield 203, 3), (56, .iconst 3, 1), (57, .iload_n 3, 1), (58, .imul, 1), (59, .iadd, 1), (60, .putfield 203, 3), (63, .iconst 0, 1), (64, .istore 5, 2),
  (66, .iload 5, 2), (68, .aload_n 0, 1), (69, .getfield 170, 3), (72, .if_icmp .ge 51, 3), (75, .iconst 0, 1), (76, .istore 6, 2), (78, .iload 6, 2), (80, .aload_n 0, 1),
  (81, .getfield 173, 3), (84, .if_icmp .ge 33, 3), (87, .iload 4, 2), (89, .ifCond .eq 19, 3), (92, .aload_n 0, 1), (93, .iload 5, 2), (95, .iload 6, 2), (97, .invokevirtual 212, 3),
  (100, .iconst (-1), 1), (101, .if_icmp .eq 7, 3), (104, .iconst 1, 1), (105, .goto 4, 3), (108, .iconst 0, 1), (109, .istore 4, 2), (111, .iinc 6 1, 3), (114, .goto (-36), 3),
  (117, .iinc 5 1, 3), (120, .goto (-54), 3), (123, .iload 4, 2), (125, .ifCond .eq 5, 3), (128, .iload_n 3, 1), (129, .ireturn, 1), (130, .iinc 3 1, 3), (133, .goto (-113), 3),
  (136, .iconst (-1), 1), (137, .ireturn, 1)]
def cd_281 : List zSem := [sP (fAld 0), sP (fIld 1), sCI 226 2 (some 12) 2, sBr (c1 (zc0 .eq)) 8, sP (fAld 0), sP (fIld 2),
  sCI 227 2 (some 12) 2, sBr (c1 (zc0 .ne)) 10, sP (fCon (-1)), sRet rI, sP (fCon 0), sP (fIst 3),
  sP (fIld 3), sP (fCon 4), sBr (c2 (zcI .ge)) 72, sP (fCon 1), sP (fIst 4), sP (fAld 0),
  sP (fIld 2), sCV 236 2 (some 12) 2, sP (fAld 0), sP (fAld 0), sRI (gFI 782), sP (fCon 3),
  sP (fIld 3), sP (fII (fun x y => x * y)), sP (fII (fun x y => x + y)), sP (fCon 9), sBr (c2 (zcI .le)) 31, sP (fCon 9),
  sGo 37, sP (fAld 0), sRI (gFI 782), sP (fCon 3), sP (fIld 3), sP (fII (fun x y => x * y)),
  sP (fII (fun x y => x + y)), sWr (wFI 782), sP (fCon 0), sP (fIst 5), sP (fIld 5), sP (fAld 0),
  sRI (gFI 780), sBr (c2 (zcI .ge)) 66, sP (fCon 0), sP (fIst 6), sP (fIld 6), sP (fAld 0),
  sRI (gFI 781), sBr (c2 (zcI .ge)) 64, sP (fIld 4), sBr (c1 (zc0 .eq)) 60, sP (fAld 0), sP (fIld 5),
  sP (fIld 6), sCI 237 3 (some 12) 3, sP (fCon (-1)), sBr (c2 (zcI .eq)) 60, sP (fCon 1), sGo 61,
  sP (fCon 0), sP (fIst 4), sP (fInc 6 1), sGo 46, sP (fInc 5 1), sGo 40,
  sP (fIld 4), sBr (c1 (zc0 .eq)) 70, sP (fIld 3), sRet rI, sP (fInc 3 1), sGo 12,
  sP (fCon (-1)), sRet rI]
set_option maxRecDepth 100000 in
theorem ck_281 : in_281.map (fun q => zsem zTb (zlk zPl_12) (ztg in_281 q.1) false q.2.1) = cd_281.map some := rfl
/-- Model_clearBy -/
def in_282 : List zIns := [(0, .iconst 0, 1), (1, .istore_n 3, 1), (2, .iconst 0, 1), (3, .istore 4, 2), (5, .iload 4, 2), (7, .iconst 3, 1), (8, .if_icmp .ge 66, 3), (11, .iconst 0, 1),
  (12, .istore 5, 2), (14, .iconst 0, 1), (15, .istore 6, 2), (17, .iload 6, 2), (19, .aload_n 0, 1), (20, .getfield 170, 3), (23, .if_icmp .ge 32, 3), (26, .iload 5, 2),
  (28, .aload_n 0, 1), (29, .iload_n 1, 1), (30, .iload 6, 2), (32, .iload_n 2, 1), (33, .invokevirtual 272, 3), (36, .iload 4, 2), (38, .if_icmp .ne 7, 3), (41, .iconst 1, 1),
  (42, .goto 4, 3), (45, .iconst 0, 1), (46, .iadd, 1), (47, .istore 5, 2), (49, .iinc 6 1, 3), (52, .goto (-35), 3), (55, .iload 5, 2), (57, .iload_n 3, 1),
  (58, .if_icmp .le 8, 3), (61, .iload 5, 2), (63, .goto 4, 3), (66, .iload_n 3, 1), (67, .istore_n 3, 1), (68, .iinc 4 1, 3), (71, .goto (-66), 3), (74, .iload_n 3, 1),
  (75, .ireturn, 1)]
def cd_282 : List zSem := [sP (fCon 0), sP (fIst 3), sP (fCon 0), sP (fIst 4), sP (fIld 4), sP (fCon 3),
  sBr (c2 (zcI .ge)) 39, sP (fCon 0), sP (fIst 5), sP (fCon 0), sP (fIst 6), sP (fIld 6),
  sP (fAld 0), sRI (gFI 780), sBr (c2 (zcI .ge)) 30, sP (fIld 5), sP (fAld 0), sP (fIld 1),
  sP (fIld 6), sP (fIld 2), sCI 268 4 (some 12) 4, sP (fIld 4), sBr (c2 (zcI .ne)) 25, sP (fCon 1),
  sGo 26, sP (fCon 0), sP (fII (fun x y => x + y)), sP (fIst 5), sP (fInc 6 1), sGo 11,
  sP (fIld 5), sP (fIld 3), sBr (c2 (zcI .le)) 35, sP (fIld 5), sGo 36, sP (fIld 3),
  sP (fIst 3), sP (fInc 4 1), sGo 4, sP (fIld 3), sRet rI]
set_option maxRecDepth 100000 in
theorem ck_282 : in_282.map (fun q => zsem zTb (zlk zPl_12) (ztg in_282 q.1) false q.2.1) = cd_282.map some := rfl
/-- Model_clearest -/
def in_283 : List zIns := [(0, .aload_n 0, 1), (1, .iload_n 1, 1), (2, .invokevirtual 176, 3), (5, .ifCond .eq 11, 3), (8, .aload_n 0, 1), (9, .iload_n 2, 1), (10, .invokevirtual 194, 3), (13, .ifCond .ne 6, 3),
  (16, .bipush (-2), 2), (18, .ireturn, 1), (19, .aload_n 0, 1), (20, .getfield 167, 3), (23, .ifCond .ne 7, 3), (26, .iconst (-1), 1), (27, .goto 4, 3), (30, .iconst 0, 1),
  (31, .istore 4, 2), (33, .iconst 1, 1), (34, .istore 5, 2), (36, .iload 5, 2), (38, .aload_n 0, 1), (39, .getfield 167, 3), (42, .if_icmp .ge 35, 3), (45, .aload_n 0, 1),
  (46, .iload 5, 2), (48, .iload_n 2, 1), (49, .invokevirtual 301, 3), (52, .aload_n 0, 1), (53, .iload 4, 2), (55, .iload_n 2, 1), (56, .invokevirtual 301, 3), (59, .if_icmp .le 8, 3),
  (62, .iload 5, 2), (64, .goto 5, 3), (67, .iload 4, 2), (69, .istore 4, 2), (71, .iinc 5 1, 3), (74, .goto (-38), 3), (77, .iload_n 3, 1), (78, .ifCond .ne 8, 3),
  (81, .iload 4, 2), (83, .goto 20, 3), (86, .iload 4, 2), (88, .iconst (-1), 1), (89, .if_icmp .ne 7, 3), (92, .iconst 0, 1), (93, .goto 10, 3), (96, .aload_n 0, 1),
  (97, .iload 4, 2), (99, .iload_n 2, 1), (100, .invokevirtual 301, 3), (103, .ireturn, 1)]
def cd_283 : List zSem := [sP (fAld 0), sP (fIld 1), sCI 226 2 (some 12) 2, sBr (c1 (zc0 .eq)) 8, sP (fAld 0), sP (fIld 2),
  sCI 229 2 (some 12) 2, sBr (c1 (zc0 .ne)) 10, sP (fCon (-2)), sRet rI, sP (fAld 0), sRI (gFI 779),
  sBr (c1 (zc0 .ne)) 15, sP (fCon (-1)), sGo 16, sP (fCon 0), sP (fIst 4), sP (fCon 1),
  sP (fIst 5), sP (fIld 5), sP (fAld 0), sRI (gFI 779), sBr (c2 (zcI .ge)) 38, sP (fAld 0),
  sP (fIld 5), sP (fIld 2), sCI 282 3 (some 12) 7, sP (fAld 0), sP (fIld 4), sP (fIld 2),
  sCI 282 3 (some 12) 7, sBr (c2 (zcI .le)) 34, sP (fIld 5), sGo 35, sP (fIld 4), sP (fIst 4),
  sP (fInc 5 1), sGo 19, sP (fIld 3), sBr (c1 (zc0 .ne)) 42, sP (fIld 4), sGo 51,
  sP (fIld 4), sP (fCon (-1)), sBr (c2 (zcI .ne)) 47, sP (fCon 0), sGo 51, sP (fAld 0),
  sP (fIld 4), sP (fIld 2), sCI 282 3 (some 12) 7, sRet rI]
set_option maxRecDepth 100000 in
theorem ck_283 : in_283.map (fun q => zsem zTb (zlk zPl_12) (ztg in_283 q.1) false q.2.1) = cd_283.map some := rfl
/-- Model_fairBy -/
def in_284 : List zIns := [(0, .iconst 0, 1), (1, .istore_n 3, 1), (2, .iconst 0, 1), (3, .istore 4, 2), (5, .iload 4, 2), (7, .aload_n 0, 1), (8, .getfield 167, 3), (11, .if_icmp .ge 76, 3),
  (14, .aload_n 0, 1), (15, .iload 4, 2), (17, .invokevirtual 222, 3), (20, .aload_n 0, 1), (21, .iload_n 1, 1), (22, .putfield 209, 3), (25, .iconst 0, 1), (26, .istore 5, 2),
  (28, .iload 5, 2), (30, .aload_n 0, 1), (31, .getfield 170, 3), (34, .if_icmp .ge 47, 3), (37, .iconst 0, 1), (38, .istore 6, 2), (40, .iload 6, 2), (42, .aload_n 0, 1),
  (43, .getfield 173, 3), (46, .if_icmp .ge 29, 3), (49, .iload_n 3, 1), (50, .aload_n 0, 1), (51, .iload 5, 2), (53, .iload 6, 2), (55, .invokevirtual 226, 3), (58, .iload_n 2, 1),
  (59, .if_icmp .ne 7, 3), (62, .iconst 1, 1), (63, .goto 4, 3), (66, .iconst 0, 1), (67, .iadd, 1), (68, .istore_n 3, 1), (69, .iinc 6 1, 3), (72, .goto (-32), 3),
  (75, .iinc 5 1, 3), (78, .goto (-50), 3), (81, .iinc 4 1, 3), (84, .goto (-79), 3), (87, .iload_n 3, 1), (88, .ireturn, 1)]
def cd_284 : List zSem := [sP (fCon 0), sP (fIst 3), sP (fCon 0), sP (fIst 4), sP (fIld 4), sP (fAld 0),
  sRI (gFI 779), sBr (c2 (zcI .ge)) 44, sP (fAld 0), sP (fIld 4), sCV 236 2 (some 12) 2, sP (fAld 0),
  sP (fIld 1), sWr (wFI 784), sP (fCon 0), sP (fIst 5), sP (fIld 5), sP (fAld 0),
  sRI (gFI 780), sBr (c2 (zcI .ge)) 42, sP (fCon 0), sP (fIst 6), sP (fIld 6), sP (fAld 0),
  sRI (gFI 781), sBr (c2 (zcI .ge)) 40, sP (fIld 3), sP (fAld 0), sP (fIld 5), sP (fIld 6),
  sCI 239 3 (some 12) 3, sP (fIld 2), sBr (c2 (zcI .ne)) 35, sP (fCon 1), sGo 36, sP (fCon 0),
  sP (fII (fun x y => x + y)), sP (fIst 3), sP (fInc 6 1), sGo 22, sP (fInc 5 1), sGo 16,
  sP (fInc 4 1), sGo 4, sP (fIld 3), sRet rI]
set_option maxRecDepth 100000 in
theorem ck_284 : in_284.map (fun q => zsem zTb (zlk zPl_12) (ztg in_284 q.1) false q.2.1) = cd_284.map some := rfl
/-- Model_fairest -/
def in_285 : List zIns := [(0, .aload_n 0, 1), (1, .iload_n 1, 1), (2, .invokevirtual 176, 3), (5, .ifCond .eq 12, 3), (8, .iload_n 2, 1), (9, .iconst 0, 1), (10, .iconst 2, 1), (11, .invokestatic 114, 3),
  (14, .ifCond .ne 5, 3), (17, .iconst (-1), 1), (18, .ireturn, 1), (19, .iconst 0, 1), (20, .istore 4, 2), (22, .iconst 1, 1), (23, .istore 5, 2), (25, .iload 5, 2),
  (27, .bipush 10, 2), (29, .if_icmp .ge 35, 3), (32, .aload_n 0, 1), (33, .iload 5, 2), (35, .iload_n 2, 1), (36, .invokevirtual 304, 3), (39, .aload_n 0, 1), (40, .iload 4, 2),
  (42, .iload_n 2, 1), (43, .invokevirtual 304, 3), (46, .if_icmp .le 8, 3), (49, .iload 5, 2), (51, .goto 5, 3), (54, .iload 4, 2), (56, .istore 4, 2), (58, .iinc 5 1, 3),
  (61, .goto (-36), 3), (64, .iload_n 3, 1), (65, .ifCond .eq 13, 3), (68, .aload_n 0, 1), (69, .iload 4, 2), (71, .iload_n 2, 1), (72, .invokevirtual 304, 3), (75, .goto 5, 3),
  (78, .iload 4, 2), (80, .ireturn, 1)]
def cd_285 : List zSem := [sP (fAld 0), sP (fIld 1), sCI 226 2 (some 12) 2, sBr (c1 (zc0 .eq)) 9, sP (fIld 2), sP (fCon 0),
  sP (fCon 2), sCI 200 3 none 3, sBr (c1 (zc0 .ne)) 11, sP (fCon (-1)), sRet rI, sP (fCon 0),
  sP (fIst 4), sP (fCon 1), sP (fIst 5), sP (fIld 5), sP (fCon 10), sBr (c2 (zcI .ge)) 33,
  sP (fAld 0), sP (fIld 5), sP (fIld 2), sCI 284 3 (some 12) 7, sP (fAld 0), sP (fIld 4),
  sP (fIld 2), sCI 284 3 (some 12) 7, sBr (c2 (zcI .le)) 29, sP (fIld 5), sGo 30, sP (fIld 4),
  sP (fIst 4), sP (fInc 5 1), sGo 15, sP (fIld 3), sBr (c1 (zc0 .eq)) 40, sP (fAld 0),
  sP (fIld 4), sP (fIld 2), sCI 284 3 (some 12) 7, sGo 41, sP (fIld 4), sRet rI]
set_option maxRecDepth 100000 in
theorem ck_285 : in_285.map (fun q => zsem zTb (zlk zPl_12) (ztg in_285 q.1) false q.2.1) = cd_285.map some := rfl
/-- Model_isYear -/
def in_286 : List zIns := [(0, .aload_n 0, 1), (1, .iconst 1, 1), (2, .iload_n 1, 1), (3, .invokevirtual 145, 3), (6, .ifCond .ne 5, 3), (9, .iconst 0, 1), (10, .ireturn, 1), (11, .aload_n 0, 1),
  (12, .iconst 1, 1), (13, .iload_n 1, 1), (14, .invokestatic 161, 3), (17, .putfield 307, 3), (20, .iconst 1, 1), (21, .ireturn, 1)]
def cd_286 : List zSem := [sP (fAld 0), sP (fCon 1), sP (fIld 1), sCI 223 3 (some 12) 3, sBr (c1 (zc0 .ne)) 7, sP (fCon 0),
  sRz, sP (fAld 0), sP (fCon 1), sP (fIld 1), sCI 221 2 none 2, sWr (wFI 792),
  sP (fCon 1), sRz]
set_option maxRecDepth 100000 in
theorem ck_286 : in_286.map (fun q => zsem zTb (zlk zPl_12) (ztg in_286 q.1) true q.2.1) = cd_286.map some := rfl
/-- Model_deed -/
def in_287 : List zIns := [(0, .aload_n 0, 1), (1, .iload_n 1, 1), (2, .invokevirtual 310, 3), (5, .ifCond .ne 6, 3), (8, .bipush (-2), 2), (10, .ireturn, 1), (11, .iload_n 2, 1), (12, .iconst (-1), 1),
  (13, .if_icmp .ne 22, 3), (16, .iload_n 3, 1), (17, .ifCond .ne 15, 3), (20, .aload_n 0, 1), (21, .getfield 7, 3), (24, .aload_n 0, 1), (25, .getfield 307, 3), (28, .iaload, 1),
  (29, .goto 5, 3), (32, .bipush (-2), 2), (34, .ireturn, 1), (35, .iload_n 2, 1), (36, .iconst 0, 1), (37, .aload_n 0, 1), (38, .getfield 7, 3), (41, .aload_n 0, 1),
  (42, .getfield 307, 3), (45, .iaload, 1), (46, .iconst 1, 1), (47, .isub, 1), (48, .invokestatic 114, 3), (51, .ifCond .eq 33, 3), (54, .iload_n 3, 1), (55, .iconst 0, 1),
  (56, .iconst 5, 1), (57, .invokestatic 114, 3), (60, .ifCond .eq 24, 3), (63, .aload_n 0, 1), (64, .getfield 7, 3), (67, .aload_n 0, 1), (68, .getfield 307, 3), (71, .iconst 1, 1),
  (72, .iadd, 1), (73, .bipush 6, 2), (75, .iload_n 2, 1), (76, .imul, 1), (77, .iadd, 1), (78, .iload_n 3, 1), (79, .iadd, 1), (80, .iaload, 1),
  (81, .goto 5, 3), (84, .bipush (-2), 2), (86, .ireturn, 1)]
def cd_287 : List zSem := [sP (fAld 0), sP (fIld 1), sCI 286 2 (some 12) 2, sBr (c1 (zc0 .ne)) 6, sP (fCon (-2)), sRet rI,
  sP (fIld 2), sP (fCon (-1)), sBr (c2 (zcI .ne)) 19, sP (fIld 3), sBr (c1 (zc0 .ne)) 17, sP (fAld 0),
  sRR (gFR 768), sP (fAld 0), sRI (gFI 792), sRI gAI, sGo 18, sP (fCon (-2)),
  sRet rI, sP (fIld 2), sP (fCon 0), sP (fAld 0), sRR (gFR 768), sP (fAld 0),
  sRI (gFI 792), sRI gAI, sP (fCon 1), sP (fII (fun x y => x - y)), sCI 200 3 none 3, sBr (c1 (zc0 .eq)) 49,
  sP (fIld 3), sP (fCon 0), sP (fCon 5), sCI 200 3 none 3, sBr (c1 (zc0 .eq)) 49, sP (fAld 0),
  sRR (gFR 768), sP (fAld 0), sRI (gFI 792), sP (fCon 1), sP (fII (fun x y => x + y)), sP (fCon 6),
  sP (fIld 2), sP (fII (fun x y => x * y)), sP (fII (fun x y => x + y)), sP (fIld 3), sP (fII (fun x y => x + y)), sRI gAI,
  sGo 50, sP (fCon (-2)), sRet rI]
set_option maxRecDepth 100000 in
theorem ck_287 : in_287.map (fun q => zsem zTb (zlk zPl_12) (ztg in_287 q.1) false q.2.1) = cd_287.map some := rfl
/-- Model_begins -/
def in_288 : List zIns := [(0, .aload_n 0, 1), (1, .iconst 0, 1), (2, .putfield 313, 3), (5, .aload_n 0, 1), (6, .iconst 0, 1), (7, .putfield 316, 3), (10, .aload_n 0, 1), (11, .iconst 0, 1),
  (12, .putfield 319, 3), (15, .aload_n 0, 1), (16, .iconst 0, 1), (17, .putfield 322, 3), (20, .aload_n 0, 1), (21, .iconst 0, 1), (22, .putfield 325, 3), (25, .aload_n 0, 1),
  (26, .iconst 0, 1), (27, .putfield 328, 3), (30, .aload_n 0, 1), (31, .aload_n 0, 1), (32, .getfield 7, 3), (35, .aload_n 0, 1), (36, .getfield 164, 3), (39, .iconst 3, 1),
  (40, .iadd, 1), (41, .iaload, 1), (42, .putfield 331, 3), (45, .aload_n 0, 1), (46, .iconst (-1), 1), (47, .putfield 334, 3), (50, .aload_n 0, 1), (51, .iconst 0, 1),
  (52, .putfield 337, 3), (55, .iconst 0, 1), (56, .istore_n 1, 1), (57, .iload_n 1, 1), (58, .aload_n 0, 1), (59, .getfield 167, 3), (62, .if_icmp .ge 31, 3), (65, .aload_n 0, 1),
  (66, .getfield 38, 3), (69, .iload_n 1, 1), (70, .aload_n 0, 1), (71, .iload_n 1, 1), (72, .invokevirtual 182, 3), (75, .iastore, 1), (76, .aload_n 0, 1), (77, .getfield 41, 3),
  (80, .iload_n 1, 1), (81, .aload_n 0, 1), (82, .iload_n 1, 1), (83, .invokevirtual 185, 3), (86, .iastore, 1), (87, .iinc 1 1, 3), (90, .goto (-33), 3), (93, .iconst 0, 1),
  (94, .istore_n 1, 1), (95, .iload_n 1, 1), (96, .iconst 4, 1), (97, .if_icmp .ge 16, 3), (100, .aload_n 0, 1), (101, .getfield 44, 3), (104, .iload_n 1, 1), (105, .iconst 0, 1),
  (106, .iastore, 1), (107, .iinc 1 1, 3), (110, .goto (-15), 3), (113, .iconst 0, 1), (114, .istore_n 1, 1), (115, .iload_n 1, 1), (116, .bipush 8, 2), (118, .if_icmp .ge 16, 3),
  (121, .aload_n 0, 1), (122, .getfield 47, 3), (125, .iload_n 1, 1), (126, .iconst (-1), 1), (127, .iastore, 1), (128, .iinc 1 1, 3), (131, .goto (-16), 3), (134, .return_, 1)]
def cd_288 : List zSem := [sP (fAld 0), sP (fCon 0), sWr (wFI 793), sP (fAld 0), sP (fCon 0), sWr (wFI 794),
  sP (fAld 0), sP (fCon 0), sWr (wFI 795), sP (fAld 0), sP (fCon 0), sWr (wFI 796),
  sP (fAld 0), sP (fCon 0), sWr (wFI 797), sP (fAld 0), sP (fCon 0), sWr (wFI 798),
  sP (fAld 0), sP (fAld 0), sRR (gFR 768), sP (fAld 0), sRI (gFI 778), sP (fCon 3),
  sP (fII (fun x y => x + y)), sRI gAI, sWr (wFI 799), sP (fAld 0), sP (fCon (-1)), sWr (wFI 800),
  sP (fAld 0), sP (fCon 0), sWr (wFI 801), sP (fCon 0), sP (fIst 1), sP (fIld 1),
  sP (fAld 0), sRI (gFI 779), sBr (c2 (zcI .ge)) 55, sP (fAld 0), sRR (gFR 802), sP (fIld 1),
  sP (fAld 0), sP (fIld 1), sCI 230 2 (some 12) 2, sWr wAI, sP (fAld 0), sRR (gFR 803),
  sP (fIld 1), sP (fAld 0), sP (fIld 1), sCI 231 2 (some 12) 2, sWr wAI, sP (fInc 1 1),
  sGo 35, sP (fCon 0), sP (fIst 1), sP (fIld 1), sP (fCon 4), sBr (c2 (zcI .ge)) 67,
  sP (fAld 0), sRR (gFR 804), sP (fIld 1), sP (fCon 0), sWr wAI, sP (fInc 1 1),
  sGo 57, sP (fCon 0), sP (fIst 1), sP (fIld 1), sP (fCon 8), sBr (c2 (zcI .ge)) 79,
  sP (fAld 0), sRR (gFR 805), sP (fIld 1), sP (fCon (-1)), sWr wAI, sP (fInc 1 1),
  sGo 69, sRet rV]
set_option maxRecDepth 100000 in
theorem ck_288 : in_288.map (fun q => zsem zTb (zlk zPl_12) (ztg in_288 q.1) false q.2.1) = cd_288.map some := rfl
/-- Model_isWhole -/
def in_289 : List zIns := [(0, .aload_n 0, 1), (1, .iload_n 1, 1), (2, .invokevirtual 179, 3), (5, .ifCond .eq 18, 3), (8, .aload_n 0, 1), (9, .getfield 316, 3), (12, .iload_n 1, 1), (13, .ishr, 1),
  (14, .iconst 1, 1), (15, .iand, 1), (16, .ifCond .ne 7, 3), (19, .iconst 1, 1), (20, .goto 4, 3), (23, .iconst 0, 1), (24, .ireturn, 1)]
def cd_289 : List zSem := [sP (fAld 0), sP (fIld 1), sCI 227 2 (some 12) 2, sBr (c1 (zc0 .eq)) 13, sP (fAld 0), sRI (gFI 794),
  sP (fIld 1), sP (fII zshr), sP (fCon 1), sP (fII (fun x y => x &&& y)), sBr (c1 (zc0 .ne)) 13, sP (fCon 1),
  sGo 14, sP (fCon 0), sRz]
set_option maxRecDepth 100000 in
theorem ck_289 : in_289.map (fun q => zsem zTb (zlk zPl_12) (ztg in_289 q.1) true q.2.1) = cd_289.map some := rfl
/-- Model_mayPlay -/
def in_290 : List zIns := [(0, .aload_n 0, 1), (1, .iload_n 1, 1), (2, .invokevirtual 188, 3), (5, .ifCond .eq 17, 3), (8, .aload_n 0, 1), (9, .getfield 44, 3), (12, .iload_n 1, 1), (13, .iaload, 1),
  (14, .iconst 3, 1), (15, .if_icmp .ge 7, 3), (18, .iconst 1, 1), (19, .goto 4, 3), (22, .iconst 0, 1), (23, .ireturn, 1)]
def cd_290 : List zSem := [sP (fAld 0), sP (fIld 1), sCI 228 2 (some 12) 2, sBr (c1 (zc0 .eq)) 12, sP (fAld 0), sRR (gFR 804),
  sP (fIld 1), sRI gAI, sP (fCon 3), sBr (c2 (zcI .ge)) 12, sP (fCon 1), sGo 13,
  sP (fCon 0), sRz]
set_option maxRecDepth 100000 in
theorem ck_290 : in_290.map (fun q => zsem zTb (zlk zPl_12) (ztg in_290 q.1) true q.2.1) = cd_290.map some := rfl
/-- Model_plays -/
def in_291 : List zIns := [(0, .aload_n 0, 1), (1, .aload_n 0, 1), (2, .getfield 38, 3), (5, .iload_n 1, 1), (6, .iaload, 1), (7, .putfield 203, 3), (10, .aload_n 0, 1), (11, .aload_n 0, 1),
  (12, .getfield 41, 3), (15, .iload_n 1, 1), (16, .iaload, 1), (17, .putfield 206, 3), (20, .aload_n 0, 1), (21, .aload_n 0, 1), (22, .getfield 331, 3), (25, .putfield 209, 3),
  (28, .aload_n 0, 1), (29, .iload_n 2, 1), (30, .iload_n 3, 1), (31, .invokevirtual 212, 3), (34, .istore 4, 2), (36, .aload_n 0, 1), (37, .getfield 38, 3), (40, .iload_n 1, 1),
  (41, .dup2, 1), (42, .iaload, 1), (43, .aload_n 0, 1), (44, .getfield 38, 3), (47, .iload_n 1, 1), (48, .iaload, 1), (49, .ifCond .le 7, 3), (52, .iconst 1, 1),
  (53, .goto 4, 3), (56, .iconst 0, 1), (57, .isub, 1), (58, .iastore, 1), (59, .aload_n 0, 1), (60, .getfield 44, 3), (63, .iload_n 2, 1), (64, .dup2, 1),
  (65, .iaload, 1), (66, .iconst 1, 1), (67, .iadd, 1), (68, .iastore, 1), (69, .iload 4, 2), (71, .ireturn, 1)]
def cd_291 : List zSem := [sP (fAld 0), sP (fAld 0), sRR (gFR 802), sP (fIld 1), sRI gAI, sWr (wFI 782),
  sP (fAld 0), sP (fAld 0), sRR (gFR 803), sP (fIld 1), sRI gAI, sWr (wFI 783),
  sP (fAld 0), sP (fAld 0), sRI (gFI 799), sWr (wFI 784), sP (fAld 0), sP (fIld 2),
  sP (fIld 3), sCI 237 3 (some 12) 3, sP (fIst 4), sP (fAld 0), sRR (gFR 802), sP (fIld 1),
  sP fDup2, sRI gAI, sP (fAld 0), sRR (gFR 802), sP (fIld 1), sRI gAI,
  sBr (c1 (zc0 .le)) 33, sP (fCon 1), sGo 34, sP (fCon 0), sP (fII (fun x y => x - y)), sWr wAI,
  sP (fAld 0), sRR (gFR 804), sP (fIld 2), sP fDup2, sRI gAI, sP (fCon 1),
  sP (fII (fun x y => x + y)), sWr wAI, sP (fIld 4), sRet rI]
set_option maxRecDepth 100000 in
theorem ck_291 : in_291.map (fun q => zsem zTb (zlk zPl_12) (ztg in_291 q.1) false q.2.1) = cd_291.map some := rfl
/-- Model_asks -/
def in_292 : List zIns := [(0, .aload_n 0, 1), (1, .iload_n 1, 1), (2, .invokevirtual 340, 3), (5, .ifCond .eq 19, 3), (8, .aload_n 0, 1), (9, .iload_n 2, 1), (10, .invokevirtual 343, 3), (13, .ifCond .eq 11, 3),
  (16, .aload_n 0, 1), (17, .iload_n 3, 1), (18, .invokevirtual 194, 3), (21, .ifCond .ne 5, 3), (24, .iconst 0, 1), (25, .ireturn, 1), (26, .aload_n 0, 1), (27, .aload_n 0, 1),
  (28, .iload_n 1, 1), (29, .iload_n 2, 1), (30, .iload_n 3, 1), (31, .invokevirtual 346, 3), (34, .putfield 334, 3), (37, .aload_n 0, 1), (38, .aload_n 0, 1), (39, .getfield 334, 3),
  (42, .invokevirtual 215, 3), (45, .istore 4, 2), (47, .aload_n 0, 1), (48, .dup, 1), (49, .getfield 328, 3), (52, .aload_n 0, 1), (53, .getfield 334, 3), (56, .iconst (-1), 1),
  (57, .if_icmp .ne 7, 3), (60, .iconst 1, 1), (61, .goto 4, 3), (64, .iconst 0, 1), (65, .iadd, 1), (66, .putfield 328, 3), (69, .aload_n 0, 1), (70, .dup, 1),
  (71, .getfield 319, 3), (74, .aload_n 0, 1), (75, .getfield 334, 3), (78, .ifCond .ne 7, 3), (81, .iconst 1, 1), (82, .goto 4, 3), (85, .iconst 0, 1), (86, .iadd, 1),
  (87, .putfield 319, 3), (90, .iload 4, 2), (92, .iconst 0, 1), (93, .iconst 1, 1), (94, .invokestatic 114, 3), (97, .ifCond .ne 5, 3), (100, .iconst 1, 1), (101, .ireturn, 1),
  (102, .aload_n 0, 1), (103, .dup, 1), (104, .getfield 316, 3), (107, .aload_n 0, 1), (108, .getfield 47, 3), (111, .iload_n 3, 1), (112, .iaload, 1), (113, .iconst 1, 1),
  (114, .iload 4, 2), (116, .isub, 1), (117, .if_icmp .ne 9, 3), (120, .iconst 1, 1), (121, .iload_n 1, 1), (122, .ishl, 1), (123, .goto 4, 3), (126, .iconst 0, 1),
  (127, .ior, 1), (128, .putfield 316, 3), (131, .aload_n 0, 1), (132, .getfield 47, 3), (135, .iload_n 3, 1), (136, .iload 4, 2), (138, .iastore, 1), (139, .iconst 1, 1),
  (140, .ireturn, 1)]
def cd_292 : List zSem := [sP (fAld 0), sP (fIld 1), sCI 289 2 (some 12) 2, sBr (c1 (zc0 .eq)) 12, sP (fAld 0), sP (fIld 2),
  sCI 290 2 (some 12) 2, sBr (c1 (zc0 .eq)) 12, sP (fAld 0), sP (fIld 3), sCI 229 2 (some 12) 2, sBr (c1 (zc0 .ne)) 14,
  sP (fCon 0), sRz, sP (fAld 0), sP (fAld 0), sP (fIld 1), sP (fIld 2),
  sP (fIld 3), sCI 291 4 (some 12) 5, sWr (wFI 800), sP (fAld 0), sP (fAld 0), sRI (gFI 800),
  sCI 238 2 (some 12) 2, sP (fIst 4), sP (fAld 0), sP fDup, sRI (gFI 798), sP (fAld 0),
  sRI (gFI 800), sP (fCon (-1)), sBr (c2 (zcI .ne)) 35, sP (fCon 1), sGo 36, sP (fCon 0),
  sP (fII (fun x y => x + y)), sWr (wFI 798), sP (fAld 0), sP fDup, sRI (gFI 795), sP (fAld 0),
  sRI (gFI 800), sBr (c1 (zc0 .ne)) 46, sP (fCon 1), sGo 47, sP (fCon 0), sP (fII (fun x y => x + y)),
  sWr (wFI 795), sP (fIld 4), sP (fCon 0), sP (fCon 1), sCI 200 3 none 3, sBr (c1 (zc0 .ne)) 56,
  sP (fCon 1), sRz, sP (fAld 0), sP fDup, sRI (gFI 794), sP (fAld 0),
  sRR (gFR 805), sP (fIld 3), sRI gAI, sP (fCon 1), sP (fIld 4), sP (fII (fun x y => x - y)),
  sBr (c2 (zcI .ne)) 71, sP (fCon 1), sP (fIld 1), sP (fII zshl), sGo 72, sP (fCon 0),
  sP (fII (fun x y => x ||| y)), sWr (wFI 794), sP (fAld 0), sRR (gFR 805), sP (fIld 3), sP (fIld 4),
  sWr wAI, sP (fCon 1), sRz]
set_option maxRecDepth 100000 in
theorem ck_292 : in_292.map (fun q => zsem zTb (zlk zPl_12) (ztg in_292 q.1) true q.2.1) = cd_292.map some := rfl
/-- Model_duets -/
def in_293 : List zIns := [(0, .aload_n 0, 1), (1, .iload_n 1, 1), (2, .invokevirtual 340, 3), (5, .ifCond .eq 48, 3), (8, .aload_n 0, 1), (9, .iload_n 2, 1), (10, .invokevirtual 340, 3), (13, .ifCond .eq 40, 3),
  (16, .iload_n 1, 1), (17, .iload_n 2, 1), (18, .if_icmp .eq 35, 3), (21, .iload_n 3, 1), (22, .iload 4, 2), (24, .if_icmp .eq 29, 3), (27, .aload_n 0, 1), (28, .iload_n 3, 1),
  (29, .invokevirtual 343, 3), (32, .ifCond .eq 21, 3), (35, .aload_n 0, 1), (36, .iload 4, 2), (38, .invokevirtual 343, 3), (41, .ifCond .eq 12, 3), (44, .aload_n 0, 1), (45, .iload 5, 2),
  (47, .invokevirtual 194, 3), (50, .ifCond .ne 5, 3), (53, .iconst 0, 1), (54, .ireturn, 1), (55, .aload_n 0, 1), (56, .aload_n 0, 1), (57, .iload_n 1, 1), (58, .iload_n 3, 1),
  (59, .iload 5, 2), (61, .invokevirtual 346, 3), (64, .invokevirtual 215, 3), (67, .istore 6, 2), (69, .aload_n 0, 1), (70, .aload_n 0, 1), (71, .iload_n 2, 1), (72, .iload 4, 2),
  (74, .iload 5, 2), (76, .invokevirtual 346, 3), (79, .invokevirtual 215, 3), (82, .istore 7, 2), (84, .aload_n 0, 1), (85, .dup, 1), (86, .getfield 322, 3), (89, .iload 6, 2),
  (91, .iconst (-1), 1), (92, .if_icmp .eq 14, 3), (95, .iload 6, 2), (97, .iload 7, 2), (99, .if_icmp .ne 7, 3), (102, .iconst 1, 1), (103, .goto 4, 3), (106, .iconst 0, 1),
  (107, .iadd, 1), (108, .putfield 322, 3), (111, .aload_n 0, 1), (112, .dup, 1), (113, .getfield 325, 3), (116, .iload 6, 2), (118, .iconst 0, 1), (119, .iconst 1, 1),
  (120, .invokestatic 114, 3), (123, .ifCond .eq 16, 3), (126, .iload 7, 2), (128, .iconst 1, 1), (129, .iload 6, 2), (131, .isub, 1), (132, .if_icmp .ne 7, 3), (135, .iconst 1, 1),
  (136, .goto 4, 3), (139, .iconst 0, 1), (140, .iadd, 1), (141, .putfield 325, 3), (144, .iconst 1, 1), (145, .ireturn, 1)]
def cd_293 : List zSem := [sP (fAld 0), sP (fIld 1), sCI 289 2 (some 12) 2, sBr (c1 (zc0 .eq)) 26, sP (fAld 0), sP (fIld 2),
  sCI 289 2 (some 12) 2, sBr (c1 (zc0 .eq)) 26, sP (fIld 1), sP (fIld 2), sBr (c2 (zcI .eq)) 26, sP (fIld 3),
  sP (fIld 4), sBr (c2 (zcI .eq)) 26, sP (fAld 0), sP (fIld 3), sCI 290 2 (some 12) 2, sBr (c1 (zc0 .eq)) 26,
  sP (fAld 0), sP (fIld 4), sCI 290 2 (some 12) 2, sBr (c1 (zc0 .eq)) 26, sP (fAld 0), sP (fIld 5),
  sCI 229 2 (some 12) 2, sBr (c1 (zc0 .ne)) 28, sP (fCon 0), sRz, sP (fAld 0), sP (fAld 0),
  sP (fIld 1), sP (fIld 3), sP (fIld 5), sCI 291 4 (some 12) 5, sCI 238 2 (some 12) 2, sP (fIst 6),
  sP (fAld 0), sP (fAld 0), sP (fIld 2), sP (fIld 4), sP (fIld 5), sCI 291 4 (some 12) 5,
  sCI 238 2 (some 12) 2, sP (fIst 7), sP (fAld 0), sP fDup, sRI (gFI 796), sP (fIld 6),
  sP (fCon (-1)), sBr (c2 (zcI .eq)) 55, sP (fIld 6), sP (fIld 7), sBr (c2 (zcI .ne)) 55, sP (fCon 1),
  sGo 56, sP (fCon 0), sP (fII (fun x y => x + y)), sWr (wFI 796), sP (fAld 0), sP fDup,
  sRI (gFI 797), sP (fIld 6), sP (fCon 0), sP (fCon 1), sCI 200 3 none 3, sBr (c1 (zc0 .eq)) 73,
  sP (fIld 7), sP (fCon 1), sP (fIld 6), sP (fII (fun x y => x - y)), sBr (c2 (zcI .ne)) 73, sP (fCon 1),
  sGo 74, sP (fCon 0), sP (fII (fun x y => x + y)), sWr (wFI 797), sP (fCon 1), sRz]
set_option maxRecDepth 100000 in
theorem ck_293 : in_293.map (fun q => zsem zTb (zlk zPl_12) (ztg in_293 q.1) true q.2.1) = cd_293.map some := rfl
/-- Model_treats -/
def in_294 : List zIns := [(0, .aload_n 0, 1), (1, .iload_n 1, 1), (2, .invokevirtual 340, 3), (5, .ifCond .ne 5, 3), (8, .iconst 0, 1), (9, .ireturn, 1), (10, .iload_n 2, 1), (11, .ifCond .eq 23, 3),
  (14, .aload_n 0, 1), (15, .getfield 41, 3), (18, .iload_n 1, 1), (19, .aload_n 0, 1), (20, .getfield 41, 3), (23, .iload_n 1, 1), (24, .iaload, 1), (25, .iconst 1, 1),
  (26, .iadd, 1), (27, .bipush 8, 2), (29, .irem, 1), (30, .iastore, 1), (31, .goto 33, 3), (34, .aload_n 0, 1), (35, .getfield 38, 3), (38, .iload_n 1, 1),
  (39, .aload_n 0, 1), (40, .getfield 38, 3), (43, .iload_n 1, 1), (44, .iaload, 1), (45, .bipush 6, 2), (47, .if_icmp .le 8, 3), (50, .bipush 9, 2), (52, .goto 11, 3),
  (55, .aload_n 0, 1), (56, .getfield 38, 3), (59, .iload_n 1, 1), (60, .iaload, 1), (61, .iconst 3, 1), (62, .iadd, 1), (63, .iastore, 1), (64, .iconst 1, 1),
  (65, .ireturn, 1)]
def cd_294 : List zSem := [sP (fAld 0), sP (fIld 1), sCI 289 2 (some 12) 2, sBr (c1 (zc0 .ne)) 6, sP (fCon 0), sRz,
  sP (fIld 2), sBr (c1 (zc0 .eq)) 21, sP (fAld 0), sRR (gFR 803), sP (fIld 1), sP (fAld 0),
  sRR (gFR 803), sP (fIld 1), sRI gAI, sP (fCon 1), sP (fII (fun x y => x + y)), sP (fCon 8),
  sRI (gDiv zrem), sWr wAI, sGo 39, sP (fAld 0), sRR (gFR 802), sP (fIld 1),
  sP (fAld 0), sRR (gFR 802), sP (fIld 1), sRI gAI, sP (fCon 6), sBr (c2 (zcI .le)) 32,
  sP (fCon 9), sGo 38, sP (fAld 0), sRR (gFR 802), sP (fIld 1), sRI gAI,
  sP (fCon 3), sP (fII (fun x y => x + y)), sWr wAI, sP (fCon 1), sRz]
set_option maxRecDepth 100000 in
theorem ck_294 : in_294.map (fun q => zsem zTb (zlk zPl_12) (ztg in_294 q.1) true q.2.1) = cd_294.map some := rfl
/-- Model_sleeps -/
def in_295 : List zIns := [(0, .aload_n 0, 1), (1, .getfield 313, 3), (4, .bipush 99, 2), (6, .if_icmp .ne 5, 3), (9, .iconst 0, 1), (10, .ireturn, 1), (11, .aload_n 0, 1), (12, .dup, 1),
  (13, .getfield 313, 3), (16, .iconst 1, 1), (17, .iadd, 1), (18, .putfield 313, 3), (21, .iconst 0, 1), (22, .istore_n 1, 1), (23, .iload_n 1, 1), (24, .aload_n 0, 1),
  (25, .getfield 167, 3), (28, .if_icmp .ge 32, 3), (31, .aload_n 0, 1), (32, .getfield 38, 3), (35, .iload_n 1, 1), (36, .dup2, 1), (37, .iaload, 1), (38, .aload_n 0, 1),
  (39, .getfield 38, 3), (42, .iload_n 1, 1), (43, .iaload, 1), (44, .ifCond .le 7, 3), (47, .iconst 1, 1), (48, .goto 4, 3), (51, .iconst 0, 1), (52, .isub, 1),
  (53, .iastore, 1), (54, .iinc 1 1, 3), (57, .goto (-34), 3), (60, .iconst 0, 1), (61, .istore_n 1, 1), (62, .iload_n 1, 1), (63, .iconst 4, 1), (64, .if_icmp .ge 16, 3),
  (67, .aload_n 0, 1), (68, .getfield 44, 3), (71, .iload_n 1, 1), (72, .iconst 0, 1), (73, .iastore, 1), (74, .iinc 1 1, 3), (77, .goto (-15), 3), (80, .iconst 1, 1),
  (81, .ireturn, 1)]
def cd_295 : List zSem := [sP (fAld 0), sRI (gFI 793), sP (fCon 99), sBr (c2 (zcI .ne)) 6, sP (fCon 0), sRz,
  sP (fAld 0), sP fDup, sRI (gFI 793), sP (fCon 1), sP (fII (fun x y => x + y)), sWr (wFI 793),
  sP (fCon 0), sP (fIst 1), sP (fIld 1), sP (fAld 0), sRI (gFI 779), sBr (c2 (zcI .ge)) 35,
  sP (fAld 0), sRR (gFR 802), sP (fIld 1), sP fDup2, sRI gAI, sP (fAld 0),
  sRR (gFR 802), sP (fIld 1), sRI gAI, sBr (c1 (zc0 .le)) 30, sP (fCon 1), sGo 31,
  sP (fCon 0), sP (fII (fun x y => x - y)), sWr wAI, sP (fInc 1 1), sGo 14, sP (fCon 0),
  sP (fIst 1), sP (fIld 1), sP (fCon 4), sBr (c2 (zcI .ge)) 47, sP (fAld 0), sRR (gFR 804),
  sP (fIld 1), sP (fCon 0), sWr wAI, sP (fInc 1 1), sGo 37, sP (fCon 1),
  sRz]
set_option maxRecDepth 100000 in
theorem ck_295 : in_295.map (fun q => zsem zTb (zlk zPl_12) (ztg in_295 q.1) true q.2.1) = cd_295.map some := rfl
/-- Model_does -/
def in_296 : List zIns := [(0, .iload_n 1, 1), (1, .tableswitch 80 0 4 #[35, 44, 57, 57, 73], 35), (36, .aload_n 0, 1), (37, .iload_n 2, 1), (38, .iload_n 3, 1), (39, .iload 4, 2), (41, .invokevirtual 349, 3), (44, .ireturn, 1),
  (45, .aload_n 0, 1), (46, .iload_n 2, 1), (47, .iload_n 3, 1), (48, .iload 4, 2), (50, .iload 5, 2), (52, .iload 6, 2), (54, .invokevirtual 352, 3), (57, .ireturn, 1),
  (58, .aload_n 0, 1), (59, .iload_n 2, 1), (60, .iload_n 1, 1), (61, .iconst 3, 1), (62, .if_icmp .ne 7, 3), (65, .iconst 1, 1), (66, .goto 4, 3), (69, .iconst 0, 1),
  (70, .invokevirtual 356, 3), (73, .ireturn, 1), (74, .aload_n 0, 1), (75, .iload_n 2, 1), (76, .putfield 331, 3), (79, .iconst 1, 1), (80, .ireturn, 1), (81, .aload_n 0, 1),
  (82, .invokevirtual 360, 3), (85, .ireturn, 1)]
def cd_296 : List zSem := [sP (fIld 1), sSw [(0, 2), (1, 8), (2, 16), (3, 16), (4, 26)] 31, sP (fAld 0), sP (fIld 2), sP (fIld 3), sP (fIld 4),
  sCI 292 4 (some 12) 5, sRz, sP (fAld 0), sP (fIld 2), sP (fIld 3), sP (fIld 4),
  sP (fIld 5), sP (fIld 6), sCI 293 6 (some 12) 8, sRz, sP (fAld 0), sP (fIld 2),
  sP (fIld 1), sP (fCon 3), sBr (c2 (zcI .ne)) 23, sP (fCon 1), sGo 24, sP (fCon 0),
  sCI 294 3 (some 12) 3, sRz, sP (fAld 0), sP (fIld 2), sWr (wFI 799), sP (fCon 1),
  sRz, sP (fAld 0), sCI 295 1 (some 12) 2, sRz]
set_option maxRecDepth 100000 in
theorem ck_296 : in_296.map (fun q => zsem zTb (zlk zPl_12) (ztg in_296 q.1) true q.2.1) = cd_296.map some := rfl
/-- Model_doesTold -/
def in_297 : List zIns := [(0, .aload_n 0, 1), (1, .getfield 307, 3), (4, .iconst 1, 1), (5, .iadd, 1), (6, .bipush 6, 2), (8, .iload_n 1, 1), (9, .imul, 1), (10, .iadd, 1),
  (11, .istore_n 2, 1), (12, .aload_n 0, 1), (13, .aload_n 0, 1), (14, .getfield 7, 3), (17, .iload_n 2, 1), (18, .iaload, 1), (19, .aload_n 0, 1), (20, .getfield 7, 3),
  (23, .iload_n 2, 1), (24, .iconst 1, 1), (25, .iadd, 1), (26, .iaload, 1), (27, .aload_n 0, 1), (28, .getfield 7, 3), (31, .iload_n 2, 1), (32, .iconst 2, 1),
  (33, .iadd, 1), (34, .iaload, 1), (35, .aload_n 0, 1), (36, .getfield 7, 3), (39, .iload_n 2, 1), (40, .iconst 3, 1), (41, .iadd, 1), (42, .iaload, 1),
  (43, .aload_n 0, 1), (44, .getfield 7, 3), (47, .iload_n 2, 1), (48, .iconst 4, 1), (49, .iadd, 1), (50, .iaload, 1), (51, .aload_n 0, 1), (52, .getfield 7, 3),
  (55, .iload_n 2, 1), (56, .iconst 5, 1), (57, .iadd, 1), (58, .iaload, 1), (59, .invokevirtual 363, 3), (62, .ireturn, 1)]
def cd_297 : List zSem := [sP (fAld 0), sRI (gFI 792), sP (fCon 1), sP (fII (fun x y => x + y)), sP (fCon 6), sP (fIld 1),
  sP (fII (fun x y => x * y)), sP (fII (fun x y => x + y)), sP (fIst 2), sP (fAld 0), sP (fAld 0), sRR (gFR 768),
  sP (fIld 2), sRI gAI, sP (fAld 0), sRR (gFR 768), sP (fIld 2), sP (fCon 1),
  sP (fII (fun x y => x + y)), sRI gAI, sP (fAld 0), sRR (gFR 768), sP (fIld 2), sP (fCon 2),
  sP (fII (fun x y => x + y)), sRI gAI, sP (fAld 0), sRR (gFR 768), sP (fIld 2), sP (fCon 3),
  sP (fII (fun x y => x + y)), sRI gAI, sP (fAld 0), sRR (gFR 768), sP (fIld 2), sP (fCon 4),
  sP (fII (fun x y => x + y)), sRI gAI, sP (fAld 0), sRR (gFR 768), sP (fIld 2), sP (fCon 5),
  sP (fII (fun x y => x + y)), sRI gAI, sCI 296 7 (some 12) 7, sRz]
set_option maxRecDepth 100000 in
theorem ck_297 : in_297.map (fun q => zsem zTb (zlk zPl_12) (ztg in_297 q.1) true q.2.1) = cd_297.map some := rfl
/-- Model_runs -/
def in_298 : List zIns := [(0, .aload_n 0, 1), (1, .invokevirtual 367, 3), (4, .aload_n 0, 1), (5, .getfield 337, 3), (8, .iload_n 1, 1), (9, .if_icmp .ge 43, 3), (12, .aload_n 0, 1), (13, .getfield 337, 3),
  (16, .aload_n 0, 1), (17, .getfield 7, 3), (20, .aload_n 0, 1), (21, .getfield 307, 3), (24, .iaload, 1), (25, .if_icmp .ge 27, 3), (28, .aload_n 0, 1), (29, .aload_n 0, 1),
  (30, .getfield 337, 3), (33, .invokevirtual 370, 3), (36, .ifCond .eq 16, 3), (39, .aload_n 0, 1), (40, .dup, 1), (41, .getfield 337, 3), (44, .iconst 1, 1), (45, .iadd, 1),
  (46, .putfield 337, 3), (49, .goto (-45), 3), (52, .return_, 1)]
def cd_298 : List zSem := [sP (fAld 0), sCV 288 1 (some 12) 2, sP (fAld 0), sRI (gFI 801), sP (fIld 1), sBr (c2 (zcI .ge)) 26,
  sP (fAld 0), sRI (gFI 801), sP (fAld 0), sRR (gFR 768), sP (fAld 0), sRI (gFI 792),
  sRI gAI, sBr (c2 (zcI .ge)) 26, sP (fAld 0), sP (fAld 0), sRI (gFI 801), sCI 297 2 (some 12) 3,
  sBr (c1 (zc0 .eq)) 26, sP (fAld 0), sP fDup, sRI (gFI 801), sP (fCon 1), sP (fII (fun x y => x + y)),
  sWr (wFI 801), sGo 2, sRet rV]
set_option maxRecDepth 100000 in
theorem ck_298 : in_298.map (fun q => zsem zTb (zlk zPl_12) (ztg in_298 q.1) false q.2.1) = cd_298.map some := rfl
/-- Model_stop -/
def in_299 : List zIns := [(0, .aload_n 0, 1), (1, .iload_n 1, 1), (2, .invokevirtual 176, 3), (5, .ifCond .eq 11, 3), (8, .aload_n 0, 1), (9, .iload_n 2, 1), (10, .invokevirtual 310, 3), (13, .ifCond .ne 5, 3),
  (16, .iconst (-1), 1), (17, .ireturn, 1), (18, .aload_n 0, 1), (19, .bipush 40, 2), (21, .invokevirtual 373, 3), (24, .aload_n 0, 1), (25, .getfield 337, 3), (28, .ireturn, 1)]
def cd_299 : List zSem := [sP (fAld 0), sP (fIld 1), sCI 226 2 (some 12) 2, sBr (c1 (zc0 .eq)) 8, sP (fAld 0), sP (fIld 2),
  sCI 286 2 (some 12) 2, sBr (c1 (zc0 .ne)) 10, sP (fCon (-1)), sRet rI, sP (fAld 0), sP (fCon 40),
  sCV 298 2 (some 12) 2, sP (fAld 0), sRI (gFI 801), sRet rI]
set_option maxRecDepth 100000 in
theorem ck_299 : in_299.map (fun q => zsem zTb (zlk zPl_12) (ztg in_299 q.1) false q.2.1) = cd_299.map some := rfl
/-- Model_mostOf -/
def in_300 : List zIns := [(0, .iconst 0, 1), (1, .istore_n 2, 1), (2, .iconst 1, 1), (3, .istore_n 3, 1), (4, .iload_n 3, 1), (5, .iload_n 1, 1), (6, .if_icmp .ge 24, 3), (9, .aload_n 0, 1),
  (10, .iload_n 3, 1), (11, .iaload, 1), (12, .aload_n 0, 1), (13, .iload_n 2, 1), (14, .iaload, 1), (15, .if_icmp .le 7, 3), (18, .iload_n 3, 1), (19, .goto 4, 3),
  (22, .iload_n 2, 1), (23, .istore_n 2, 1), (24, .iinc 3 1, 3), (27, .goto (-23), 3), (30, .iload_n 1, 1), (31, .ifCond .eq 9, 3), (34, .aload_n 0, 1), (35, .iload_n 2, 1),
  (36, .iaload, 1), (37, .ifCond .ne 7, 3), (40, .iconst (-1), 1), (41, .goto 4, 3), (44, .iload_n 2, 1), (45, .ireturn, 1)]
def cd_300 : List zSem := [sP (fCon 0), sP (fIst 2), sP (fCon 1), sP (fIst 3), sP (fIld 3), sP (fIld 1),
  sBr (c2 (zcI .ge)) 20, sP (fAld 0), sP (fIld 3), sRI gAI, sP (fAld 0), sP (fIld 2),
  sRI gAI, sBr (c2 (zcI .le)) 16, sP (fIld 3), sGo 17, sP (fIld 2), sP (fIst 2),
  sP (fInc 3 1), sGo 4, sP (fIld 1), sBr (c1 (zc0 .eq)) 26, sP (fAld 0), sP (fIld 2),
  sRI gAI, sBr (c1 (zc0 .ne)) 28, sP (fCon (-1)), sGo 29, sP (fIld 2), sRet rI]
set_option maxRecDepth 100000 in
theorem ck_300 : in_300.map (fun q => zsem zTb (zlk zPl_12) (ztg in_300 q.1) false q.2.1) = cd_300.map some := rfl
/-- Model_after -/
def in_301 : List zIns := [(0, .aload_n 0, 1), (1, .iload_n 1, 1), (2, .invokevirtual 176, 3), (5, .ifCond .eq 20, 3), (8, .aload_n 0, 1), (9, .iload_n 2, 1), (10, .invokevirtual 310, 3), (13, .ifCond .eq 12, 3),
  (16, .iload_n 3, 1), (17, .iconst 0, 1), (18, .iconst 3, 1), (19, .invokestatic 114, 3), (22, .ifCond .ne 6, 3), (25, .bipush (-2), 2), (27, .ireturn, 1), (28, .aload_n 0, 1),
  (29, .invokevirtual 367, 3), (32, .iconst 0, 1), (33, .istore 4, 2), (35, .iload 4, 2), (37, .bipush 8, 2), (39, .if_icmp .ge 25, 3), (42, .aload_n 0, 1), (43, .getfield 50, 3),
  (46, .iload 4, 2), (48, .iconst 0, 1), (49, .iastore, 1), (50, .aload_n 0, 1), (51, .getfield 53, 3), (54, .iload 4, 2), (56, .iconst 0, 1), (57, .iastore, 1),
  (58, .iinc 4 1, 3), (61, .goto (-26), 3), (64, .iconst (-1), 1), (65, .istore 4, 2), (67, .iconst 0, 1), (68, .istore 5, 2), (70, .iload 5, 2), (72, .aload_n 0, 1),
  (73, .getfield 7, 3), (76, .aload_n 0, 1), (77, .getfield 307, 3), (80, .iaload, 1), (81, .if_icmp .ge 163, 3), (84, .aload_n 0, 1), (85, .iload 5, 2), (87, .invokevirtual 370, 3),
  (90, .ifCond .eq 154, 3), (93, .aload_n 0, 1), (94, .getfield 307, 3), (97, .iconst 1, 1), (98, .iadd, 1), (99, .bipush 6, 2), (101, .iload 5, 2), (103, .imul, 1),
  (104, .iadd, 1), (105, .istore 6, 2), (107, .aload_n 0, 1), (108, .getfield 7, 3), (111, .iload 6, 2), (113, .iaload, 1), (114, .ifCond .ne 42, 3), (117, .aload_n 0, 1),
  (118, .getfield 50, 3), (121, .aload_n 0, 1), (122, .getfield 7, 3), (125, .iload 6, 2), (127, .iconst 3, 1), (128, .iadd, 1), (129, .iaload, 1), (130, .dup2, 1),
  (131, .iaload, 1), (132, .iconst 1, 1), (133, .iadd, 1), (134, .iastore, 1), (135, .aload_n 0, 1), (136, .getfield 53, 3), (139, .aload_n 0, 1), (140, .getfield 7, 3),
  (143, .iload 6, 2), (145, .iconst 2, 1), (146, .iadd, 1), (147, .iaload, 1), (148, .dup2, 1), (149, .iaload, 1), (150, .iconst 1, 1), (151, .iadd, 1),
  (152, .iastore, 1), (153, .goto 68, 3), (156, .aload_n 0, 1), (157, .getfield 7, 3), (160, .iload 6, 2), (162, .iaload, 1), (163, .iconst 1, 1), (164, .if_icmp .ne 57, 3),
  (167, .aload_n 0, 1), (168, .getfield 50, 3), (171, .aload_n 0, 1), (172, .getfield 7, 3), (175, .iload 6, 2), (177, .iconst 5, 1), (178, .iadd, 1), (179, .iaload, 1),
  (180, .dup2, 1), (181, .iaload, 1), (182, .iconst 1, 1), (183, .iadd, 1), (184, .iastore, 1), (185, .aload_n 0, 1), (186, .getfield 53, 3), (189, .aload_n 0, 1),
  (190, .getfield 7, 3), (193, .iload 6, 2), (195, .iconst 3, 1), (196, .iadd, 1), (197, .iaload, 1), (198, .dup2, 1), (199, .iaload, 1), (200, .iconst 1, 1),
  (201, .iadd, 1), (202, .iastore, 1), (203, .aload_n 0, 1), (204, .getfield 53, 3), (207, .aload_n 0, 1), (208, .getfield 7, 3), (211, .iload 6, 2), (213, .iconst 4, 1),
  (214, .iadd, 1), (215, .iaload, 1), (216, .dup2, 1), (217, .iaload, 1), (218, .iconst 1, 1), (219, .iadd, 1), (220, .iastore, 1), (221, .iload 4, 2),
  (223, .iconst (-1), 1), (224, .if_icmp .ne 14, 3), (227, .aload_n 0, 1), (228, .getfield 316, 3), (231, .ifCond .eq 7, 3), (234, .iload 5, 2), (236, .istore 4, 2), (238, .iinc 5 1, 3),
  (241, .goto (-171), 3), (244, .aload_n 0, 1), (245, .getfield 167, 3), (248, .ifCond .ne 7, 3), (251, .iconst (-1), 1), (252, .goto 4, 3), (255, .iconst 0, 1), (256, .istore 5, 2),
  (258, .iconst 1, 1), (259, .istore 6, 2), (261, .iload 6, 2), (263, .aload_n 0, 1), (264, .getfield 167, 3), (267, .if_icmp .ge 35, 3), (270, .aload_n 0, 1), (271, .getfield 38, 3),
  (274, .iload 6, 2), (276, .iaload, 1), (277, .aload_n 0, 1), (278, .getfield 38, 3), (281, .iload 5, 2), (283, .iaload, 1), (284, .if_icmp .ge 8, 3), (287, .iload 6, 2),
  (289, .goto 5, 3), (292, .iload 5, 2), (294, .istore 5, 2), (296, .iinc 6 1, 3), (299, .goto (-38), 3), (302, .iload_n 3, 1), (303, .ifCond .ne 8, 3), (306, .iload 4, 2),
  (308, .goto 43, 3), (311, .iload_n 3, 1), (312, .iconst 1, 1), (313, .if_icmp .ne 17, 3), (316, .aload_n 0, 1), (317, .getfield 50, 3), (320, .aload_n 0, 1), (321, .getfield 173, 3),
  (324, .invokestatic 376, 3), (327, .goto 24, 3), (330, .iload_n 3, 1), (331, .iconst 2, 1), (332, .if_icmp .ne 17, 3), (335, .aload_n 0, 1), (336, .getfield 53, 3), (339, .aload_n 0, 1),
  (340, .getfield 170, 3), (343, .invokestatic 376, 3), (346, .goto 5, 3), (349, .iload 5, 2), (351, .ireturn, 1)]
def cd_301 : List zSem := [sP (fAld 0), sP (fIld 1), sCI 226 2 (some 12) 2, sBr (c1 (zc0 .eq)) 13, sP (fAld 0), sP (fIld 2),
  sCI 286 2 (some 12) 2, sBr (c1 (zc0 .eq)) 13, sP (fIld 3), sP (fCon 0), sP (fCon 3), sCI 200 3 none 3,
  sBr (c1 (zc0 .ne)) 15, sP (fCon (-2)), sRet rI, sP (fAld 0), sCV 288 1 (some 12) 2, sP (fCon 0),
  sP (fIst 4), sP (fIld 4), sP (fCon 8), sBr (c2 (zcI .ge)) 34, sP (fAld 0), sRR (gFR 806),
  sP (fIld 4), sP (fCon 0), sWr wAI, sP (fAld 0), sRR (gFR 807), sP (fIld 4),
  sP (fCon 0), sWr wAI, sP (fInc 4 1), sGo 19, sP (fCon (-1)), sP (fIst 4),
  sP (fCon 0), sP (fIst 5), sP (fIld 5), sP (fAld 0), sRR (gFR 768), sP (fAld 0),
  sRI (gFI 792), sRI gAI, sBr (c2 (zcI .ge)) 145, sP (fAld 0), sP (fIld 5), sCI 297 2 (some 12) 3,
  sBr (c1 (zc0 .eq)) 145, sP (fAld 0), sRI (gFI 792), sP (fCon 1), sP (fII (fun x y => x + y)), sP (fCon 6),
  sP (fIld 5), sP (fII (fun x y => x * y)), sP (fII (fun x y => x + y)), sP (fIst 6), sP (fAld 0), sRR (gFR 768),
  sP (fIld 6), sRI gAI, sBr (c1 (zc0 .ne)) 90, sP (fAld 0), sRR (gFR 806), sP (fAld 0),
  sRR (gFR 768), sP (fIld 6), sP (fCon 3), sP (fII (fun x y => x + y)), sRI gAI, sP fDup2,
  sRI gAI, sP (fCon 1), sP (fII (fun x y => x + y)), sWr wAI, sP (fAld 0), sRR (gFR 807),
  sP (fAld 0), sRR (gFR 768), sP (fIld 6), sP (fCon 2), sP (fII (fun x y => x + y)), sRI gAI,
  sP fDup2, sRI gAI, sP (fCon 1), sP (fII (fun x y => x + y)), sWr wAI, sGo 135,
  sP (fAld 0), sRR (gFR 768), sP (fIld 6), sRI gAI, sP (fCon 1), sBr (c2 (zcI .ne)) 135,
  sP (fAld 0), sRR (gFR 806), sP (fAld 0), sRR (gFR 768), sP (fIld 6), sP (fCon 5),
  sP (fII (fun x y => x + y)), sRI gAI, sP fDup2, sRI gAI, sP (fCon 1), sP (fII (fun x y => x + y)),
  sWr wAI, sP (fAld 0), sRR (gFR 807), sP (fAld 0), sRR (gFR 768), sP (fIld 6),
  sP (fCon 3), sP (fII (fun x y => x + y)), sRI gAI, sP fDup2, sRI gAI, sP (fCon 1),
  sP (fII (fun x y => x + y)), sWr wAI, sP (fAld 0), sRR (gFR 807), sP (fAld 0), sRR (gFR 768),
  sP (fIld 6), sP (fCon 4), sP (fII (fun x y => x + y)), sRI gAI, sP fDup2, sRI gAI,
  sP (fCon 1), sP (fII (fun x y => x + y)), sWr wAI, sP (fIld 4), sP (fCon (-1)), sBr (c2 (zcI .ne)) 143,
  sP (fAld 0), sRI (gFI 794), sBr (c1 (zc0 .eq)) 143, sP (fIld 5), sP (fIst 4), sP (fInc 5 1),
  sGo 38, sP (fAld 0), sRI (gFI 779), sBr (c1 (zc0 .ne)) 150, sP (fCon (-1)), sGo 151,
  sP (fCon 0), sP (fIst 5), sP (fCon 1), sP (fIst 6), sP (fIld 6), sP (fAld 0),
  sRI (gFI 779), sBr (c2 (zcI .ge)) 173, sP (fAld 0), sRR (gFR 802), sP (fIld 6), sRI gAI,
  sP (fAld 0), sRR (gFR 802), sP (fIld 5), sRI gAI, sBr (c2 (zcI .ge)) 169, sP (fIld 6),
  sGo 170, sP (fIld 5), sP (fIst 5), sP (fInc 6 1), sGo 154, sP (fIld 3),
  sBr (c1 (zc0 .ne)) 177, sP (fIld 4), sGo 196, sP (fIld 3), sP (fCon 1), sBr (c2 (zcI .ne)) 186,
  sP (fAld 0), sRR (gFR 806), sP (fAld 0), sRI (gFI 781), sCI 300 2 none 4, sGo 196,
  sP (fIld 3), sP (fCon 2), sBr (c2 (zcI .ne)) 195, sP (fAld 0), sRR (gFR 807), sP (fAld 0),
  sRI (gFI 780), sCI 300 2 none 4, sGo 196, sP (fIld 5), sRet rI]
set_option maxRecDepth 100000 in
theorem ck_301 : in_301.map (fun q => zsem zTb (zlk zPl_12) (ztg in_301 q.1) false q.2.1) = cd_301.map some := rfl
/-- Model_nowOf -/
def in_302 : List zIns := [(0, .iload_n 1, 1), (1, .bipush 10, 2), (3, .irem, 1), (4, .istore_n 2, 1), (5, .iload_n 1, 1), (6, .tableswitch 86 0 7 #[46, 51, 56, 61, 66, 71, 76, 81], 46), (52, .aload_n 0, 1), (53, .getfield 313, 3),
  (56, .ireturn, 1), (57, .aload_n 0, 1), (58, .getfield 316, 3), (61, .ireturn, 1), (62, .aload_n 0, 1), (63, .getfield 319, 3), (66, .ireturn, 1), (67, .aload_n 0, 1),
  (68, .getfield 322, 3), (71, .ireturn, 1), (72, .aload_n 0, 1), (73, .getfield 325, 3), (76, .ireturn, 1), (77, .aload_n 0, 1), (78, .getfield 328, 3), (81, .ireturn, 1),
  (82, .aload_n 0, 1), (83, .getfield 331, 3), (86, .ireturn, 1), (87, .aload_n 0, 1), (88, .getfield 334, 3), (91, .ireturn, 1), (92, .iload_n 1, 1), (93, .bipush 10, 2),
  (95, .idiv, 1), (96, .tableswitch 112 1 4 #[32, 52, 72, 92], 32), (128, .aload_n 0, 1), (129, .iload_n 2, 1), (130, .invokevirtual 179, 3), (133, .ifCond .eq 12, 3), (136, .aload_n 0, 1), (137, .getfield 38, 3),
  (140, .iload_n 2, 1), (141, .iaload, 1), (142, .goto 5, 3), (145, .bipush (-2), 2), (147, .ireturn, 1), (148, .aload_n 0, 1), (149, .iload_n 2, 1), (150, .invokevirtual 179, 3),
  (153, .ifCond .eq 12, 3), (156, .aload_n 0, 1), (157, .getfield 41, 3), (160, .iload_n 2, 1), (161, .iaload, 1), (162, .goto 5, 3), (165, .bipush (-2), 2), (167, .ireturn, 1),
  (168, .aload_n 0, 1), (169, .iload_n 2, 1), (170, .invokevirtual 188, 3), (173, .ifCond .eq 12, 3), (176, .aload_n 0, 1), (177, .getfield 44, 3), (180, .iload_n 2, 1), (181, .iaload, 1),
  (182, .goto 5, 3), (185, .bipush (-2), 2), (187, .ireturn, 1), (188, .aload_n 0, 1), (189, .iload_n 2, 1), (190, .invokevirtual 194, 3), (193, .ifCond .eq 12, 3), (196, .aload_n 0, 1),
  (197, .getfield 47, 3), (200, .iload_n 2, 1), (201, .iaload, 1), (202, .goto 5, 3), (205, .bipush (-2), 2), (207, .ireturn, 1), (208, .bipush (-2), 2), (210, .ireturn, 1)]
def cd_302 : List zSem := [sP (fIld 1), sP (fCon 10), sRI (gDiv zrem), sP (fIst 2), sP (fIld 1), sSw [(0, 6), (1, 9), (2, 12), (3, 15), (4, 18), (5, 21), (6, 24), (7, 27)] 30,
  sP (fAld 0), sRI (gFI 793), sRet rI, sP (fAld 0), sRI (gFI 794), sRet rI,
  sP (fAld 0), sRI (gFI 795), sRet rI, sP (fAld 0), sRI (gFI 796), sRet rI,
  sP (fAld 0), sRI (gFI 797), sRet rI, sP (fAld 0), sRI (gFI 798), sRet rI,
  sP (fAld 0), sRI (gFI 799), sRet rI, sP (fAld 0), sRI (gFI 800), sRet rI,
  sP (fIld 1), sP (fCon 10), sRI (gDiv (fun x y => x / y)), sSw [(1, 34), (2, 45), (3, 56), (4, 67)] 78, sP (fAld 0), sP (fIld 2),
  sCI 227 2 (some 12) 2, sBr (c1 (zc0 .eq)) 43, sP (fAld 0), sRR (gFR 802), sP (fIld 2), sRI gAI,
  sGo 44, sP (fCon (-2)), sRet rI, sP (fAld 0), sP (fIld 2), sCI 227 2 (some 12) 2,
  sBr (c1 (zc0 .eq)) 54, sP (fAld 0), sRR (gFR 803), sP (fIld 2), sRI gAI, sGo 55,
  sP (fCon (-2)), sRet rI, sP (fAld 0), sP (fIld 2), sCI 228 2 (some 12) 2, sBr (c1 (zc0 .eq)) 65,
  sP (fAld 0), sRR (gFR 804), sP (fIld 2), sRI gAI, sGo 66, sP (fCon (-2)),
  sRet rI, sP (fAld 0), sP (fIld 2), sCI 229 2 (some 12) 2, sBr (c1 (zc0 .eq)) 76, sP (fAld 0),
  sRR (gFR 805), sP (fIld 2), sRI gAI, sGo 77, sP (fCon (-2)), sRet rI,
  sP (fCon (-2)), sRet rI]
set_option maxRecDepth 100000 in
theorem ck_302 : in_302.map (fun q => zsem zTb (zlk zPl_12) (ztg in_302 q.1) false q.2.1) = cd_302.map some := rfl
/-- Model_state -/
def in_303 : List zIns := [(0, .aload_n 0, 1), (1, .iload_n 1, 1), (2, .invokevirtual 176, 3), (5, .ifCond .eq 20, 3), (8, .aload_n 0, 1), (9, .iload_n 2, 1), (10, .invokevirtual 310, 3), (13, .ifCond .eq 12, 3),
  (16, .iload_n 3, 1), (17, .ifCond .lt 8, 3), (20, .iload 4, 2), (22, .ifCond .ge 6, 3), (25, .bipush (-2), 2), (27, .ireturn, 1), (28, .aload_n 0, 1), (29, .iload_n 3, 1),
  (30, .invokevirtual 373, 3), (33, .aload_n 0, 1), (34, .getfield 337, 3), (37, .iload_n 3, 1), (38, .if_icmp .ne 12, 3), (41, .aload_n 0, 1), (42, .iload 4, 2), (44, .invokevirtual 380, 3),
  (47, .goto 5, 3), (50, .bipush (-2), 2), (52, .ireturn, 1)]
def cd_303 : List zSem := [sP (fAld 0), sP (fIld 1), sCI 226 2 (some 12) 2, sBr (c1 (zc0 .eq)) 12, sP (fAld 0), sP (fIld 2),
  sCI 286 2 (some 12) 2, sBr (c1 (zc0 .eq)) 12, sP (fIld 3), sBr (c1 (zc0 .lt)) 12, sP (fIld 4), sBr (c1 (zc0 .ge)) 14,
  sP (fCon (-2)), sRet rI, sP (fAld 0), sP (fIld 3), sCV 298 2 (some 12) 2, sP (fAld 0),
  sRI (gFI 801), sP (fIld 3), sBr (c2 (zcI .ne)) 25, sP (fAld 0), sP (fIld 4), sCI 302 2 (some 12) 3,
  sGo 26, sP (fCon (-2)), sRet rI]
set_option maxRecDepth 100000 in
theorem ck_303 : in_303.map (fun q => zsem zTb (zlk zPl_12) (ztg in_303 q.1) false q.2.1) = cd_303.map some := rfl
/-- Model_isLog -/
def in_304 : List zIns := [(0, .aload_n 0, 1), (1, .iconst 2, 1), (2, .iload_n 1, 1), (3, .invokevirtual 145, 3), (6, .ifCond .ne 5, 3), (9, .iconst 0, 1), (10, .ireturn, 1), (11, .aload_n 0, 1),
  (12, .iconst 2, 1), (13, .iload_n 1, 1), (14, .invokestatic 161, 3), (17, .putfield 383, 3), (20, .iconst 1, 1), (21, .ireturn, 1)]
def cd_304 : List zSem := [sP (fAld 0), sP (fCon 2), sP (fIld 1), sCI 223 3 (some 12) 3, sBr (c1 (zc0 .ne)) 7, sP (fCon 0),
  sRz, sP (fAld 0), sP (fCon 2), sP (fIld 1), sCI 221 2 none 2, sWr (wFI 808),
  sP (fCon 1), sRz]
set_option maxRecDepth 100000 in
theorem ck_304 : in_304.map (fun q => zsem zTb (zlk zPl_12) (ztg in_304 q.1) true q.2.1) = cd_304.map some := rfl
/-- Model_fact -/
def in_305 : List zIns := [(0, .aload_n 0, 1), (1, .iload_n 1, 1), (2, .invokevirtual 386, 3), (5, .ifCond .ne 6, 3), (8, .bipush (-2), 2), (10, .ireturn, 1), (11, .iload_n 2, 1), (12, .iconst (-1), 1),
  (13, .if_icmp .ne 22, 3), (16, .iload_n 3, 1), (17, .ifCond .ne 15, 3), (20, .aload_n 0, 1), (21, .getfield 7, 3), (24, .aload_n 0, 1), (25, .getfield 383, 3), (28, .iaload, 1),
  (29, .goto 5, 3), (32, .bipush (-2), 2), (34, .ireturn, 1), (35, .iload_n 2, 1), (36, .iconst 0, 1), (37, .aload_n 0, 1), (38, .getfield 7, 3), (41, .aload_n 0, 1),
  (42, .getfield 383, 3), (45, .iaload, 1), (46, .iconst 1, 1), (47, .isub, 1), (48, .invokestatic 114, 3), (51, .ifCond .eq 32, 3), (54, .iload_n 3, 1), (55, .iconst 0, 1),
  (56, .iconst 2, 1), (57, .invokestatic 114, 3), (60, .ifCond .eq 23, 3), (63, .aload_n 0, 1), (64, .getfield 7, 3), (67, .aload_n 0, 1), (68, .getfield 383, 3), (71, .iconst 1, 1),
  (72, .iadd, 1), (73, .iconst 3, 1), (74, .iload_n 2, 1), (75, .imul, 1), (76, .iadd, 1), (77, .iload_n 3, 1), (78, .iadd, 1), (79, .iaload, 1),
  (80, .goto 5, 3), (83, .bipush (-2), 2), (85, .ireturn, 1)]
def cd_305 : List zSem := [sP (fAld 0), sP (fIld 1), sCI 304 2 (some 12) 2, sBr (c1 (zc0 .ne)) 6, sP (fCon (-2)), sRet rI,
  sP (fIld 2), sP (fCon (-1)), sBr (c2 (zcI .ne)) 19, sP (fIld 3), sBr (c1 (zc0 .ne)) 17, sP (fAld 0),
  sRR (gFR 768), sP (fAld 0), sRI (gFI 808), sRI gAI, sGo 18, sP (fCon (-2)),
  sRet rI, sP (fIld 2), sP (fCon 0), sP (fAld 0), sRR (gFR 768), sP (fAld 0),
  sRI (gFI 808), sRI gAI, sP (fCon 1), sP (fII (fun x y => x - y)), sCI 200 3 none 3, sBr (c1 (zc0 .eq)) 49,
  sP (fIld 3), sP (fCon 0), sP (fCon 2), sCI 200 3 none 3, sBr (c1 (zc0 .eq)) 49, sP (fAld 0),
  sRR (gFR 768), sP (fAld 0), sRI (gFI 808), sP (fCon 1), sP (fII (fun x y => x + y)), sP (fCon 3),
  sP (fIld 2), sP (fII (fun x y => x * y)), sP (fII (fun x y => x + y)), sP (fIld 3), sP (fII (fun x y => x + y)), sRI gAI,
  sGo 50, sP (fCon (-2)), sRet rI]
set_option maxRecDepth 100000 in
theorem ck_305 : in_305.map (fun q => zsem zTb (zlk zPl_12) (ztg in_305 q.1) false q.2.1) = cd_305.map some := rfl
/-- Model_noteBy -/
def in_306 : List zIns := [(0, .aload_n 0, 1), (1, .iload_n 1, 1), (2, .bipush 8, 2), (4, .idiv, 1), (5, .iload_n 2, 1), (6, .if_icmp .le 12, 3), (9, .iload_n 1, 1), (10, .bipush 8, 2),
  (12, .idiv, 1), (13, .iload_n 2, 1), (14, .isub, 1), (15, .goto 4, 3), (18, .iconst 0, 1), (19, .putfield 203, 3), (22, .aload_n 0, 1), (23, .iload_n 1, 1),
  (24, .bipush 8, 2), (26, .irem, 1), (27, .putfield 206, 3), (30, .aload_n 0, 1), (31, .aload_n 0, 1), (32, .getfield 7, 3), (35, .aload_n 0, 1), (36, .getfield 164, 3),
  (39, .iconst 3, 1), (40, .iadd, 1), (41, .iaload, 1), (42, .putfield 209, 3), (45, .aload_n 0, 1), (46, .iload_n 3, 1), (47, .iload 4, 2), (49, .invokevirtual 212, 3),
  (52, .ireturn, 1)]
def cd_306 : List zSem := [sP (fAld 0), sP (fIld 1), sP (fCon 8), sRI (gDiv (fun x y => x / y)), sP (fIld 2), sBr (c2 (zcI .le)) 12,
  sP (fIld 1), sP (fCon 8), sRI (gDiv (fun x y => x / y)), sP (fIld 2), sP (fII (fun x y => x - y)), sGo 13,
  sP (fCon 0), sWr (wFI 782), sP (fAld 0), sP (fIld 1), sP (fCon 8), sRI (gDiv zrem),
  sWr (wFI 783), sP (fAld 0), sP (fAld 0), sRR (gFR 768), sP (fAld 0), sRI (gFI 778),
  sP (fCon 3), sP (fII (fun x y => x + y)), sRI gAI, sWr (wFI 784), sP (fAld 0), sP (fIld 3),
  sP (fIld 4), sCI 237 3 (some 12) 3, sRet rI]
set_option maxRecDepth 100000 in
theorem ck_306 : in_306.map (fun q => zsem zTb (zlk zPl_12) (ztg in_306 q.1) false q.2.1) = cd_306.map some := rfl
/-- Model_isSo -/
def in_307 : List zIns := [(0, .iconst 1, 1), (1, .istore_n 2, 1), (2, .iconst 0, 1), (3, .istore_n 3, 1), (4, .iload_n 3, 1), (5, .aload_n 0, 1), (6, .getfield 7, 3), (9, .aload_n 0, 1),
  (10, .getfield 383, 3), (13, .iaload, 1), (14, .if_icmp .ge 65, 3), (17, .aload_n 0, 1), (18, .getfield 383, 3), (21, .iconst 1, 1), (22, .iadd, 1), (23, .iconst 3, 1),
  (24, .iload_n 3, 1), (25, .imul, 1), (26, .iadd, 1), (27, .istore 4, 2), (29, .iload_n 2, 1), (30, .ifCond .eq 41, 3), (33, .aload_n 0, 1), (34, .iload_n 1, 1),
  (35, .iload_n 3, 1), (36, .aload_n 0, 1), (37, .getfield 7, 3), (40, .iload 4, 2), (42, .iaload, 1), (43, .aload_n 0, 1), (44, .getfield 7, 3), (47, .iload 4, 2),
  (49, .iconst 1, 1), (50, .iadd, 1), (51, .iaload, 1), (52, .invokevirtual 389, 3), (55, .aload_n 0, 1), (56, .getfield 7, 3), (59, .iload 4, 2), (61, .iconst 2, 1),
  (62, .iadd, 1), (63, .iaload, 1), (64, .if_icmp .ne 7, 3), (67, .iconst 1, 1), (68, .goto 4, 3), (71, .iconst 0, 1), (72, .istore_n 2, 1), (73, .iinc 3 1, 3),
  (76, .goto (-72), 3), (79, .iload_n 2, 1), (80, .ireturn, 1)]
def cd_307 : List zSem := [sP (fCon 1), sP (fIst 2), sP (fCon 0), sP (fIst 3), sP (fIld 3), sP (fAld 0),
  sRR (gFR 768), sP (fAld 0), sRI (gFI 808), sRI gAI, sBr (c2 (zcI .ge)) 49, sP (fAld 0),
  sRI (gFI 808), sP (fCon 1), sP (fII (fun x y => x + y)), sP (fCon 3), sP (fIld 3), sP (fII (fun x y => x * y)),
  sP (fII (fun x y => x + y)), sP (fIst 4), sP (fIld 2), sBr (c1 (zc0 .eq)) 45, sP (fAld 0), sP (fIld 1),
  sP (fIld 3), sP (fAld 0), sRR (gFR 768), sP (fIld 4), sRI gAI, sP (fAld 0),
  sRR (gFR 768), sP (fIld 4), sP (fCon 1), sP (fII (fun x y => x + y)), sRI gAI, sCI 306 5 (some 12) 5,
  sP (fAld 0), sRR (gFR 768), sP (fIld 4), sP (fCon 2), sP (fII (fun x y => x + y)), sRI gAI,
  sBr (c2 (zcI .ne)) 45, sP (fCon 1), sGo 46, sP (fCon 0), sP (fIst 2), sP (fInc 3 1),
  sGo 4, sP (fIld 2), sRz]
set_option maxRecDepth 100000 in
theorem ck_307 : in_307.map (fun q => zsem zTb (zlk zPl_12) (ztg in_307 q.1) true q.2.1) = cd_307.map some := rfl
/-- Model_areThere -/
def in_308 : List zIns := [(0, .iconst 1, 1), (1, .istore_n 1, 1), (2, .iconst 0, 1), (3, .istore_n 2, 1), (4, .iload_n 2, 1), (5, .aload_n 0, 1), (6, .getfield 7, 3), (9, .aload_n 0, 1),
  (10, .getfield 383, 3), (13, .iaload, 1), (14, .if_icmp .ge 63, 3), (17, .iload_n 1, 1), (18, .ifCond .eq 51, 3), (21, .aload_n 0, 1), (22, .getfield 7, 3), (25, .aload_n 0, 1),
  (26, .getfield 383, 3), (29, .iconst 1, 1), (30, .iadd, 1), (31, .iconst 3, 1), (32, .iload_n 2, 1), (33, .imul, 1), (34, .iadd, 1), (35, .iaload, 1),
  (36, .aload_n 0, 1), (37, .getfield 170, 3), (40, .if_icmp .ge 29, 3), (43, .aload_n 0, 1), (44, .getfield 7, 3), (47, .aload_n 0, 1), (48, .getfield 383, 3), (51, .iconst 2, 1),
  (52, .iadd, 1), (53, .iconst 3, 1), (54, .iload_n 2, 1), (55, .imul, 1), (56, .iadd, 1), (57, .iaload, 1), (58, .aload_n 0, 1), (59, .getfield 173, 3),
  (62, .if_icmp .ge 7, 3), (65, .iconst 1, 1), (66, .goto 4, 3), (69, .iconst 0, 1), (70, .istore_n 1, 1), (71, .iinc 2 1, 3), (74, .goto (-70), 3), (77, .iload_n 1, 1),
  (78, .ireturn, 1)]
def cd_308 : List zSem := [sP (fCon 1), sP (fIst 1), sP (fCon 0), sP (fIst 2), sP (fIld 2), sP (fAld 0),
  sRR (gFR 768), sP (fAld 0), sRI (gFI 808), sRI gAI, sBr (c2 (zcI .ge)) 47, sP (fIld 1),
  sBr (c1 (zc0 .eq)) 43, sP (fAld 0), sRR (gFR 768), sP (fAld 0), sRI (gFI 808), sP (fCon 1),
  sP (fII (fun x y => x + y)), sP (fCon 3), sP (fIld 2), sP (fII (fun x y => x * y)), sP (fII (fun x y => x + y)), sRI gAI,
  sP (fAld 0), sRI (gFI 780), sBr (c2 (zcI .ge)) 43, sP (fAld 0), sRR (gFR 768), sP (fAld 0),
  sRI (gFI 808), sP (fCon 2), sP (fII (fun x y => x + y)), sP (fCon 3), sP (fIld 2), sP (fII (fun x y => x * y)),
  sP (fII (fun x y => x + y)), sRI gAI, sP (fAld 0), sRI (gFI 781), sBr (c2 (zcI .ge)) 43, sP (fCon 1),
  sGo 44, sP (fCon 0), sP (fIst 1), sP (fInc 2 1), sGo 4, sP (fIld 1),
  sRz]
set_option maxRecDepth 100000 in
theorem ck_308 : in_308.map (fun q => zsem zTb (zlk zPl_12) (ztg in_308 q.1) true q.2.1) = cd_308.map some := rfl
/-- Model_greatestBy -/
def in_309 : List zIns := [(0, .iconst 0, 1), (1, .istore_n 3, 1), (2, .iload_n 3, 1), (3, .bipush 9, 2), (5, .if_icmp .ge 16, 3), (8, .aload_n 0, 1), (9, .getfield 56, 3), (12, .iload_n 3, 1),
  (13, .iconst 0, 1), (14, .iastore, 1), (15, .iinc 3 1, 3), (18, .goto (-16), 3), (21, .iconst 0, 1), (22, .istore_n 3, 1), (23, .iconst 0, 1), (24, .istore 4, 2),
  (26, .iload 4, 2), (28, .bipush 80, 2), (30, .if_icmp .ge 76, 3), (33, .aload_n 0, 1), (34, .iload 4, 2), (36, .invokevirtual 392, 3), (39, .ifCond .ne 6, 3), (42, .goto 58, 3),
  (45, .aload_n 0, 1), (46, .iload 4, 2), (48, .aload_n 0, 1), (49, .getfield 7, 3), (52, .aload_n 0, 1), (53, .getfield 383, 3), (56, .iaload, 1), (57, .iload_n 1, 1),
  (58, .iload_n 2, 1), (59, .invokevirtual 389, 3), (62, .iconst 1, 1), (63, .iadd, 1), (64, .istore 5, 2), (66, .aload_n 0, 1), (67, .getfield 56, 3), (70, .iload 5, 2),
  (72, .dup2, 1), (73, .iaload, 1), (74, .iconst 1, 1), (75, .iadd, 1), (76, .iastore, 1), (77, .aload_n 0, 1), (78, .getfield 56, 3), (81, .iload 5, 2),
  (83, .iaload, 1), (84, .iload_n 3, 1), (85, .if_icmp .le 13, 3), (88, .aload_n 0, 1), (89, .getfield 56, 3), (92, .iload 5, 2), (94, .iaload, 1), (95, .goto 4, 3),
  (98, .iload_n 3, 1), (99, .istore_n 3, 1), (100, .iinc 4 1, 3), (103, .goto (-77), 3), (106, .iload_n 3, 1), (107, .ireturn, 1)]
def cd_309 : List zSem := [sP (fCon 0), sP (fIst 3), sP (fIld 3), sP (fCon 9), sBr (c2 (zcI .ge)) 12, sP (fAld 0),
  sRR (gFR 809), sP (fIld 3), sP (fCon 0), sWr wAI, sP (fInc 3 1), sGo 2,
  sP (fCon 0), sP (fIst 3), sP (fCon 0), sP (fIst 4), sP (fIld 4), sP (fCon 80),
  sBr (c2 (zcI .ge)) 60, sP (fAld 0), sP (fIld 4), sCI 307 2 (some 12) 5, sBr (c1 (zc0 .ne)) 24, sGo 58,
  sP (fAld 0), sP (fIld 4), sP (fAld 0), sRR (gFR 768), sP (fAld 0), sRI (gFI 808),
  sRI gAI, sP (fIld 1), sP (fIld 2), sCI 306 5 (some 12) 5, sP (fCon 1), sP (fII (fun x y => x + y)),
  sP (fIst 5), sP (fAld 0), sRR (gFR 809), sP (fIld 5), sP fDup2, sRI gAI,
  sP (fCon 1), sP (fII (fun x y => x + y)), sWr wAI, sP (fAld 0), sRR (gFR 809), sP (fIld 5),
  sRI gAI, sP (fIld 3), sBr (c2 (zcI .le)) 56, sP (fAld 0), sRR (gFR 809), sP (fIld 5),
  sRI gAI, sGo 57, sP (fIld 3), sP (fIst 3), sP (fInc 4 1), sGo 16,
  sP (fIld 3), sRet rI]
set_option maxRecDepth 100000 in
theorem ck_309 : in_309.map (fun q => zsem zTb (zlk zPl_12) (ztg in_309 q.1) false q.2.1) = cd_309.map some := rfl
/-- Model_nextOf -/
def in_310 : List zIns := [(0, .iconst (-1), 1), (1, .istore_n 1, 1), (2, .bipush 99, 2), (4, .istore_n 2, 1), (5, .iconst 0, 1), (6, .istore_n 3, 1), (7, .iload_n 3, 1), (8, .aload_n 0, 1),
  (9, .getfield 170, 3), (12, .if_icmp .ge 56, 3), (15, .iconst 0, 1), (16, .istore 4, 2), (18, .iload 4, 2), (20, .aload_n 0, 1), (21, .getfield 173, 3), (24, .if_icmp .ge 38, 3),
  (27, .aload_n 0, 1), (28, .iload_n 3, 1), (29, .iload 4, 2), (31, .invokevirtual 395, 3), (34, .istore 5, 2), (36, .iload 5, 2), (38, .iload_n 2, 1), (39, .if_icmp .lt 6, 3),
  (42, .goto 14, 3), (45, .bipush 10, 2), (47, .iload_n 3, 1), (48, .imul, 1), (49, .iload 4, 2), (51, .iadd, 1), (52, .istore_n 1, 1), (53, .iload 5, 2),
  (55, .istore_n 2, 1), (56, .iinc 4 1, 3), (59, .goto (-41), 3), (62, .iinc 3 1, 3), (65, .goto (-58), 3), (68, .iload_n 1, 1), (69, .ireturn, 1)]
def cd_310 : List zSem := [sP (fCon (-1)), sP (fIst 1), sP (fCon 99), sP (fIst 2), sP (fCon 0), sP (fIst 3),
  sP (fIld 3), sP (fAld 0), sRI (gFI 780), sBr (c2 (zcI .ge)) 37, sP (fCon 0), sP (fIst 4),
  sP (fIld 4), sP (fAld 0), sRI (gFI 781), sBr (c2 (zcI .ge)) 35, sP (fAld 0), sP (fIld 3),
  sP (fIld 4), sCI 309 3 (some 12) 6, sP (fIst 5), sP (fIld 5), sP (fIld 2), sBr (c2 (zcI .lt)) 25,
  sGo 33, sP (fCon 10), sP (fIld 3), sP (fII (fun x y => x * y)), sP (fIld 4), sP (fII (fun x y => x + y)),
  sP (fIst 1), sP (fIld 5), sP (fIst 2), sP (fInc 4 1), sGo 12, sP (fInc 3 1),
  sGo 6, sP (fIld 1), sRet rI]
set_option maxRecDepth 100000 in
theorem ck_310 : in_310.map (fun q => zsem zTb (zlk zPl_12) (ztg in_310 q.1) false q.2.1) = cd_310.map some := rfl
/-- Model_whoseOf -/
def in_311 : List zIns := [(0, .iconst 0, 1), (1, .istore_n 1, 1), (2, .iconst 0, 1), (3, .istore_n 2, 1), (4, .iload_n 2, 1), (5, .aload_n 0, 1), (6, .getfield 167, 3), (9, .if_icmp .ge 40, 3),
  (12, .iload_n 1, 1), (13, .aload_n 0, 1), (14, .bipush 8, 2), (16, .aload_n 0, 1), (17, .iload_n 2, 1), (18, .invokevirtual 182, 3), (21, .imul, 1), (22, .aload_n 0, 1),
  (23, .iload_n 2, 1), (24, .invokevirtual 185, 3), (27, .iadd, 1), (28, .invokevirtual 392, 3), (31, .ifCond .eq 9, 3), (34, .iconst 1, 1), (35, .iload_n 2, 1), (36, .ishl, 1),
  (37, .goto 4, 3), (40, .iconst 0, 1), (41, .ior, 1), (42, .istore_n 1, 1), (43, .iinc 2 1, 3), (46, .goto (-42), 3), (49, .iload_n 1, 1), (50, .ireturn, 1)]
def cd_311 : List zSem := [sP (fCon 0), sP (fIst 1), sP (fCon 0), sP (fIst 2), sP (fIld 2), sP (fAld 0),
  sRI (gFI 779), sBr (c2 (zcI .ge)) 30, sP (fIld 1), sP (fAld 0), sP (fCon 8), sP (fAld 0),
  sP (fIld 2), sCI 230 2 (some 12) 2, sP (fII (fun x y => x * y)), sP (fAld 0), sP (fIld 2), sCI 231 2 (some 12) 2,
  sP (fII (fun x y => x + y)), sCI 307 2 (some 12) 5, sBr (c1 (zc0 .eq)) 25, sP (fCon 1), sP (fIld 2), sP (fII zshl),
  sGo 26, sP (fCon 0), sP (fII (fun x y => x ||| y)), sP (fIst 1), sP (fInc 2 1), sGo 4,
  sP (fIld 1), sRet rI]
set_option maxRecDepth 100000 in
theorem ck_311 : in_311.map (fun q => zsem zTb (zlk zPl_12) (ztg in_311 q.1) false q.2.1) = cd_311.map some := rfl
/-- Model_fits -/
def in_312 : List zIns := [(0, .aload_n 0, 1), (1, .iload_n 1, 1), (2, .invokevirtual 176, 3), (5, .ifCond .eq 32, 3), (8, .aload_n 0, 1), (9, .iload_n 2, 1), (10, .invokevirtual 386, 3), (13, .ifCond .eq 24, 3),
  (16, .aload_n 0, 1), (17, .invokevirtual 398, 3), (20, .ifCond .eq 17, 3), (23, .iload_n 3, 1), (24, .ifCond .lt 13, 3), (27, .iload_n 3, 1), (28, .iconst 5, 1), (29, .bipush 9, 2),
  (31, .invokestatic 114, 3), (34, .ifCond .eq 6, 3), (37, .bipush (-2), 2), (39, .ireturn, 1), (40, .iconst 0, 1), (41, .istore 4, 2), (43, .iconst (-1), 1), (44, .istore 5, 2),
  (46, .iconst (-1), 1), (47, .istore 6, 2), (49, .iconst 0, 1), (50, .istore 7, 2), (52, .iload 7, 2), (54, .bipush 80, 2), (56, .if_icmp .ge 96, 3), (59, .aload_n 0, 1),
  (60, .iload 7, 2), (62, .invokevirtual 392, 3), (65, .ifCond .ne 6, 3), (68, .goto 78, 3), (71, .iload_n 3, 1), (72, .bipush 10, 2), (74, .if_icmp .lt 15, 3), (77, .iload 4, 2),
  (79, .iload_n 3, 1), (80, .bipush 10, 2), (82, .isub, 1), (83, .if_icmp .ne 6, 3), (86, .iload 7, 2), (88, .ireturn, 1), (89, .iload 4, 2), (91, .ifCond .eq 13, 3),
  (94, .iload 5, 2), (96, .iload 7, 2), (98, .bipush 8, 2), (100, .idiv, 1), (101, .if_icmp .ne 11, 3), (104, .iload 7, 2), (106, .bipush 8, 2), (108, .idiv, 1),
  (109, .goto 5, 3), (112, .bipush (-2), 2), (114, .istore 5, 2), (116, .iload 4, 2), (118, .ifCond .eq 13, 3), (121, .iload 6, 2), (123, .iload 7, 2), (125, .bipush 8, 2),
  (127, .irem, 1), (128, .if_icmp .ne 11, 3), (131, .iload 7, 2), (133, .bipush 8, 2), (135, .irem, 1), (136, .goto 5, 3), (139, .bipush (-2), 2), (141, .istore 6, 2),
  (143, .iinc 4 1, 3), (146, .iinc 7 1, 3), (149, .goto (-97), 3), (152, .iload_n 3, 1), (153, .tableswitch 81 0 4 #[35, 38, 50, 62, 67], 35), (188, .iload 4, 2), (190, .ireturn, 1), (191, .iload 5, 2),
  (193, .ifCond .ge 7, 3), (196, .iconst (-1), 1), (197, .goto 5, 3), (200, .iload 5, 2), (202, .ireturn, 1), (203, .iload 6, 2), (205, .ifCond .ge 7, 3), (208, .iconst (-1), 1),
  (209, .goto 5, 3), (212, .iload 6, 2), (214, .ireturn, 1), (215, .aload_n 0, 1), (216, .invokevirtual 401, 3), (219, .ireturn, 1), (220, .iload 4, 2), (222, .ifCond .ne 7, 3),
  (225, .iconst (-1), 1), (226, .goto 7, 3), (229, .aload_n 0, 1), (230, .invokevirtual 405, 3), (233, .ireturn, 1), (234, .bipush (-2), 2), (236, .ireturn, 1)]
def cd_312 : List zSem := [sP (fAld 0), sP (fIld 1), sCI 226 2 (some 12) 2, sBr (c1 (zc0 .eq)) 18, sP (fAld 0), sP (fIld 2),
  sCI 304 2 (some 12) 2, sBr (c1 (zc0 .eq)) 18, sP (fAld 0), sCI 308 1 (some 12) 3, sBr (c1 (zc0 .eq)) 18, sP (fIld 3),
  sBr (c1 (zc0 .lt)) 18, sP (fIld 3), sP (fCon 5), sP (fCon 9), sCI 200 3 none 3, sBr (c1 (zc0 .eq)) 20,
  sP (fCon (-2)), sRet rI, sP (fCon 0), sP (fIst 4), sP (fCon (-1)), sP (fIst 5),
  sP (fCon (-1)), sP (fIst 6), sP (fCon 0), sP (fIst 7), sP (fIld 7), sP (fCon 80),
  sBr (c2 (zcI .ge)) 75, sP (fAld 0), sP (fIld 7), sCI 307 2 (some 12) 5, sBr (c1 (zc0 .ne)) 36, sGo 73,
  sP (fIld 3), sP (fCon 10), sBr (c2 (zcI .lt)) 46, sP (fIld 4), sP (fIld 3), sP (fCon 10),
  sP (fII (fun x y => x - y)), sBr (c2 (zcI .ne)) 46, sP (fIld 7), sRet rI, sP (fIld 4), sBr (c1 (zc0 .eq)) 53,
  sP (fIld 5), sP (fIld 7), sP (fCon 8), sRI (gDiv (fun x y => x / y)), sBr (c2 (zcI .ne)) 57, sP (fIld 7),
  sP (fCon 8), sRI (gDiv (fun x y => x / y)), sGo 58, sP (fCon (-2)), sP (fIst 5), sP (fIld 4),
  sBr (c1 (zc0 .eq)) 66, sP (fIld 6), sP (fIld 7), sP (fCon 8), sRI (gDiv zrem), sBr (c2 (zcI .ne)) 70,
  sP (fIld 7), sP (fCon 8), sRI (gDiv zrem), sGo 71, sP (fCon (-2)), sP (fIst 6),
  sP (fInc 4 1), sP (fInc 7 1), sGo 28, sP (fIld 3), sSw [(0, 77), (1, 79), (2, 85), (3, 91), (4, 94)] 101, sP (fIld 4),
  sRet rI, sP (fIld 5), sBr (c1 (zc0 .ge)) 83, sP (fCon (-1)), sGo 84, sP (fIld 5),
  sRet rI, sP (fIld 6), sBr (c1 (zc0 .ge)) 89, sP (fCon (-1)), sGo 90, sP (fIld 6),
  sRet rI, sP (fAld 0), sCI 311 1 (some 12) 3, sRet rI, sP (fIld 4), sBr (c1 (zc0 .ne)) 98,
  sP (fCon (-1)), sGo 100, sP (fAld 0), sCI 310 1 (some 12) 6, sRet rI, sP (fCon (-2)),
  sRet rI]
set_option maxRecDepth 100000 in
theorem ck_312 : in_312.map (fun q => zsem zTb (zlk zPl_12) (ztg in_312 q.1) false q.2.1) = cd_312.map some := rfl
/-- Model_common -/
def in_313 : List zIns := [(0, .lload_n 0, 1), (1, .lstore 4, 2), (3, .lload_n 2, 1), (4, .lstore 6, 2), (6, .lload 6, 2), (8, .lconst 0, 1), (9, .lcmp, 1), (10, .ifCond .eq 21, 3),
  (13, .lload 4, 2), (15, .lload 6, 2), (17, .lrem, 1), (18, .lstore 8, 2), (20, .lload 6, 2), (22, .lstore 4, 2), (24, .lload 8, 2), (26, .lstore 6, 2),
  (28, .goto (-22), 3), (31, .lload 4, 2), (33, .lreturn, 1)]
def cd_313 : List zSem := [sP (fLld 0), sP (fLst 4), sP (fLld 2), sP (fLst 6), sP (fLld 6), sP (fLon 0),
  sP fLc, sBr (c1 (zc0 .eq)) 17, sP (fLld 4), sP (fLld 6), sDL zremL, sP (fLst 8),
  sP (fLld 6), sP (fLst 4), sP (fLld 8), sP (fLst 6), sGo 4, sP (fLld 4),
  sRet rL]
set_option maxRecDepth 100000 in
theorem ck_313 : in_313.map (fun q => zsem zTb (zlk zPl_12) (ztg in_313 q.1) false q.2.1) = cd_313.map some := rfl
/-- Model_power -/
def in_314 : List zIns := [(0, .lconst 1, 1), (1, .lstore_n 3, 1), (2, .iconst 0, 1), (3, .istore 5, 2), (5, .iload 5, 2), (7, .iload_n 2, 1), (8, .if_icmp .ge 13, 3), (11, .lload_n 3, 1),
  (12, .lload_n 0, 1), (13, .lmul, 1), (14, .lstore_n 3, 1), (15, .iinc 5 1, 3), (18, .goto (-13), 3), (21, .lload_n 3, 1), (22, .lreturn, 1)]
def cd_314 : List zSem := [sP (fLon 1), sP (fLst 3), sP (fCon 0), sP (fIst 5), sP (fIld 5), sP (fIld 2),
  sBr (c2 (zcI .ge)) 13, sP (fLld 3), sP (fLld 0), sP (fLL (fun x y => x * y)), sP (fLst 3), sP (fInc 5 1),
  sGo 4, sP (fLld 3), sRet rL]
set_option maxRecDepth 100000 in
theorem ck_314 : in_314.map (fun q => zsem zTb (zlk zPl_12) (ztg in_314 q.1) false q.2.1) = cd_314.map some := rfl
/-- Model_odds -/
def in_315 : List zIns := [(0, .aload_n 0, 1), (1, .iload_n 1, 1), (2, .invokevirtual 176, 3), (5, .ifCond .eq 45, 3), (8, .aload_n 0, 1), (9, .iload_n 2, 1), (10, .invokevirtual 386, 3), (13, .ifCond .eq 37, 3),
  (16, .aload_n 0, 1), (17, .invokevirtual 398, 3), (20, .ifCond .eq 30, 3), (23, .aload_n 0, 1), (24, .iload_n 3, 1), (25, .invokevirtual 188, 3), (28, .ifCond .eq 22, 3), (31, .aload_n 0, 1),
  (32, .iload 4, 2), (34, .invokevirtual 194, 3), (37, .ifCond .eq 13, 3), (40, .iload 5, 2), (42, .iconst 0, 1), (43, .iconst 2, 1), (44, .invokestatic 114, 3), (47, .ifCond .ne 7, 3),
  (50, .ldc2_w 408, 3), (53, .lreturn, 1), (54, .lconst 0, 1), (55, .lstore 7, 2), (57, .lconst 0, 1), (58, .lstore 9, 2), (60, .iconst 0, 1), (61, .istore 11, 2),
  (63, .iload 11, 2), (65, .bipush 80, 2), (67, .if_icmp .ge 64, 3), (70, .aload_n 0, 1), (71, .iload 11, 2), (73, .invokevirtual 392, 3), (76, .ifCond .ne 6, 3), (79, .goto 46, 3),
  (82, .lload 9, 2), (84, .lconst 1, 1), (85, .ladd, 1), (86, .lstore 9, 2), (88, .lload 7, 2), (90, .aload_n 0, 1), (91, .aload_n 0, 1), (92, .iload 11, 2),
  (94, .aload_n 0, 1), (95, .getfield 7, 3), (98, .aload_n 0, 1), (99, .getfield 383, 3), (102, .iaload, 1), (103, .iload_n 3, 1), (104, .iload 4, 2), (106, .invokevirtual 389, 3),
  (109, .invokevirtual 215, 3), (112, .iload 5, 2), (114, .if_icmp .ne 7, 3), (117, .lconst 1, 1), (118, .goto 4, 3), (121, .lconst 0, 1), (122, .ladd, 1), (123, .lstore 7, 2),
  (125, .iinc 11 1, 3), (128, .goto (-65), 3), (131, .lload 9, 2), (133, .lconst 0, 1), (134, .lcmp, 1), (135, .ifCond .ne 9, 3), (138, .ldc2_w 408, 3), (141, .goto 23, 3),
  (144, .iload 6, 2), (146, .ifCond .eq 8, 3), (149, .lload 9, 2), (151, .goto 5, 3), (154, .lload 7, 2), (156, .lload 7, 2), (158, .lload 9, 2), (160, .invokestatic 410, 3),
  (163, .ldiv, 1), (164, .lreturn, 1)]
def cd_315 : List zSem := [sP (fAld 0), sP (fIld 1), sCI 226 2 (some 12) 2, sBr (c1 (zc0 .eq)) 24, sP (fAld 0), sP (fIld 2),
  sCI 304 2 (some 12) 2, sBr (c1 (zc0 .eq)) 24, sP (fAld 0), sCI 308 1 (some 12) 3, sBr (c1 (zc0 .eq)) 24, sP (fAld 0),
  sP (fIld 3), sCI 228 2 (some 12) 2, sBr (c1 (zc0 .eq)) 24, sP (fAld 0), sP (fIld 4), sCI 229 2 (some 12) 2,
  sBr (c1 (zc0 .eq)) 24, sP (fIld 5), sP (fCon 0), sP (fCon 2), sCI 200 3 none 3, sBr (c1 (zc0 .ne)) 26,
  sP (fLon (-1)), sRet rL, sP (fLon 0), sP (fLst 7), sP (fLon 0), sP (fLst 9),
  sP (fCon 0), sP (fIst 11), sP (fIld 11), sP (fCon 80), sBr (c2 (zcI .ge)) 66, sP (fAld 0),
  sP (fIld 11), sCI 307 2 (some 12) 5, sBr (c1 (zc0 .ne)) 40, sGo 64, sP (fLld 9), sP (fLon 1),
  sP (fLL (fun x y => x + y)), sP (fLst 9), sP (fLld 7), sP (fAld 0), sP (fAld 0), sP (fIld 11),
  sP (fAld 0), sRR (gFR 768), sP (fAld 0), sRI (gFI 808), sRI gAI, sP (fIld 3),
  sP (fIld 4), sCI 306 5 (some 12) 5, sCI 238 2 (some 12) 2, sP (fIld 5), sBr (c2 (zcI .ne)) 61, sP (fLon 1),
  sGo 62, sP (fLon 0), sP (fLL (fun x y => x + y)), sP (fLst 7), sP (fInc 11 1), sGo 32,
  sP (fLld 9), sP (fLon 0), sP fLc, sBr (c1 (zc0 .ne)) 72, sP (fLon (-1)), sGo 81,
  sP (fIld 6), sBr (c1 (zc0 .eq)) 76, sP (fLld 9), sGo 77, sP (fLld 7), sP (fLld 7),
  sP (fLld 9), sCL 313 2 none 10, sDL (fun x y => x / y), sRet rL]
set_option maxRecDepth 100000 in
theorem ck_315 : in_315.map (fun q => zsem zTb (zlk zPl_12) (ztg in_315 q.1) false q.2.1) = cd_315.map some := rfl
/-- Model_left -/
def in_316 : List zIns := [(0, .iload_n 1, 1), (1, .iconst 0, 1), (2, .bipush 6, 2), (4, .invokestatic 114, 3), (7, .ifCond .eq 33, 3), (10, .iload_n 2, 1), (11, .iconst 0, 1), (12, .bipush 6, 2),
  (14, .invokestatic 114, 3), (17, .ifCond .eq 23, 3), (20, .iload_n 3, 1), (21, .iconst 0, 1), (22, .iconst 3, 1), (23, .invokestatic 114, 3), (26, .ifCond .eq 14, 3), (29, .iload 4, 2),
  (31, .iconst 0, 1), (32, .bipush 10, 2), (34, .invokestatic 114, 3), (37, .ifCond .ne 7, 3), (40, .ldc2_w 408, 3), (43, .lreturn, 1), (44, .bipush 10, 2), (46, .iload 4, 2),
  (48, .isub, 1), (49, .i2l, 1), (50, .iload_n 3, 1), (51, .invokestatic 414, 3), (54, .lstore 6, 2), (56, .ldc2_w 418, 3), (59, .iload_n 3, 1), (60, .invokestatic 414, 3),
  (63, .lload 6, 2), (65, .lsub, 1), (66, .lstore 8, 2), (68, .lconst 0, 1), (69, .lstore 10, 2), (71, .iconst 0, 1), (72, .istore 12, 2), (74, .iload 12, 2),
  (76, .iconst 1, 1), (77, .iload_n 1, 1), (78, .ishl, 1), (79, .if_icmp .ge 46, 3), (82, .iload 12, 2), (84, .invokestatic 248, 3), (87, .iload_n 2, 1), (88, .if_icmp .lt 31, 3),
  (91, .lload 10, 2), (93, .lload 6, 2), (95, .iload 12, 2), (97, .invokestatic 248, 3), (100, .invokestatic 414, 3), (103, .lload 8, 2), (105, .iload_n 1, 1), (106, .iload 12, 2),
  (108, .invokestatic 248, 3), (111, .isub, 1), (112, .invokestatic 414, 3), (115, .lmul, 1), (116, .ladd, 1), (117, .lstore 10, 2), (119, .iinc 12 1, 3), (122, .goto (-48), 3),
  (125, .ldc2_w 418, 3), (128, .iload_n 3, 1), (129, .invokestatic 414, 3), (132, .iload_n 1, 1), (133, .invokestatic 414, 3), (136, .lstore 12, 2), (138, .iload 5, 2), (140, .ifCond .eq 8, 3),
  (143, .lload 12, 2), (145, .goto 5, 3), (148, .lload 10, 2), (150, .lload 10, 2), (152, .lload 12, 2), (154, .invokestatic 410, 3), (157, .ldiv, 1), (158, .lreturn, 1)]
def cd_316 : List zSem := [sP (fIld 1), sP (fCon 0), sP (fCon 6), sCI 200 3 none 3, sBr (c1 (zc0 .eq)) 20, sP (fIld 2),
  sP (fCon 0), sP (fCon 6), sCI 200 3 none 3, sBr (c1 (zc0 .eq)) 20, sP (fIld 3), sP (fCon 0),
  sP (fCon 3), sCI 200 3 none 3, sBr (c1 (zc0 .eq)) 20, sP (fIld 4), sP (fCon 0), sP (fCon 10),
  sCI 200 3 none 3, sBr (c1 (zc0 .ne)) 22, sP (fLon (-1)), sRet rL, sP (fCon 10), sP (fIld 4),
  sP (fII (fun x y => x - y)), sP fIL, sP (fIld 3), sCL 314 2 none 6, sP (fLst 6), sP (fLon 10),
  sP (fIld 3), sCL 314 2 none 6, sP (fLld 6), sP (fLL (fun x y => x - y)), sP (fLst 8), sP (fLon 0),
  sP (fLst 10), sP (fCon 0), sP (fIst 12), sP (fIld 12), sP (fCon 1), sP (fIld 1),
  sP (fII zshl), sBr (c2 (zcI .ge)) 64, sP (fIld 12), sCI 249 1 none 3, sP (fIld 2), sBr (c2 (zcI .lt)) 62,
  sP (fLld 10), sP (fLld 6), sP (fIld 12), sCI 249 1 none 3, sCL 314 2 none 6, sP (fLld 8),
  sP (fIld 1), sP (fIld 12), sCI 249 1 none 3, sP (fII (fun x y => x - y)), sCL 314 2 none 6, sP (fLL (fun x y => x * y)),
  sP (fLL (fun x y => x + y)), sP (fLst 10), sP (fInc 12 1), sGo 39, sP (fLon 10), sP (fIld 3),
  sCL 314 2 none 6, sP (fIld 1), sCL 314 2 none 6, sP (fLst 12), sP (fIld 5), sBr (c1 (zc0 .eq)) 74,
  sP (fLld 12), sGo 75, sP (fLld 10), sP (fLld 10), sP (fLld 12), sCL 313 2 none 10,
  sDL (fun x y => x / y), sRet rL]
set_option maxRecDepth 100000 in
theorem ck_316 : in_316.map (fun q => zsem zTb (zlk zPl_12) (ztg in_316 q.1) false q.2.1) = cd_316.map some := rfl
/-- Model_below -/
def in_317 : List zIns := [(0, .aload_n 0, 1), (1, .aload_n 0, 1), (2, .getfield 420, 3), (5, .ldc_w 423, 3), (8, .imul, 1), (9, .sipush 12345, 3), (12, .iadd, 1), (13, .putfield 420, 3),
  (16, .aload_n 0, 1), (17, .getfield 420, 3), (20, .bipush 16, 2), (22, .iushr, 1), (23, .iload_n 1, 1), (24, .irem, 1), (25, .ireturn, 1)]
def cd_317 : List zSem := [sP (fAld 0), sP (fAld 0), sRI (gFI 810), sP (fCon 1103515245), sP (fII (fun x y => x * y)), sP (fCon 12345),
  sP (fII (fun x y => x + y)), sWr (wFI 810), sP (fAld 0), sRI (gFI 810), sP (fCon 16), sP (fII zushr),
  sP (fIld 1), sRI (gDiv zrem), sRet rI]
set_option maxRecDepth 100000 in
theorem ck_317 : in_317.map (fun q => zsem zTb (zlk zPl_12) (ztg in_317 q.1) false q.2.1) = cd_317.map some := rfl
/-- Model_draws -/
def in_318 : List zIns := [(0, .aload_n 0, 1), (1, .bipush 8, 2), (3, .invokevirtual 424, 3), (6, .istore_n 1, 1), (7, .iload_n 1, 1), (8, .bipush 7, 2), (10, .if_icmp .ne 9, 3), (13, .aload_n 0, 1),
  (14, .invokevirtual 360, 3), (17, .pop, 1), (18, .return_, 1), (19, .iload_n 1, 1), (20, .bipush 6, 2), (22, .if_icmp .ne 14, 3), (25, .aload_n 0, 1), (26, .aload_n 0, 1),
  (27, .bipush 10, 2), (29, .invokevirtual 424, 3), (32, .putfield 331, 3), (35, .return_, 1), (36, .aload_n 0, 1), (37, .getfield 167, 3), (40, .ifCond .eq 22, 3), (43, .iload_n 1, 1),
  (44, .iconst 4, 1), (45, .if_icmp .ge 18, 3), (48, .aload_n 0, 1), (49, .getfield 170, 3), (52, .ifCond .eq 10, 3), (55, .aload_n 0, 1), (56, .getfield 173, 3), (59, .ifCond .ne 4, 3),
  (62, .return_, 1), (63, .aload_n 0, 1), (64, .aload_n 0, 1), (65, .getfield 167, 3), (68, .invokevirtual 424, 3), (71, .istore_n 2, 1), (72, .iload_n 1, 1), (73, .iconst 3, 1),
  (74, .if_icmp .le 20, 3), (77, .aload_n 0, 1), (78, .iload_n 2, 1), (79, .iload_n 1, 1), (80, .iconst 5, 1), (81, .if_icmp .ne 7, 3), (84, .iconst 1, 1), (85, .goto 4, 3),
  (88, .iconst 0, 1), (89, .invokevirtual 356, 3), (92, .pop, 1), (93, .return_, 1), (94, .aload_n 0, 1), (95, .aload_n 0, 1), (96, .getfield 170, 3), (99, .invokevirtual 424, 3),
  (102, .istore_n 3, 1), (103, .aload_n 0, 1), (104, .iload_n 2, 1), (105, .iload_n 3, 1), (106, .aload_n 0, 1), (107, .aload_n 0, 1), (108, .getfield 173, 3), (111, .invokevirtual 424, 3),
  (114, .invokevirtual 349, 3), (117, .pop, 1), (118, .return_, 1)]
def cd_318 : List zSem := [sP (fAld 0), sP (fCon 8), sCI 317 2 (some 12) 2, sP (fIst 1), sP (fIld 1), sP (fCon 7),
  sBr (c2 (zcI .ne)) 11, sP (fAld 0), sCI 295 1 (some 12) 2, sP fPop, sRet rV, sP (fIld 1),
  sP (fCon 6), sBr (c2 (zcI .ne)) 20, sP (fAld 0), sP (fAld 0), sP (fCon 10), sCI 317 2 (some 12) 2,
  sWr (wFI 799), sRet rV, sP (fAld 0), sRI (gFI 779), sBr (c1 (zc0 .eq)) 32, sP (fIld 1),
  sP (fCon 4), sBr (c2 (zcI .ge)) 33, sP (fAld 0), sRI (gFI 780), sBr (c1 (zc0 .eq)) 32, sP (fAld 0),
  sRI (gFI 781), sBr (c1 (zc0 .ne)) 33, sRet rV, sP (fAld 0), sP (fAld 0), sRI (gFI 779),
  sCI 317 2 (some 12) 2, sP (fIst 2), sP (fIld 1), sP (fCon 3), sBr (c2 (zcI .le)) 52, sP (fAld 0),
  sP (fIld 2), sP (fIld 1), sP (fCon 5), sBr (c2 (zcI .ne)) 48, sP (fCon 1), sGo 49,
  sP (fCon 0), sCI 294 3 (some 12) 3, sP fPop, sRet rV, sP (fAld 0), sP (fAld 0),
  sRI (gFI 780), sCI 317 2 (some 12) 2, sP (fIst 3), sP (fAld 0), sP (fIld 2), sP (fIld 3),
  sP (fAld 0), sP (fAld 0), sRI (gFI 781), sCI 317 2 (some 12) 2, sCI 292 4 (some 12) 5, sP fPop,
  sRet rV]
set_option maxRecDepth 100000 in
theorem ck_318 : in_318.map (fun q => zsem zTb (zlk zPl_12) (ztg in_318 q.1) false q.2.1) = cd_318.map some := rfl
/-- Model_drawn -/
def in_319 : List zIns := [(0, .aload_n 0, 1), (1, .iload_n 1, 1), (2, .invokevirtual 176, 3), (5, .ifCond .eq 18, 3), (8, .iload_n 3, 1), (9, .iconst 0, 1), (10, .bipush 60, 2), (12, .invokestatic 114, 3),
  (15, .ifCond .eq 8, 3), (18, .iload 4, 2), (20, .ifCond .ge 6, 3), (23, .bipush (-2), 2), (25, .ireturn, 1), (26, .aload_n 0, 1), (27, .iload_n 2, 1), (28, .putfield 420, 3),
  (31, .aload_n 0, 1), (32, .invokevirtual 367, 3), (35, .iconst 0, 1), (36, .istore 5, 2), (38, .iload 5, 2), (40, .iload_n 3, 1), (41, .if_icmp .ge 13, 3), (44, .aload_n 0, 1),
  (45, .invokevirtual 427, 3), (48, .iinc 5 1, 3), (51, .goto (-13), 3), (54, .aload_n 0, 1), (55, .iload 4, 2), (57, .invokevirtual 380, 3), (60, .ireturn, 1)]
def cd_319 : List zSem := [sP (fAld 0), sP (fIld 1), sCI 226 2 (some 12) 2, sBr (c1 (zc0 .eq)) 11, sP (fIld 3), sP (fCon 0),
  sP (fCon 60), sCI 200 3 none 3, sBr (c1 (zc0 .eq)) 11, sP (fIld 4), sBr (c1 (zc0 .ge)) 13, sP (fCon (-2)),
  sRet rI, sP (fAld 0), sP (fIld 2), sWr (wFI 810), sP (fAld 0), sCV 288 1 (some 12) 2,
  sP (fCon 0), sP (fIst 5), sP (fIld 5), sP (fIld 3), sBr (c2 (zcI .ge)) 27, sP (fAld 0),
  sCV 318 1 (some 12) 4, sP (fInc 5 1), sGo 20, sP (fAld 0), sP (fIld 4), sCI 302 2 (some 12) 3,
  sRet rI]
set_option maxRecDepth 100000 in
theorem ck_319 : in_319.map (fun q => zsem zTb (zlk zPl_12) (ztg in_319 q.1) false q.2.1) = cd_319.map some := rfl
/-- Model_count -/
def in_320 : List zIns := [(0, .iload_n 1, 1), (1, .iconst 0, 1), (2, .iconst 2, 1), (3, .invokestatic 114, 3), (6, .ifCond .eq 12, 3), (9, .aload_n 0, 1), (10, .getfield 7, 3), (13, .iload_n 1, 1),
  (14, .iaload, 1), (15, .goto 5, 3), (18, .bipush (-2), 2), (20, .ireturn, 1)]
def cd_320 : List zSem := [sP (fIld 1), sP (fCon 0), sP (fCon 2), sCI 200 3 none 3, sBr (c1 (zc0 .eq)) 10, sP (fAld 0),
  sRR (gFR 768), sP (fIld 1), sRI gAI, sGo 11, sP (fCon (-2)), sRet rI]
set_option maxRecDepth 100000 in
theorem ck_320 : in_320.map (fun q => zsem zTb (zlk zPl_12) (ztg in_320 q.1) false q.2.1) = cd_320.map some := rfl
/-- Model_image -/
def in_321 : List zIns := [(0, .iload_n 1, 1), (1, .iconst 0, 1), (2, .iconst 2, 1), (3, .invokestatic 114, 3), (6, .ifCond .ne 5, 3), (9, .iconst 0, 1), (10, .ireturn, 1), (11, .aload_n 0, 1),
  (12, .getfield 13, 3), (15, .iload_n 1, 1), (16, .iconst 1, 1), (17, .bastore, 1), (18, .iconst 0, 1), (19, .istore_n 2, 1), (20, .iload_n 2, 1), (21, .sipush 1230, 3),
  (24, .if_icmp .ge 29, 3), (27, .aload_n 0, 1), (28, .getfield 7, 3), (31, .sipush 1230, 3), (34, .iload_n 1, 1), (35, .iconst 1, 1), (36, .iadd, 1), (37, .imul, 1),
  (38, .iload_n 2, 1), (39, .iadd, 1), (40, .aload_n 0, 1), (41, .getfield 7, 3), (44, .iload_n 2, 1), (45, .iaload, 1), (46, .iastore, 1), (47, .iinc 2 1, 3),
  (50, .goto (-30), 3), (53, .iconst 1, 1), (54, .ireturn, 1)]
def cd_321 : List zSem := [sP (fIld 1), sP (fCon 0), sP (fCon 2), sCI 200 3 none 3, sBr (c1 (zc0 .ne)) 7, sP (fCon 0),
  sRz, sP (fAld 0), sRR (gFR 769), sP (fIld 1), sP (fCon 1), sWr wAB,
  sP (fCon 0), sP (fIst 2), sP (fIld 2), sP (fCon 1230), sBr (c2 (zcI .ge)) 33, sP (fAld 0),
  sRR (gFR 768), sP (fCon 1230), sP (fIld 1), sP (fCon 1), sP (fII (fun x y => x + y)), sP (fII (fun x y => x * y)),
  sP (fIld 2), sP (fII (fun x y => x + y)), sP (fAld 0), sRR (gFR 768), sP (fIld 2), sRI gAI,
  sWr wAI, sP (fInc 2 1), sGo 14, sP (fCon 1), sRz]
set_option maxRecDepth 100000 in
theorem ck_321 : in_321.map (fun q => zsem zTb (zlk zPl_12) (ztg in_321 q.1) true q.2.1) = cd_321.map some := rfl
/-- Model_again -/
def in_322 : List zIns := [(0, .iload_n 1, 1), (1, .iconst 0, 1), (2, .iconst 2, 1), (3, .invokestatic 114, 3), (6, .ifCond .eq 12, 3), (9, .aload_n 0, 1), (10, .getfield 13, 3), (13, .iload_n 1, 1),
  (14, .baload, 1), (15, .ifCond .ne 5, 3), (18, .iconst 0, 1), (19, .ireturn, 1), (20, .iconst 0, 1), (21, .istore_n 2, 1), (22, .iload_n 2, 1), (23, .sipush 1230, 3),
  (26, .if_icmp .ge 29, 3), (29, .aload_n 0, 1), (30, .getfield 7, 3), (33, .iload_n 2, 1), (34, .aload_n 0, 1), (35, .getfield 7, 3), (38, .sipush 1230, 3), (41, .iload_n 1, 1),
  (42, .iconst 1, 1), (43, .iadd, 1), (44, .imul, 1), (45, .iload_n 2, 1), (46, .iadd, 1), (47, .iaload, 1), (48, .iastore, 1), (49, .iinc 2 1, 3),
  (52, .goto (-30), 3), (55, .iconst 1, 1), (56, .ireturn, 1)]
def cd_322 : List zSem := [sP (fIld 1), sP (fCon 0), sP (fCon 2), sCI 200 3 none 3, sBr (c1 (zc0 .eq)) 10, sP (fAld 0),
  sRR (gFR 769), sP (fIld 1), sRI gAB, sBr (c1 (zc0 .ne)) 12, sP (fCon 0), sRz,
  sP (fCon 0), sP (fIst 2), sP (fIld 2), sP (fCon 1230), sBr (c2 (zcI .ge)) 33, sP (fAld 0),
  sRR (gFR 768), sP (fIld 2), sP (fAld 0), sRR (gFR 768), sP (fCon 1230), sP (fIld 1),
  sP (fCon 1), sP (fII (fun x y => x + y)), sP (fII (fun x y => x * y)), sP (fIld 2), sP (fII (fun x y => x + y)), sRI gAI,
  sWr wAI, sP (fInc 2 1), sGo 14, sP (fCon 1), sRz]
set_option maxRecDepth 100000 in
theorem ck_322 : in_322.map (fun q => zsem zTb (zlk zPl_12) (ztg in_322 q.1) true q.2.1) = cd_322.map some := rfl
/-- Arrays_fill -/
def in_324 : List zIns := [(0, .iconst 0, 1), (1, .istore_n 2, 1), (2, .aload_n 0, 1), (3, .arraylength, 1), (4, .istore_n 3, 1), (5, .iload_n 2, 1), (6, .iload_n 3, 1), (7, .if_icmp .ge 13, 3),
  (10, .aload_n 0, 1), (11, .iload_n 2, 1), (12, .iload_n 1, 1), (13, .iastore, 1), (14, .iinc 2 1, 3), (17, .goto (-12), 3), (20, .return_, 1)]
def cd_324 : List zSem := [sP (fCon 0), sP (fIst 2), sP (fAld 0), sRI gAN, sP (fIst 3), sP (fIld 2),
  sP (fIld 3), sBr (c2 (zcI .ge)) 14, sP (fAld 0), sP (fIld 2), sP (fIld 1), sWr wAI,
  sP (fInc 2 1), sGo 5, sRet rV]
set_option maxRecDepth 100000 in
theorem ck_324 : in_324.map (fun q => zsem zTb (zlk zPl_14) (ztg in_324 q.1) false q.2.1) = cd_324.map some := rfl
/-- Integer_bitCount -/
def in_325 : List zIns := [(0, .iload_n 0, 1), (1, .iload_n 0, 1), (2, .iconst 1, 1), (3, .iushr, 1), (4, .ldc_w 265, 3), (7, .iand, 1), (8, .isub, 1), (9, .istore_n 0, 1),
  (10, .iload_n 0, 1), (11, .ldc_w 266, 3), (14, .iand, 1), (15, .iload_n 0, 1), (16, .iconst 2, 1), (17, .iushr, 1), (18, .ldc_w 266, 3), (21, .iand, 1),
  (22, .iadd, 1), (23, .istore_n 0, 1), (24, .iload_n 0, 1), (25, .iload_n 0, 1), (26, .iconst 4, 1), (27, .iushr, 1), (28, .iadd, 1), (29, .ldc_w 267, 3),
  (32, .iand, 1), (33, .istore_n 0, 1), (34, .iload_n 0, 1), (35, .iload_n 0, 1), (36, .bipush 8, 2), (38, .iushr, 1), (39, .iadd, 1), (40, .istore_n 0, 1),
  (41, .iload_n 0, 1), (42, .iload_n 0, 1), (43, .bipush 16, 2), (45, .iushr, 1), (46, .iadd, 1), (47, .istore_n 0, 1), (48, .iload_n 0, 1), (49, .bipush 63, 2),
  (51, .iand, 1), (52, .ireturn, 1)]
def cd_325 : List zSem := [sP (fIld 0), sP (fIld 0), sP (fCon 1), sP (fII zushr), sP (fCon 1431655765), sP (fII (fun x y => x &&& y)),
  sP (fII (fun x y => x - y)), sP (fIst 0), sP (fIld 0), sP (fCon 858993459), sP (fII (fun x y => x &&& y)), sP (fIld 0),
  sP (fCon 2), sP (fII zushr), sP (fCon 858993459), sP (fII (fun x y => x &&& y)), sP (fII (fun x y => x + y)), sP (fIst 0),
  sP (fIld 0), sP (fIld 0), sP (fCon 4), sP (fII zushr), sP (fII (fun x y => x + y)), sP (fCon 252645135),
  sP (fII (fun x y => x &&& y)), sP (fIst 0), sP (fIld 0), sP (fIld 0), sP (fCon 8), sP (fII zushr),
  sP (fII (fun x y => x + y)), sP (fIst 0), sP (fIld 0), sP (fIld 0), sP (fCon 16), sP (fII zushr),
  sP (fII (fun x y => x + y)), sP (fIst 0), sP (fIld 0), sP (fCon 63), sP (fII (fun x y => x &&& y)), sRet rI]
set_option maxRecDepth 100000 in
theorem ck_325 : in_325.map (fun q => zsem zTb (zlk zPl_15) (ztg in_325 q.1) false q.2.1) = cd_325.map some := rfl
