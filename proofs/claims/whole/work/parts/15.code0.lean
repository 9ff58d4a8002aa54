/-- Acts_init -/
def in_0 : List zIns := [(0, .aload_n 0, 1), (1, .invokespecial 3, 3), (4, .aload_n 0, 1), (5, .sipush 800, 3), (8, .newarray .int, 2), (10, .putfield 11, 3), (13, .aload_n 0, 1), (14, .sipush 800, 3),
  (17, .newarray .int, 2), (19, .putfield 15, 3), (22, .return_, 1)]
def cd_0 : List zSem := [sP (fAld 0), sP fObj, sP (fAld 0), sP (fCon 800), sNA (znA 0), sWr (wFR 1),
  sP (fAld 0), sP (fCon 800), sNA (znA 0), sWr (wFR 2), sRet rV]
set_option maxRecDepth 100000 in
theorem ck_0 : in_0.map (fun q => zsem zTb (zlk zPl_0) (ztg in_0 q.1) false q.2.1) = cd_0.map some := rfl
/-- Acts_seek -/
def in_1 : List zIns := [(0, .aload_n 0, 1), (1, .iconst (-1), 1), (2, .putfield 18, 3), (5, .aload_n 1, 1), (6, .iload_n 3, 1), (7, .iload 4, 2), (9, .iload 5, 2), (11, .invokestatic 22, 3),
  (14, .ifCond .eq 4, 3), (17, .return_, 1), (18, .aload_n 0, 1), (19, .getfield 11, 3), (22, .iconst (-1), 1), (23, .invokestatic 26, 3), (26, .aload_n 1, 1), (27, .getfield 32, 3),
  (30, .iload_n 2, 1), (31, .iaload, 1), (32, .aload_n 1, 1), (33, .getfield 37, 3), (36, .iload_n 2, 1), (37, .iaload, 1), (38, .aload_n 1, 1), (39, .getfield 40, 3),
  (42, .invokestatic 43, 3), (45, .istore 6, 2), (47, .aload_n 0, 1), (48, .getfield 11, 3), (51, .iload 6, 2), (53, .bipush (-2), 2), (55, .iastore, 1), (56, .aload_n 0, 1),
  (57, .getfield 15, 3), (60, .iconst 0, 1), (61, .iload 6, 2), (63, .iastore, 1), (64, .iconst 1, 1), (65, .istore 7, 2), (67, .iconst 0, 1), (68, .istore 8, 2),
  (70, .iload 8, 2), (72, .iload 7, 2), (74, .if_icmp .ge 88, 3), (77, .iload 8, 2), (79, .sipush 800, 3), (82, .if_icmp .ge 80, 3), (85, .aload_n 0, 1), (86, .getfield 15, 3),
  (89, .iload 8, 2), (91, .iaload, 1), (92, .istore 9, 2), (94, .aload_n 1, 1), (95, .iload 9, 2), (97, .invokestatic 47, 3), (100, .iload 9, 2), (102, .invokestatic 51, 3),
  (105, .iload 9, 2), (107, .invokestatic 54, 3), (110, .iload_n 3, 1), (111, .iload 4, 2), (113, .invokevirtual 57, 3), (116, .istore 10, 2), (118, .aload_n 1, 1), (119, .iload 10, 2),
  (121, .invokevirtual 61, 3), (124, .iload 5, 2), (126, .if_icmp .ne 20, 3), (129, .aload_n 0, 1), (130, .iload 9, 2), (132, .putfield 64, 3), (135, .aload_n 0, 1), (136, .aload_n 0, 1),
  (137, .iload 9, 2), (139, .invokevirtual 67, 3), (142, .putfield 18, 3), (145, .return_, 1), (146, .aload_n 0, 1), (147, .iload 9, 2), (149, .iload 7, 2), (151, .invokevirtual 70, 3),
  (154, .istore 7, 2), (156, .iinc 8 1, 3), (159, .goto (-89), 3), (162, .return_, 1)]
def cd_1 : List zSem := [sP (fAld 0), sP (fCon (-1)), sWr (wFI 0), sP (fAld 1), sP (fIld 3), sP (fIld 4),
  sP (fIld 5), sCI 2 4 none 6, sBr (c1 (zc0 .eq)) 10, sRet rV, sP (fAld 0), sRR (gFR 1),
  sP (fCon (-1)), sCV 324 2 none 4, sP (fAld 1), sRR (gFR 132), sP (fIld 2), sRI gAI,
  sP (fAld 1), sRR (gFR 133), sP (fIld 2), sRI gAI, sP (fAld 1), sRI (gFI 131),
  sCI 7 3 none 3, sP (fIst 6), sP (fAld 0), sRR (gFR 1), sP (fIld 6), sP (fCon (-2)),
  sWr wAI, sP (fAld 0), sRR (gFR 2), sP (fCon 0), sP (fIld 6), sWr wAI,
  sP (fCon 1), sP (fIst 7), sP (fCon 0), sP (fIst 8), sP (fIld 8), sP (fIld 7),
  sBr (c2 (zcI .ge)) 83, sP (fIld 8), sP (fCon 800), sBr (c2 (zcI .ge)) 83, sP (fAld 0), sRR (gFR 2),
  sP (fIld 8), sRI gAI, sP (fIst 9), sP (fAld 1), sP (fIld 9), sCI 8 1 none 1,
  sP (fIld 9), sCI 9 1 none 1, sP (fIld 9), sCI 10 1 none 1, sP (fIld 3), sP (fIld 4),
  sCI 47 6 (some 2) 7, sP (fIst 10), sP (fAld 1), sP (fIld 10), sCI 50 2 (some 2) 2, sP (fIld 5),
  sBr (c2 (zcI .ne)) 76, sP (fAld 0), sP (fIld 9), sWr (wFI 3), sP (fAld 0), sP (fAld 0),
  sP (fIld 9), sCI 5 2 (some 0) 4, sWr (wFI 0), sRet rV, sP (fAld 0), sP (fIld 9),
  sP (fIld 7), sCI 3 3 (some 0) 6, sP (fIst 7), sP (fInc 8 1), sGo 40, sRet rV]
set_option maxRecDepth 100000 in
theorem ck_1 : in_1.map (fun q => zsem zTb (zlk zPl_0) (ztg in_1 q.1) false q.2.1) = cd_1.map some := rfl
/-- Acts_isBeyond -/
def in_2 : List zIns := [(0, .iconst 0, 1), (1, .istore 4, 2), (3, .iconst 0, 1), (4, .istore 5, 2), (6, .iload 5, 2), (8, .bipush 8, 2), (10, .if_icmp .ge 32, 3), (13, .iload 4, 2),
  (15, .ifCond .ne 14, 3), (18, .aload_n 0, 1), (19, .getfield 74, 3), (22, .iload 5, 2), (24, .iaload, 1), (25, .iload_n 3, 1), (26, .if_icmp .ne 7, 3), (29, .iconst 1, 1),
  (30, .goto 4, 3), (33, .iconst 0, 1), (34, .istore 4, 2), (36, .iinc 5 1, 3), (39, .goto (-33), 3), (42, .iload 4, 2), (44, .ifCond .eq 14, 3), (47, .aload_n 0, 1),
  (48, .bipush 9, 2), (50, .iload_n 1, 1), (51, .iload_n 2, 1), (52, .invokevirtual 77, 3), (55, .ifCond .eq 7, 3), (58, .iconst 1, 1), (59, .goto 4, 3), (62, .iconst 0, 1),
  (63, .ireturn, 1)]
def cd_2 : List zSem := [sP (fCon 0), sP (fIst 4), sP (fCon 0), sP (fIst 5), sP (fIld 5), sP (fCon 8),
  sBr (c2 (zcI .ge)) 21, sP (fIld 4), sBr (c1 (zc0 .ne)) 15, sP (fAld 0), sRR (gFR 137), sP (fIld 5),
  sRI gAI, sP (fIld 3), sBr (c2 (zcI .ne)) 17, sP (fCon 1), sGo 18, sP (fCon 0),
  sP (fIst 4), sP (fInc 5 1), sGo 4, sP (fIld 4), sBr (c1 (zc0 .eq)) 29, sP (fAld 0),
  sP (fCon 9), sP (fIld 1), sP (fIld 2), sCI 46 4 (some 2) 4, sBr (c1 (zc0 .eq)) 31, sP (fCon 1),
  sGo 32, sP (fCon 0), sRz]
set_option maxRecDepth 100000 in
theorem ck_2 : in_2.map (fun q => zsem zTb (zlk zPl_0) (ztg in_2 q.1) true q.2.1) = cd_2.map some := rfl
/-- Acts_spread -/
def in_3 : List zIns := [(0, .iload_n 2, 1), (1, .istore_n 3, 1), (2, .iconst 0, 1), (3, .istore 4, 2), (5, .iload 4, 2), (7, .iconst 5, 1), (8, .if_icmp .ge 59, 3), (11, .iload_n 1, 1),
  (12, .iload 4, 2), (14, .invokestatic 81, 3), (17, .istore 5, 2), (19, .aload_n 0, 1), (20, .getfield 11, 3), (23, .iload 5, 2), (25, .iaload, 1), (26, .iconst (-1), 1),
  (27, .if_icmp .ne 34, 3), (30, .iload_n 3, 1), (31, .sipush 800, 3), (34, .if_icmp .ge 27, 3), (37, .aload_n 0, 1), (38, .getfield 11, 3), (41, .iload 5, 2), (43, .iload_n 1, 1),
  (44, .iconst 5, 1), (45, .imul, 1), (46, .iload 4, 2), (48, .iadd, 1), (49, .iastore, 1), (50, .aload_n 0, 1), (51, .getfield 15, 3), (54, .iload_n 3, 1),
  (55, .iload 5, 2), (57, .iastore, 1), (58, .iinc 3 1, 3), (61, .iinc 4 1, 3), (64, .goto (-59), 3), (67, .iload_n 3, 1), (68, .ireturn, 1)]
def cd_3 : List zSem := [sP (fIld 2), sP (fIst 3), sP (fCon 0), sP (fIst 4), sP (fIld 4), sP (fCon 5),
  sBr (c2 (zcI .ge)) 37, sP (fIld 1), sP (fIld 4), sCI 4 2 none 5, sP (fIst 5), sP (fAld 0),
  sRR (gFR 1), sP (fIld 5), sRI gAI, sP (fCon (-1)), sBr (c2 (zcI .ne)) 35, sP (fIld 3),
  sP (fCon 800), sBr (c2 (zcI .ge)) 35, sP (fAld 0), sRR (gFR 1), sP (fIld 5), sP (fIld 1),
  sP (fCon 5), sP (fII (fun x y => x * y)), sP (fIld 4), sP (fII (fun x y => x + y)), sWr wAI, sP (fAld 0),
  sRR (gFR 2), sP (fIld 3), sP (fIld 5), sWr wAI, sP (fInc 3 1), sP (fInc 4 1),
  sGo 4, sP (fIld 3), sRet rI]
set_option maxRecDepth 100000 in
theorem ck_3 : in_3.map (fun q => zsem zTb (zlk zPl_0) (ztg in_3 q.1) false q.2.1) = cd_3.map some := rfl
/-- Acts_behind -/
def in_4 : List zIns := [(0, .iload_n 0, 1), (1, .invokestatic 47, 3), (4, .istore_n 2, 1), (5, .iload_n 0, 1), (6, .invokestatic 51, 3), (9, .istore_n 3, 1), (10, .iload_n 0, 1), (11, .invokestatic 54, 3),
  (14, .istore 4, 2), (16, .iload_n 1, 1), (17, .tableswitch 81 0 3 #[31, 42, 55, 67], 31), (48, .iload_n 2, 1), (49, .invokestatic 84, 3), (52, .iload_n 3, 1), (53, .iload 4, 2), (55, .invokestatic 43, 3),
  (58, .ireturn, 1), (59, .iload_n 2, 1), (60, .iload_n 3, 1), (61, .iconst 1, 1), (62, .iadd, 1), (63, .bipush 8, 2), (65, .irem, 1), (66, .iload 4, 2),
  (68, .invokestatic 43, 3), (71, .ireturn, 1), (72, .iload_n 2, 1), (73, .iconst 1, 1), (74, .invokestatic 87, 3), (77, .iload_n 3, 1), (78, .iload 4, 2), (80, .invokestatic 43, 3),
  (83, .ireturn, 1), (84, .iload_n 2, 1), (85, .iload_n 3, 1), (86, .iconst 0, 1), (87, .iload 4, 2), (89, .iconst 1, 1), (90, .isub, 1), (91, .invokestatic 90, 3),
  (94, .invokestatic 43, 3), (97, .ireturn, 1), (98, .iload_n 2, 1), (99, .iload_n 3, 1), (100, .bipush 9, 2), (102, .iload 4, 2), (104, .iconst 1, 1), (105, .iadd, 1),
  (106, .invokestatic 95, 3), (109, .invokestatic 43, 3), (112, .ireturn, 1)]
def cd_4 : List zSem := [sP (fIld 0), sCI 8 1 none 1, sP (fIst 2), sP (fIld 0), sCI 9 1 none 1, sP (fIst 3),
  sP (fIld 0), sCI 10 1 none 1, sP (fIst 4), sP (fIld 1), sSw [(0, 11), (1, 17), (2, 26), (3, 33)] 42, sP (fIld 2),
  sCI 194 1 none 1, sP (fIld 3), sP (fIld 4), sCI 7 3 none 3, sRet rI, sP (fIld 2),
  sP (fIld 3), sP (fCon 1), sP (fII (fun x y => x + y)), sP (fCon 8), sRI (gDiv zrem), sP (fIld 4),
  sCI 7 3 none 3, sRet rI, sP (fIld 2), sP (fCon 1), sCI 193 2 none 2, sP (fIld 3),
  sP (fIld 4), sCI 7 3 none 3, sRet rI, sP (fIld 2), sP (fIld 3), sP (fCon 0),
  sP (fIld 4), sP (fCon 1), sP (fII (fun x y => x - y)), sP (fMM zmax), sCI 7 3 none 3, sRet rI,
  sP (fIld 2), sP (fIld 3), sP (fCon 9), sP (fIld 4), sP (fCon 1), sP (fII (fun x y => x + y)),
  sP (fMM zmin), sCI 7 3 none 3, sRet rI]
set_option maxRecDepth 100000 in
theorem ck_4 : in_4.map (fun q => zsem zTb (zlk zPl_0) (ztg in_4 q.1) false q.2.1) = cd_4.map some := rfl
/-- Acts_stepsTo -/
def in_5 : List zIns := [(0, .iconst 0, 1), (1, .istore_n 2, 1), (2, .iload_n 1, 1), (3, .istore_n 3, 1), (4, .iload_n 2, 1), (5, .sipush 800, 3), (8, .if_icmp .ge 27, 3), (11, .aload_n 0, 1),
  (12, .getfield 11, 3), (15, .iload_n 3, 1), (16, .iaload, 1), (17, .ifCond .lt 18, 3), (20, .aload_n 0, 1), (21, .getfield 11, 3), (24, .iload_n 3, 1), (25, .iaload, 1),
  (26, .iconst 5, 1), (27, .idiv, 1), (28, .istore_n 3, 1), (29, .iinc 2 1, 3), (32, .goto (-28), 3), (35, .iload_n 2, 1), (36, .ireturn, 1)]
def cd_5 : List zSem := [sP (fCon 0), sP (fIst 2), sP (fIld 1), sP (fIst 3), sP (fIld 2), sP (fCon 800),
  sBr (c2 (zcI .ge)) 21, sP (fAld 0), sRR (gFR 1), sP (fIld 3), sRI gAI, sBr (c1 (zc0 .lt)) 21,
  sP (fAld 0), sRR (gFR 1), sP (fIld 3), sRI gAI, sP (fCon 5), sRI (gDiv (fun x y => x / y)),
  sP (fIst 3), sP (fInc 2 1), sGo 4, sP (fIld 2), sRet rI]
set_option maxRecDepth 100000 in
theorem ck_5 : in_5.map (fun q => zsem zTb (zlk zPl_0) (ztg in_5 q.1) false q.2.1) = cd_5.map some := rfl
/-- Acts_actAt -/
def in_6 : List zIns := [(0, .iload_n 1, 1), (1, .ifCond .lt 11, 3), (4, .iload_n 1, 1), (5, .aload_n 0, 1), (6, .getfield 18, 3), (9, .if_icmp .lt 5, 3), (12, .iconst (-1), 1), (13, .ireturn, 1),
  (14, .aload_n 0, 1), (15, .getfield 64, 3), (18, .istore_n 2, 1), (19, .aload_n 0, 1), (20, .getfield 18, 3), (23, .iconst 1, 1), (24, .isub, 1), (25, .istore_n 3, 1),
  (26, .iload_n 3, 1), (27, .iload_n 1, 1), (28, .if_icmp .le 27, 3), (31, .aload_n 0, 1), (32, .getfield 11, 3), (35, .iload_n 2, 1), (36, .iaload, 1), (37, .ifCond .lt 18, 3),
  (40, .aload_n 0, 1), (41, .getfield 11, 3), (44, .iload_n 2, 1), (45, .iaload, 1), (46, .iconst 5, 1), (47, .idiv, 1), (48, .istore_n 2, 1), (49, .iinc 3 (-1), 3),
  (52, .goto (-26), 3), (55, .aload_n 0, 1), (56, .getfield 11, 3), (59, .iload_n 2, 1), (60, .iaload, 1), (61, .ifCond .lt 14, 3), (64, .aload_n 0, 1), (65, .getfield 11, 3),
  (68, .iload_n 2, 1), (69, .iaload, 1), (70, .iconst 5, 1), (71, .irem, 1), (72, .goto 4, 3), (75, .iconst (-1), 1), (76, .ireturn, 1)]
def cd_6 : List zSem := [sP (fIld 1), sBr (c1 (zc0 .lt)) 6, sP (fIld 1), sP (fAld 0), sRI (gFI 0), sBr (c2 (zcI .lt)) 8,
  sP (fCon (-1)), sRet rI, sP (fAld 0), sRI (gFI 3), sP (fIst 2), sP (fAld 0),
  sRI (gFI 0), sP (fCon 1), sP (fII (fun x y => x - y)), sP (fIst 3), sP (fIld 3), sP (fIld 1),
  sBr (c2 (zcI .le)) 33, sP (fAld 0), sRR (gFR 1), sP (fIld 2), sRI gAI, sBr (c1 (zc0 .lt)) 33,
  sP (fAld 0), sRR (gFR 1), sP (fIld 2), sRI gAI, sP (fCon 5), sRI (gDiv (fun x y => x / y)),
  sP (fIst 2), sP (fInc 3 (-1)), sGo 16, sP (fAld 0), sRR (gFR 1), sP (fIld 2),
  sRI gAI, sBr (c1 (zc0 .lt)) 45, sP (fAld 0), sRR (gFR 1), sP (fIld 2), sRI gAI,
  sP (fCon 5), sRI (gDiv zrem), sGo 46, sP (fCon (-1)), sRet rI]
set_option maxRecDepth 100000 in
theorem ck_6 : in_6.map (fun q => zsem zTb (zlk zPl_0) (ztg in_6 q.1) false q.2.1) = cd_6.map some := rfl
/-- Acts_stateOf -/
def in_7 : List zIns := [(0, .iload_n 0, 1), (1, .bipush 8, 2), (3, .imul, 1), (4, .iload_n 1, 1), (5, .iadd, 1), (6, .bipush 10, 2), (8, .imul, 1), (9, .iload_n 2, 1),
  (10, .iadd, 1), (11, .ireturn, 1)]
def cd_7 : List zSem := [sP (fIld 0), sP (fCon 8), sP (fII (fun x y => x * y)), sP (fIld 1), sP (fII (fun x y => x + y)), sP (fCon 10),
  sP (fII (fun x y => x * y)), sP (fIld 2), sP (fII (fun x y => x + y)), sRet rI]
set_option maxRecDepth 100000 in
theorem ck_7 : in_7.map (fun q => zsem zTb (zlk zPl_0) (ztg in_7 q.1) false q.2.1) = cd_7.map some := rfl
/-- Acts_wetIn -/
def in_8 : List zIns := [(0, .iload_n 0, 1), (1, .bipush 80, 2), (3, .idiv, 1), (4, .ireturn, 1)]
def cd_8 : List zSem := [sP (fIld 0), sP (fCon 80), sRI (gDiv (fun x y => x / y)), sRet rI]
set_option maxRecDepth 100000 in
theorem ck_8 : in_8.map (fun q => zsem zTb (zlk zPl_0) (ztg in_8 q.1) false q.2.1) = cd_8.map some := rfl
/-- Acts_keyIn -/
def in_9 : List zIns := [(0, .iload_n 0, 1), (1, .bipush 10, 2), (3, .idiv, 1), (4, .bipush 8, 2), (6, .irem, 1), (7, .ireturn, 1)]
def cd_9 : List zSem := [sP (fIld 0), sP (fCon 10), sRI (gDiv (fun x y => x / y)), sP (fCon 8), sRI (gDiv zrem), sRet rI]
set_option maxRecDepth 100000 in
theorem ck_9 : in_9.map (fun q => zsem zTb (zlk zPl_0) (ztg in_9 q.1) false q.2.1) = cd_9.map some := rfl
/-- Acts_coldIn -/
def in_10 : List zIns := [(0, .iload_n 0, 1), (1, .bipush 10, 2), (3, .irem, 1), (4, .ireturn, 1)]
def cd_10 : List zSem := [sP (fIld 0), sP (fCon 10), sRI (gDiv zrem), sRet rI]
set_option maxRecDepth 100000 in
theorem ck_10 : in_10.map (fun q => zsem zTb (zlk zPl_0) (ztg in_10 q.1) false q.2.1) = cd_10.map some := rfl
/-- Course_init -/
def in_11 : List zIns := [(0, .aload_n 0, 1), (1, .invokespecial 3, 3), (4, .aload_n 0, 1), (5, .bipush 6, 2), (7, .newarray .int, 2), (9, .putfield 9, 3), (12, .aload_n 0, 1), (13, .bipush 6, 2),
  (15, .newarray .int, 2), (17, .putfield 15, 3), (20, .aload_n 0, 1), (21, .iconst 4, 1), (22, .newarray .int, 2), (24, .putfield 18, 3), (27, .aload_n 0, 1), (28, .iconst 4, 1),
  (29, .newarray .int, 2), (31, .putfield 21, 3), (34, .aload_n 0, 1), (35, .bipush 8, 2), (37, .newarray .int, 2), (39, .putfield 24, 3), (42, .aload_n 0, 1), (43, .bipush 8, 2),
  (45, .newarray .int, 2), (47, .putfield 27, 3), (50, .return_, 1)]
def cd_11 : List zSem := [sP (fAld 0), sP fObj, sP (fAld 0), sP (fCon 6), sNA (znA 0), sWr (wFR 66),
  sP (fAld 0), sP (fCon 6), sNA (znA 0), sWr (wFR 67), sP (fAld 0), sP (fCon 4),
  sNA (znA 0), sWr (wFR 68), sP (fAld 0), sP (fCon 4), sNA (znA 0), sWr (wFR 69),
  sP (fAld 0), sP (fCon 8), sNA (znA 0), sWr (wFR 70), sP (fAld 0), sP (fCon 8),
  sNA (znA 0), sWr (wFR 71), sRet rV]
set_option maxRecDepth 100000 in
theorem ck_11 : in_11.map (fun q => zsem zTb (zlk zPl_1) (ztg in_11 q.1) false q.2.1) = cd_11.map some := rfl
/-- Course_begin -/
def in_12 : List zIns := [(0, .aload_n 1, 1), (1, .getfield 30, 3), (4, .iconst 0, 1), (5, .aload_n 0, 1), (6, .getfield 9, 3), (9, .iconst 0, 1), (10, .bipush 6, 2), (12, .invokestatic 33, 3),
  (15, .aload_n 1, 1), (16, .getfield 39, 3), (19, .iconst 0, 1), (20, .aload_n 0, 1), (21, .getfield 15, 3), (24, .iconst 0, 1), (25, .bipush 6, 2), (27, .invokestatic 33, 3),
  (30, .aload_n 0, 1), (31, .getfield 18, 3), (34, .iconst 0, 1), (35, .invokestatic 40, 3), (38, .aload_n 0, 1), (39, .getfield 21, 3), (42, .iconst 0, 1), (43, .invokestatic 40, 3),
  (46, .aload_n 0, 1), (47, .getfield 24, 3), (50, .iconst 0, 1), (51, .invokestatic 40, 3), (54, .aload_n 0, 1), (55, .getfield 27, 3), (58, .iconst (-1), 1), (59, .invokestatic 40, 3),
  (62, .aload_n 0, 1), (63, .iconst 0, 1), (64, .putfield 46, 3), (67, .aload_n 0, 1), (68, .iconst (-1), 1), (69, .putfield 50, 3), (72, .aload_n 0, 1), (73, .iconst 0, 1),
  (74, .putfield 53, 3), (77, .aload_n 0, 1), (78, .iconst 0, 1), (79, .putfield 56, 3), (82, .aload_n 0, 1), (83, .iconst 0, 1), (84, .putfield 59, 3), (87, .aload_n 0, 1),
  (88, .iconst 0, 1), (89, .putfield 62, 3), (92, .aload_n 0, 1), (93, .iconst 0, 1), (94, .putfield 65, 3), (97, .aload_n 0, 1), (98, .iconst 0, 1), (99, .putfield 68, 3),
  (102, .aload_n 0, 1), (103, .aload_n 1, 1), (104, .getfield 71, 3), (107, .putfield 74, 3), (110, .aload_n 0, 1), (111, .iconst (-1), 1), (112, .putfield 75, 3), (115, .return_, 1)]
def cd_12 : List zSem := [sP (fAld 1), sRR (gFR 132), sP (fCon 0), sP (fAld 0), sRR (gFR 66), sP (fCon 0),
  sP (fCon 6), sWr wCp, sP (fAld 1), sRR (gFR 133), sP (fCon 0), sP (fAld 0),
  sRR (gFR 67), sP (fCon 0), sP (fCon 6), sWr wCp, sP (fAld 0), sRR (gFR 68),
  sP (fCon 0), sCV 324 2 none 4, sP (fAld 0), sRR (gFR 69), sP (fCon 0), sCV 324 2 none 4,
  sP (fAld 0), sRR (gFR 70), sP (fCon 0), sCV 324 2 none 4, sP (fAld 0), sRR (gFR 71),
  sP (fCon (-1)), sCV 324 2 none 4, sP (fAld 0), sP (fCon 0), sWr (wFI 64), sP (fAld 0),
  sP (fCon (-1)), sWr (wFI 65), sP (fAld 0), sP (fCon 0), sWr (wFI 72), sP (fAld 0),
  sP (fCon 0), sWr (wFI 73), sP (fAld 0), sP (fCon 0), sWr (wFI 74), sP (fAld 0),
  sP (fCon 0), sWr (wFI 75), sP (fAld 0), sP (fCon 0), sWr (wFI 76), sP (fAld 0),
  sP (fCon 0), sWr (wFI 77), sP (fAld 0), sP (fAld 1), sRI (gFI 131), sWr (wFI 78),
  sP (fAld 0), sP (fCon (-1)), sWr (wFI 79), sRet rV]
set_option maxRecDepth 100000 in
theorem ck_12 : in_12.map (fun q => zsem zTb (zlk zPl_1) (ztg in_12 q.1) false q.2.1) = cd_12.map some := rfl
/-- Course_run -/
def in_13 : List zIns := [(0, .aload_n 0, 1), (1, .aload_n 1, 1), (2, .invokevirtual 78, 3), (5, .iconst 0, 1), (6, .istore 4, 2), (8, .iload 4, 2), (10, .iload_n 3, 1), (11, .if_icmp .ge 40, 3),
  (14, .iload 4, 2), (16, .aload_n 2, 1), (17, .getfield 82, 3), (20, .if_icmp .ge 31, 3), (23, .aload_n 0, 1), (24, .aload_n 1, 1), (25, .aload_n 2, 1), (26, .iload 4, 2),
  (28, .invokevirtual 87, 3), (31, .ifCond .ne 4, 3), (34, .return_, 1), (35, .aload_n 0, 1), (36, .dup, 1), (37, .getfield 46, 3), (40, .iconst 1, 1), (41, .iadd, 1),
  (42, .putfield 46, 3), (45, .iinc 4 1, 3), (48, .goto (-40), 3), (51, .return_, 1)]
def cd_13 : List zSem := [sP (fAld 0), sP (fAld 1), sCV 12 2 (some 1) 2, sP (fCon 0), sP (fIst 4), sP (fIld 4),
  sP (fIld 3), sBr (c2 (zcI .ge)) 27, sP (fIld 4), sP (fAld 2), sRI (gFI 640), sBr (c2 (zcI .ge)) 27,
  sP (fAld 0), sP (fAld 1), sP (fAld 2), sP (fIld 4), sCI 14 4 (some 1) 7, sBr (c1 (zc0 .ne)) 19,
  sRet rV, sP (fAld 0), sP fDup, sRI (gFI 64), sP (fCon 1), sP (fII (fun x y => x + y)),
  sWr (wFI 64), sP (fInc 4 1), sGo 5, sRet rV]
set_option maxRecDepth 100000 in
theorem ck_13 : in_13.map (fun q => zsem zTb (zlk zPl_1) (ztg in_13 q.1) false q.2.1) = cd_13.map some := rfl
/-- Course_apply -/
def in_14 : List zIns := [(0, .aload_n 2, 1), (1, .iload_n 3, 1), (2, .iconst 1, 1), (3, .invokevirtual 91, 3), (6, .istore 4, 2), (8, .aload_n 2, 1), (9, .iload_n 3, 1), (10, .iconst 2, 1),
  (11, .invokevirtual 91, 3), (14, .istore 5, 2), (16, .aload_n 2, 1), (17, .iload_n 3, 1), (18, .iconst 3, 1), (19, .invokevirtual 91, 3), (22, .istore 6, 2), (24, .aload_n 2, 1),
  (25, .iload_n 3, 1), (26, .iconst 0, 1), (27, .invokevirtual 91, 3), (30, .tableswitch 89 0 5 #[38, 50, 58, 66, 74, 82], 38), (68, .aload_n 0, 1), (69, .aload_n 1, 1), (70, .iload 4, 2), (72, .iload 5, 2),
  (74, .iload 6, 2), (76, .invokevirtual 95, 3), (79, .ireturn, 1), (80, .aload_n 0, 1), (81, .aload_n 1, 1), (82, .aload_n 2, 1), (83, .iload_n 3, 1), (84, .invokevirtual 99, 3),
  (87, .ireturn, 1), (88, .aload_n 0, 1), (89, .aload_n 1, 1), (90, .iload 4, 2), (92, .invokevirtual 102, 3), (95, .ireturn, 1), (96, .aload_n 0, 1), (97, .aload_n 1, 1),
  (98, .iload 4, 2), (100, .invokevirtual 106, 3), (103, .ireturn, 1), (104, .aload_n 0, 1), (105, .iload 4, 2), (107, .putfield 74, 3), (110, .iconst 1, 1), (111, .ireturn, 1),
  (112, .aload_n 0, 1), (113, .aload_n 1, 1), (114, .invokevirtual 109, 3), (117, .iconst 1, 1), (118, .ireturn, 1), (119, .iconst 0, 1), (120, .ireturn, 1)]
def cd_14 : List zSem := [sP (fAld 2), sP (fIld 3), sP (fCon 1), sCI 147 3 (some 10) 3, sP (fIst 4), sP (fAld 2),
  sP (fIld 3), sP (fCon 2), sCI 147 3 (some 10) 3, sP (fIst 5), sP (fAld 2), sP (fIld 3),
  sP (fCon 3), sCI 147 3 (some 10) 3, sP (fIst 6), sP (fAld 2), sP (fIld 3), sP (fCon 0),
  sCI 147 3 (some 10) 3, sSw [(0, 20), (1, 27), (2, 33), (3, 38), (4, 43), (5, 48)] 53, sP (fAld 0), sP (fAld 1), sP (fIld 4), sP (fIld 5),
  sP (fIld 6), sCI 17 5 (some 1) 6, sRz, sP (fAld 0), sP (fAld 1), sP (fAld 2),
  sP (fIld 3), sCI 18 4 (some 1) 11, sRz, sP (fAld 0), sP (fAld 1), sP (fIld 4),
  sCI 21 3 (some 1) 3, sRz, sP (fAld 0), sP (fAld 1), sP (fIld 4), sCI 22 3 (some 1) 3,
  sRz, sP (fAld 0), sP (fIld 4), sWr (wFI 78), sP (fCon 1), sRz,
  sP (fAld 0), sP (fAld 1), sCV 23 2 (some 1) 3, sP (fCon 1), sRz, sP (fCon 0),
  sRz]
set_option maxRecDepth 100000 in
theorem ck_14 : in_14.map (fun q => zsem zTb (zlk zPl_1) (ztg in_14 q.1) true q.2.1) = cd_14.map some := rfl
/-- Course_isSound -/
def in_15 : List zIns := [(0, .aload_n 1, 1), (1, .iload_n 2, 1), (2, .invokevirtual 112, 3), (5, .ifCond .eq 18, 3), (8, .aload_n 0, 1), (9, .getfield 53, 3), (12, .iload_n 2, 1), (13, .ishr, 1),
  (14, .iconst 1, 1), (15, .iand, 1), (16, .ifCond .ne 7, 3), (19, .iconst 1, 1), (20, .goto 4, 3), (23, .iconst 0, 1), (24, .ireturn, 1)]
def cd_15 : List zSem := [sP (fAld 1), sP (fIld 2), sCI 39 2 (some 2) 2, sBr (c1 (zc0 .eq)) 13, sP (fAld 0), sRI (gFI 72),
  sP (fIld 2), sP (fII zshr), sP (fCon 1), sP (fII (fun x y => x &&& y)), sBr (c1 (zc0 .ne)) 13, sP (fCon 1),
  sGo 14, sP (fCon 0), sRz]
set_option maxRecDepth 100000 in
theorem ck_15 : in_15.map (fun q => zsem zTb (zlk zPl_1) (ztg in_15 q.1) true q.2.1) = cd_15.map some := rfl
/-- Course_mayPlay -/
def in_16 : List zIns := [(0, .aload_n 1, 1), (1, .iload_n 2, 1), (2, .invokevirtual 116, 3), (5, .ifCond .eq 17, 3), (8, .aload_n 0, 1), (9, .getfield 18, 3), (12, .iload_n 2, 1), (13, .iaload, 1),
  (14, .iconst 3, 1), (15, .if_icmp .ge 7, 3), (18, .iconst 1, 1), (19, .goto 4, 3), (22, .iconst 0, 1), (23, .ireturn, 1)]
def cd_16 : List zSem := [sP (fAld 1), sP (fIld 2), sCI 40 2 (some 2) 2, sBr (c1 (zc0 .eq)) 12, sP (fAld 0), sRR (gFR 68),
  sP (fIld 2), sRI gAI, sP (fCon 3), sBr (c2 (zcI .ge)) 12, sP (fCon 1), sGo 13,
  sP (fCon 0), sRz]
set_option maxRecDepth 100000 in
theorem ck_16 : in_16.map (fun q => zsem zTb (zlk zPl_1) (ztg in_16 q.1) true q.2.1) = cd_16.map some := rfl
/-- Course_ask -/
def in_17 : List zIns := [(0, .aload_n 0, 1), (1, .aload_n 1, 1), (2, .iload_n 2, 1), (3, .invokevirtual 119, 3), (6, .ifCond .eq 21, 3), (9, .aload_n 0, 1), (10, .aload_n 1, 1), (11, .iload_n 3, 1),
  (12, .invokevirtual 122, 3), (15, .ifCond .eq 12, 3), (18, .aload_n 1, 1), (19, .iload 4, 2), (21, .invokevirtual 125, 3), (24, .ifCond .ne 5, 3), (27, .iconst 0, 1), (28, .ireturn, 1),
  (29, .aload_n 0, 1), (30, .aload_n 0, 1), (31, .aload_n 1, 1), (32, .iload_n 2, 1), (33, .iload_n 3, 1), (34, .iload 4, 2), (36, .invokevirtual 128, 3), (39, .putfield 75, 3),
  (42, .aload_n 0, 1), (43, .getfield 24, 3), (46, .iload 4, 2), (48, .dup2, 1), (49, .iaload, 1), (50, .iconst 1, 1), (51, .iadd, 1), (52, .iastore, 1),
  (53, .aload_n 0, 1), (54, .getfield 75, 3), (57, .iconst (-1), 1), (58, .if_icmp .ne 13, 3), (61, .aload_n 0, 1), (62, .dup, 1), (63, .getfield 68, 3), (66, .iconst 1, 1),
  (67, .iadd, 1), (68, .putfield 68, 3), (71, .aload_n 0, 1), (72, .getfield 75, 3), (75, .ifCond .ne 13, 3), (78, .aload_n 0, 1), (79, .dup, 1), (80, .getfield 59, 3),
  (83, .iconst 1, 1), (84, .iadd, 1), (85, .putfield 59, 3), (88, .aload_n 1, 1), (89, .aload_n 0, 1), (90, .getfield 75, 3), (93, .invokevirtual 132, 3), (96, .istore 5, 2),
  (98, .iload 5, 2), (100, .iconst 1, 1), (101, .if_icmp .eq 8, 3), (104, .iload 5, 2), (106, .ifCond .ne 32, 3), (109, .iload 5, 2), (111, .aload_n 0, 1), (112, .getfield 27, 3),
  (115, .iload 4, 2), (117, .iaload, 1), (118, .invokestatic 136, 3), (121, .ifCond .eq 8, 3), (124, .aload_n 0, 1), (125, .iload_n 2, 1), (126, .invokevirtual 140, 3), (129, .aload_n 0, 1),
  (130, .getfield 27, 3), (133, .iload 4, 2), (135, .iload 5, 2), (137, .iastore, 1), (138, .iconst 1, 1), (139, .ireturn, 1)]
def cd_17 : List zSem := [sP (fAld 0), sP (fAld 1), sP (fIld 2), sCI 15 3 (some 1) 3, sBr (c1 (zc0 .eq)) 14, sP (fAld 0),
  sP (fAld 1), sP (fIld 3), sCI 16 3 (some 1) 3, sBr (c1 (zc0 .eq)) 14, sP (fAld 1), sP (fIld 4),
  sCI 41 2 (some 2) 2, sBr (c1 (zc0 .ne)) 16, sP (fCon 0), sRz, sP (fAld 0), sP (fAld 0),
  sP (fAld 1), sP (fIld 2), sP (fIld 3), sP (fIld 4), sCI 19 5 (some 1) 6, sWr (wFI 79),
  sP (fAld 0), sRR (gFR 70), sP (fIld 4), sP fDup2, sRI gAI, sP (fCon 1),
  sP (fII (fun x y => x + y)), sWr wAI, sP (fAld 0), sRI (gFI 79), sP (fCon (-1)), sBr (c2 (zcI .ne)) 42,
  sP (fAld 0), sP fDup, sRI (gFI 77), sP (fCon 1), sP (fII (fun x y => x + y)), sWr (wFI 77),
  sP (fAld 0), sRI (gFI 79), sBr (c1 (zc0 .ne)) 51, sP (fAld 0), sP fDup, sRI (gFI 74),
  sP (fCon 1), sP (fII (fun x y => x + y)), sWr (wFI 74), sP (fAld 1), sP (fAld 0), sRI (gFI 79),
  sCI 50 2 (some 2) 2, sP (fIst 5), sP (fIld 5), sP (fCon 1), sBr (c2 (zcI .eq)) 61, sP (fIld 5),
  sBr (c1 (zc0 .ne)) 76, sP (fIld 5), sP (fAld 0), sRR (gFR 71), sP (fIld 4), sRI gAI,
  sCI 195 2 none 2, sBr (c1 (zc0 .eq)) 71, sP (fAld 0), sP (fIld 2), sCV 20 2 (some 1) 2, sP (fAld 0),
  sRR (gFR 71), sP (fIld 4), sP (fIld 5), sWr wAI, sP (fCon 1), sRz]
set_option maxRecDepth 100000 in
theorem ck_17 : in_17.map (fun q => zsem zTb (zlk zPl_1) (ztg in_17 q.1) true q.2.1) = cd_17.map some := rfl
/-- Course_duet -/
def in_18 : List zIns := [(0, .aload_n 2, 1), (1, .iload_n 3, 1), (2, .iconst 1, 1), (3, .invokevirtual 91, 3), (6, .istore 4, 2), (8, .aload_n 2, 1), (9, .iload_n 3, 1), (10, .iconst 2, 1),
  (11, .invokevirtual 91, 3), (14, .istore 5, 2), (16, .aload_n 2, 1), (17, .iload_n 3, 1), (18, .iconst 3, 1), (19, .invokevirtual 91, 3), (22, .istore 6, 2), (24, .aload_n 2, 1),
  (25, .iload_n 3, 1), (26, .iconst 4, 1), (27, .invokevirtual 91, 3), (30, .istore 7, 2), (32, .aload_n 2, 1), (33, .iload_n 3, 1), (34, .iconst 5, 1), (35, .invokevirtual 91, 3),
  (38, .istore 8, 2), (40, .aload_n 0, 1), (41, .aload_n 1, 1), (42, .iload 4, 2), (44, .invokevirtual 119, 3), (47, .ifCond .eq 33, 3), (50, .aload_n 0, 1), (51, .aload_n 1, 1),
  (52, .iload 5, 2), (54, .invokevirtual 119, 3), (57, .ifCond .eq 23, 3), (60, .aload_n 0, 1), (61, .aload_n 1, 1), (62, .iload 6, 2), (64, .invokevirtual 122, 3), (67, .ifCond .eq 13, 3),
  (70, .aload_n 0, 1), (71, .aload_n 1, 1), (72, .iload 7, 2), (74, .invokevirtual 122, 3), (77, .ifCond .ne 5, 3), (80, .iconst 0, 1), (81, .ireturn, 1), (82, .aload_n 1, 1),
  (83, .iload 8, 2), (85, .invokevirtual 125, 3), (88, .ifCond .ne 5, 3), (91, .iconst 0, 1), (92, .ireturn, 1), (93, .aload_n 0, 1), (94, .getfield 24, 3), (97, .iload 8, 2),
  (99, .dup2, 1), (100, .iaload, 1), (101, .iconst 1, 1), (102, .iadd, 1), (103, .iastore, 1), (104, .aload_n 1, 1), (105, .aload_n 0, 1), (106, .aload_n 1, 1),
  (107, .iload 4, 2), (109, .iload 6, 2), (111, .iload 8, 2), (113, .invokevirtual 128, 3), (116, .invokevirtual 132, 3), (119, .istore 9, 2), (121, .aload_n 1, 1), (122, .aload_n 0, 1),
  (123, .aload_n 1, 1), (124, .iload 5, 2), (126, .iload 7, 2), (128, .iload 8, 2), (130, .invokevirtual 128, 3), (133, .invokevirtual 132, 3), (136, .istore 10, 2), (138, .iload 9, 2),
  (140, .iconst (-1), 1), (141, .if_icmp .eq 23, 3), (144, .iload 9, 2), (146, .iload 10, 2), (148, .if_icmp .ne 16, 3), (151, .aload_n 0, 1), (152, .dup, 1), (153, .getfield 62, 3),
  (156, .iconst 1, 1), (157, .iadd, 1), (158, .putfield 62, 3), (161, .goto 23, 3), (164, .iload 9, 2), (166, .iload 10, 2), (168, .invokestatic 136, 3), (171, .ifCond .eq 13, 3),
  (174, .aload_n 0, 1), (175, .dup, 1), (176, .getfield 65, 3), (179, .iconst 1, 1), (180, .iadd, 1), (181, .putfield 65, 3), (184, .iconst 1, 1), (185, .ireturn, 1)]
def cd_18 : List zSem := [sP (fAld 2), sP (fIld 3), sP (fCon 1), sCI 147 3 (some 10) 3, sP (fIst 4), sP (fAld 2),
  sP (fIld 3), sP (fCon 2), sCI 147 3 (some 10) 3, sP (fIst 5), sP (fAld 2), sP (fIld 3),
  sP (fCon 3), sCI 147 3 (some 10) 3, sP (fIst 6), sP (fAld 2), sP (fIld 3), sP (fCon 4),
  sCI 147 3 (some 10) 3, sP (fIst 7), sP (fAld 2), sP (fIld 3), sP (fCon 5), sCI 147 3 (some 10) 3,
  sP (fIst 8), sP (fAld 0), sP (fAld 1), sP (fIld 4), sCI 15 3 (some 1) 3, sBr (c1 (zc0 .eq)) 45,
  sP (fAld 0), sP (fAld 1), sP (fIld 5), sCI 15 3 (some 1) 3, sBr (c1 (zc0 .eq)) 45, sP (fAld 0),
  sP (fAld 1), sP (fIld 6), sCI 16 3 (some 1) 3, sBr (c1 (zc0 .eq)) 45, sP (fAld 0), sP (fAld 1),
  sP (fIld 7), sCI 16 3 (some 1) 3, sBr (c1 (zc0 .ne)) 47, sP (fCon 0), sRz, sP (fAld 1),
  sP (fIld 8), sCI 41 2 (some 2) 2, sBr (c1 (zc0 .ne)) 53, sP (fCon 0), sRz, sP (fAld 0),
  sRR (gFR 70), sP (fIld 8), sP fDup2, sRI gAI, sP (fCon 1), sP (fII (fun x y => x + y)),
  sWr wAI, sP (fAld 1), sP (fAld 0), sP (fAld 1), sP (fIld 4), sP (fIld 6),
  sP (fIld 8), sCI 19 5 (some 1) 6, sCI 50 2 (some 2) 2, sP (fIst 9), sP (fAld 1), sP (fAld 0),
  sP (fAld 1), sP (fIld 5), sP (fIld 7), sP (fIld 8), sCI 19 5 (some 1) 6, sCI 50 2 (some 2) 2,
  sP (fIst 10), sP (fIld 9), sP (fCon (-1)), sBr (c2 (zcI .eq)) 92, sP (fIld 9), sP (fIld 10),
  sBr (c2 (zcI .ne)) 92, sP (fAld 0), sP fDup, sRI (gFI 75), sP (fCon 1), sP (fII (fun x y => x + y)),
  sWr (wFI 75), sGo 102, sP (fIld 9), sP (fIld 10), sCI 195 2 none 2, sBr (c1 (zc0 .eq)) 102,
  sP (fAld 0), sP fDup, sRI (gFI 76), sP (fCon 1), sP (fII (fun x y => x + y)), sWr (wFI 76),
  sP (fCon 1), sRz]
set_option maxRecDepth 100000 in
theorem ck_18 : in_18.map (fun q => zsem zTb (zlk zPl_1) (ztg in_18 q.1) true q.2.1) = cd_18.map some := rfl
/-- Course_blow -/
def in_19 : List zIns := [(0, .aload_n 1, 1), (1, .aload_n 0, 1), (2, .getfield 9, 3), (5, .iload_n 2, 1), (6, .iaload, 1), (7, .aload_n 0, 1), (8, .getfield 15, 3), (11, .iload_n 2, 1),
  (12, .iaload, 1), (13, .aload_n 0, 1), (14, .getfield 74, 3), (17, .iload_n 3, 1), (18, .iload 4, 2), (20, .invokevirtual 144, 3), (23, .istore 5, 2), (25, .aload_n 0, 1),
  (26, .getfield 9, 3), (29, .iload_n 2, 1), (30, .aload_n 0, 1), (31, .getfield 9, 3), (34, .iload_n 2, 1), (35, .iaload, 1), (36, .iconst 1, 1), (37, .invokestatic 148, 3),
  (40, .iastore, 1), (41, .aload_n 0, 1), (42, .getfield 18, 3), (45, .iload_n 3, 1), (46, .dup2, 1), (47, .iaload, 1), (48, .iconst 1, 1), (49, .iadd, 1),
  (50, .iastore, 1), (51, .aload_n 0, 1), (52, .getfield 21, 3), (55, .iload_n 3, 1), (56, .dup2, 1), (57, .iaload, 1), (58, .iconst 1, 1), (59, .iadd, 1),
  (60, .iastore, 1), (61, .iload 5, 2), (63, .ireturn, 1)]
def cd_19 : List zSem := [sP (fAld 1), sP (fAld 0), sRR (gFR 66), sP (fIld 2), sRI gAI, sP (fAld 0),
  sRR (gFR 67), sP (fIld 2), sRI gAI, sP (fAld 0), sRI (gFI 78), sP (fIld 3),
  sP (fIld 4), sCI 47 6 (some 2) 7, sP (fIst 5), sP (fAld 0), sRR (gFR 66), sP (fIld 2),
  sP (fAld 0), sRR (gFR 66), sP (fIld 2), sRI gAI, sP (fCon 1), sCI 193 2 none 2,
  sWr wAI, sP (fAld 0), sRR (gFR 68), sP (fIld 3), sP fDup2, sRI gAI,
  sP (fCon 1), sP (fII (fun x y => x + y)), sWr wAI, sP (fAld 0), sRR (gFR 69), sP (fIld 3),
  sP fDup2, sRI gAI, sP (fCon 1), sP (fII (fun x y => x + y)), sWr wAI, sP (fIld 5),
  sRet rI]
set_option maxRecDepth 100000 in
theorem ck_19 : in_19.map (fun q => zsem zTb (zlk zPl_1) (ztg in_19 q.1) false q.2.1) = cd_19.map some := rfl
/-- Course_crack -/
def in_20 : List zIns := [(0, .aload_n 0, 1), (1, .getfield 53, 3), (4, .ifCond .ne 11, 3), (7, .aload_n 0, 1), (8, .aload_n 0, 1), (9, .getfield 46, 3), (12, .putfield 50, 3), (15, .aload_n 0, 1),
  (16, .dup, 1), (17, .getfield 53, 3), (20, .iconst 1, 1), (21, .iload_n 1, 1), (22, .ishl, 1), (23, .ior, 1), (24, .putfield 53, 3), (27, .return_, 1)]
def cd_20 : List zSem := [sP (fAld 0), sRI (gFI 72), sBr (c1 (zc0 .ne)) 7, sP (fAld 0), sP (fAld 0), sRI (gFI 64),
  sWr (wFI 65), sP (fAld 0), sP fDup, sRI (gFI 72), sP (fCon 1), sP (fIld 1),
  sP (fII zshl), sP (fII (fun x y => x ||| y)), sWr (wFI 72), sRet rV]
set_option maxRecDepth 100000 in
theorem ck_20 : in_20.map (fun q => zsem zTb (zlk zPl_1) (ztg in_20 q.1) false q.2.1) = cd_20.map some := rfl
/-- Course_moisten -/
def in_21 : List zIns := [(0, .aload_n 0, 1), (1, .aload_n 1, 1), (2, .iload_n 2, 1), (3, .invokevirtual 119, 3), (6, .ifCond .ne 5, 3), (9, .iconst 0, 1), (10, .ireturn, 1), (11, .aload_n 0, 1),
  (12, .getfield 9, 3), (15, .iload_n 2, 1), (16, .aload_n 0, 1), (17, .getfield 9, 3), (20, .iload_n 2, 1), (21, .iaload, 1), (22, .invokestatic 151, 3), (25, .iastore, 1),
  (26, .iconst 1, 1), (27, .ireturn, 1)]
def cd_21 : List zSem := [sP (fAld 0), sP (fAld 1), sP (fIld 2), sCI 15 3 (some 1) 3, sBr (c1 (zc0 .ne)) 7, sP (fCon 0),
  sRz, sP (fAld 0), sRR (gFR 66), sP (fIld 2), sP (fAld 0), sRR (gFR 66),
  sP (fIld 2), sRI gAI, sCI 194 1 none 1, sWr wAI, sP (fCon 1), sRz]
set_option maxRecDepth 100000 in
theorem ck_21 : in_21.map (fun q => zsem zTb (zlk zPl_1) (ztg in_21 q.1) true q.2.1) = cd_21.map some := rfl
/-- Course_trim -/
def in_22 : List zIns := [(0, .aload_n 0, 1), (1, .aload_n 1, 1), (2, .iload_n 2, 1), (3, .invokevirtual 119, 3), (6, .ifCond .ne 5, 3), (9, .iconst 0, 1), (10, .ireturn, 1), (11, .aload_n 0, 1),
  (12, .getfield 15, 3), (15, .iload_n 2, 1), (16, .aload_n 0, 1), (17, .getfield 15, 3), (20, .iload_n 2, 1), (21, .iaload, 1), (22, .iconst 1, 1), (23, .iadd, 1),
  (24, .bipush 8, 2), (26, .irem, 1), (27, .iastore, 1), (28, .iconst 1, 1), (29, .ireturn, 1)]
def cd_22 : List zSem := [sP (fAld 0), sP (fAld 1), sP (fIld 2), sCI 15 3 (some 1) 3, sBr (c1 (zc0 .ne)) 7, sP (fCon 0),
  sRz, sP (fAld 0), sRR (gFR 67), sP (fIld 2), sP (fAld 0), sRR (gFR 67),
  sP (fIld 2), sRI gAI, sP (fCon 1), sP (fII (fun x y => x + y)), sP (fCon 8), sRI (gDiv zrem),
  sWr wAI, sP (fCon 1), sRz]
set_option maxRecDepth 100000 in
theorem ck_22 : in_22.map (fun q => zsem zTb (zlk zPl_1) (ztg in_22 q.1) true q.2.1) = cd_22.map some := rfl
/-- Course_sleep -/
def in_23 : List zIns := [(0, .aload_n 0, 1), (1, .dup, 1), (2, .getfield 56, 3), (5, .iconst 1, 1), (6, .iadd, 1), (7, .putfield 56, 3), (10, .iconst 0, 1), (11, .istore_n 2, 1),
  (12, .iload_n 2, 1), (13, .aload_n 1, 1), (14, .getfield 154, 3), (17, .if_icmp .ge 25, 3), (20, .aload_n 0, 1), (21, .getfield 9, 3), (24, .iload_n 2, 1), (25, .aload_n 0, 1),
  (26, .getfield 9, 3), (29, .iload_n 2, 1), (30, .iaload, 1), (31, .iconst 1, 1), (32, .invokestatic 148, 3), (35, .iastore, 1), (36, .iinc 2 1, 3), (39, .goto (-27), 3),
  (42, .aload_n 0, 1), (43, .getfield 18, 3), (46, .iconst 0, 1), (47, .invokestatic 40, 3), (50, .return_, 1)]
def cd_23 : List zSem := [sP (fAld 0), sP fDup, sRI (gFI 73), sP (fCon 1), sP (fII (fun x y => x + y)), sWr (wFI 73),
  sP (fCon 0), sP (fIst 2), sP (fIld 2), sP (fAld 1), sRI (gFI 128), sBr (c2 (zcI .ge)) 24,
  sP (fAld 0), sRR (gFR 66), sP (fIld 2), sP (fAld 0), sRR (gFR 66), sP (fIld 2),
  sRI gAI, sP (fCon 1), sCI 193 2 none 2, sWr wAI, sP (fInc 2 1), sGo 8,
  sP (fAld 0), sRR (gFR 68), sP (fCon 0), sCV 324 2 none 4, sRet rV]
set_option maxRecDepth 100000 in
theorem ck_23 : in_23.map (fun q => zsem zTb (zlk zPl_1) (ztg in_23 q.1) false q.2.1) = cd_23.map some := rfl
/-- Course_draw -/
def in_24 : List zIns := [(0, .aload_n 0, 1), (1, .aload_n 1, 1), (2, .invokevirtual 78, 3), (5, .aload_n 0, 1), (6, .iload_n 2, 1), (7, .putfield 157, 3), (10, .iconst 0, 1), (11, .istore 4, 2),
  (13, .iload 4, 2), (15, .iload_n 3, 1), (16, .if_icmp .ge 14, 3), (19, .aload_n 0, 1), (20, .aload_n 1, 1), (21, .invokevirtual 160, 3), (24, .iinc 4 1, 3), (27, .goto (-14), 3),
  (30, .return_, 1)]
def cd_24 : List zSem := [sP (fAld 0), sP (fAld 1), sCV 12 2 (some 1) 2, sP (fAld 0), sP (fIld 2), sWr (wFI 80),
  sP (fCon 0), sP (fIst 4), sP (fIld 4), sP (fIld 3), sBr (c2 (zcI .ge)) 16, sP (fAld 0),
  sP (fAld 1), sCV 25 2 (some 1) 5, sP (fInc 4 1), sGo 8, sRet rV]
set_option maxRecDepth 100000 in
theorem ck_24 : in_24.map (fun q => zsem zTb (zlk zPl_1) (ztg in_24 q.1) false q.2.1) = cd_24.map some := rfl
/-- Course_drawDeed -/
def in_25 : List zIns := [(0, .aload_n 0, 1), (1, .bipush 8, 2), (3, .invokevirtual 163, 3), (6, .istore_n 2, 1), (7, .iload_n 2, 1), (8, .bipush 7, 2), (10, .if_icmp .ne 11, 3), (13, .aload_n 0, 1),
  (14, .aload_n 1, 1), (15, .invokevirtual 109, 3), (18, .goto 137, 3), (21, .iload_n 2, 1), (22, .bipush 6, 2), (24, .if_icmp .ne 16, 3), (27, .aload_n 0, 1), (28, .aload_n 0, 1),
  (29, .bipush 10, 2), (31, .invokevirtual 163, 3), (34, .putfield 74, 3), (37, .goto 118, 3), (40, .aload_n 1, 1), (41, .getfield 154, 3), (44, .ifCond .le 25, 3), (47, .iload_n 2, 1),
  (48, .iconst 5, 1), (49, .if_icmp .ne 20, 3), (52, .aload_n 0, 1), (53, .aload_n 1, 1), (54, .aload_n 0, 1), (55, .aload_n 1, 1), (56, .getfield 154, 3), (59, .invokevirtual 163, 3),
  (62, .invokevirtual 106, 3), (65, .pop, 1), (66, .goto 89, 3), (69, .aload_n 1, 1), (70, .getfield 154, 3), (73, .ifCond .le 25, 3), (76, .iload_n 2, 1), (77, .iconst 4, 1),
  (78, .if_icmp .ne 20, 3), (81, .aload_n 0, 1), (82, .aload_n 1, 1), (83, .aload_n 0, 1), (84, .aload_n 1, 1), (85, .getfield 154, 3), (88, .invokevirtual 163, 3), (91, .invokevirtual 102, 3),
  (94, .pop, 1), (95, .goto 60, 3), (98, .aload_n 1, 1), (99, .getfield 154, 3), (102, .ifCond .le 53, 3), (105, .aload_n 1, 1), (106, .getfield 166, 3), (109, .ifCond .le 46, 3),
  (112, .aload_n 1, 1), (113, .getfield 169, 3), (116, .ifCond .le 39, 3), (119, .aload_n 0, 1), (120, .aload_n 1, 1), (121, .getfield 154, 3), (124, .invokevirtual 163, 3), (127, .istore_n 3, 1),
  (128, .aload_n 0, 1), (129, .aload_n 1, 1), (130, .getfield 166, 3), (133, .invokevirtual 163, 3), (136, .istore 4, 2), (138, .aload_n 0, 1), (139, .aload_n 1, 1), (140, .iload_n 3, 1),
  (141, .iload 4, 2), (143, .aload_n 0, 1), (144, .aload_n 1, 1), (145, .getfield 169, 3), (148, .invokevirtual 163, 3), (151, .invokevirtual 95, 3), (154, .pop, 1), (155, .return_, 1)]
def cd_25 : List zSem := [sP (fAld 0), sP (fCon 8), sCI 26 2 (some 1) 2, sP (fIst 2), sP (fIld 2), sP (fCon 7),
  sBr (c2 (zcI .ne)) 11, sP (fAld 0), sP (fAld 1), sCV 23 2 (some 1) 3, sGo 79, sP (fIld 2),
  sP (fCon 6), sBr (c2 (zcI .ne)) 20, sP (fAld 0), sP (fAld 0), sP (fCon 10), sCI 26 2 (some 1) 2,
  sWr (wFI 78), sGo 79, sP (fAld 1), sRI (gFI 128), sBr (c1 (zc0 .le)) 35, sP (fIld 2),
  sP (fCon 5), sBr (c2 (zcI .ne)) 35, sP (fAld 0), sP (fAld 1), sP (fAld 0), sP (fAld 1),
  sRI (gFI 128), sCI 26 2 (some 1) 2, sCI 22 3 (some 1) 3, sP fPop, sGo 79, sP (fAld 1),
  sRI (gFI 128), sBr (c1 (zc0 .le)) 50, sP (fIld 2), sP (fCon 4), sBr (c2 (zcI .ne)) 50, sP (fAld 0),
  sP (fAld 1), sP (fAld 0), sP (fAld 1), sRI (gFI 128), sCI 26 2 (some 1) 2, sCI 21 3 (some 1) 3,
  sP fPop, sGo 79, sP (fAld 1), sRI (gFI 128), sBr (c1 (zc0 .le)) 79, sP (fAld 1),
  sRI (gFI 129), sBr (c1 (zc0 .le)) 79, sP (fAld 1), sRI (gFI 130), sBr (c1 (zc0 .le)) 79, sP (fAld 0),
  sP (fAld 1), sRI (gFI 128), sCI 26 2 (some 1) 2, sP (fIst 3), sP (fAld 0), sP (fAld 1),
  sRI (gFI 129), sCI 26 2 (some 1) 2, sP (fIst 4), sP (fAld 0), sP (fAld 1), sP (fIld 3),
  sP (fIld 4), sP (fAld 0), sP (fAld 1), sRI (gFI 130), sCI 26 2 (some 1) 2, sCI 17 5 (some 1) 6,
  sP fPop, sRet rV]
set_option maxRecDepth 100000 in
theorem ck_25 : in_25.map (fun q => zsem zTb (zlk zPl_1) (ztg in_25 q.1) false q.2.1) = cd_25.map some := rfl
/-- Course_below -/
def in_26 : List zIns := [(0, .aload_n 0, 1), (1, .aload_n 0, 1), (2, .getfield 157, 3), (5, .ldc 172, 2), (7, .imul, 1), (8, .sipush 12345, 3), (11, .iadd, 1), (12, .putfield 157, 3),
  (15, .iload_n 1, 1), (16, .ifCond .le 15, 3), (19, .aload_n 0, 1), (20, .getfield 157, 3), (23, .bipush 16, 2), (25, .iushr, 1), (26, .iload_n 1, 1), (27, .irem, 1),
  (28, .goto 4, 3), (31, .iconst 0, 1), (32, .ireturn, 1)]
def cd_26 : List zSem := [sP (fAld 0), sP (fAld 0), sRI (gFI 80), sP (fCon 1103515245), sP (fII (fun x y => x * y)), sP (fCon 12345),
  sP (fII (fun x y => x + y)), sWr (wFI 80), sP (fIld 1), sBr (c1 (zc0 .le)) 17, sP (fAld 0), sRI (gFI 80),
  sP (fCon 16), sP (fII zushr), sP (fIld 1), sRI (gDiv zrem), sGo 18, sP (fCon 0),
  sRet rI]
set_option maxRecDepth 100000 in
theorem ck_26 : in_26.map (fun q => zsem zTb (zlk zPl_1) (ztg in_26 q.1) false q.2.1) = cd_26.map some := rfl
/-- Course_detail -/
def in_27 : List zIns := [(0, .iload_n 2, 1), (1, .ifCond .ge 6, 3), (4, .bipush (-2), 2), (6, .ireturn, 1), (7, .iload_n 2, 1), (8, .bipush 10, 2), (10, .irem, 1), (11, .istore_n 3, 1),
  (12, .iload_n 2, 1), (13, .bipush 10, 2), (15, .idiv, 1), (16, .tableswitch 122 0 4 #[36, 42, 62, 82, 102], 36), (52, .aload_n 0, 1), (53, .iload_n 3, 1), (54, .invokevirtual 173, 3), (57, .ireturn, 1),
  (58, .aload_n 1, 1), (59, .iload_n 3, 1), (60, .invokevirtual 112, 3), (63, .ifCond .eq 12, 3), (66, .aload_n 0, 1), (67, .getfield 9, 3), (70, .iload_n 3, 1), (71, .iaload, 1),
  (72, .goto 5, 3), (75, .bipush (-2), 2), (77, .ireturn, 1), (78, .aload_n 1, 1), (79, .iload_n 3, 1), (80, .invokevirtual 112, 3), (83, .ifCond .eq 12, 3), (86, .aload_n 0, 1),
  (87, .getfield 15, 3), (90, .iload_n 3, 1), (91, .iaload, 1), (92, .goto 5, 3), (95, .bipush (-2), 2), (97, .ireturn, 1), (98, .aload_n 1, 1), (99, .iload_n 3, 1),
  (100, .invokevirtual 116, 3), (103, .ifCond .eq 12, 3), (106, .aload_n 0, 1), (107, .getfield 18, 3), (110, .iload_n 3, 1), (111, .iaload, 1), (112, .goto 5, 3), (115, .bipush (-2), 2),
  (117, .ireturn, 1), (118, .aload_n 1, 1), (119, .iload_n 3, 1), (120, .invokevirtual 125, 3), (123, .ifCond .eq 12, 3), (126, .aload_n 0, 1), (127, .getfield 27, 3), (130, .iload_n 3, 1),
  (131, .iaload, 1), (132, .goto 5, 3), (135, .bipush (-2), 2), (137, .ireturn, 1), (138, .bipush (-2), 2), (140, .ireturn, 1)]
def cd_27 : List zSem := [sP (fIld 2), sBr (c1 (zc0 .ge)) 4, sP (fCon (-2)), sRet rI, sP (fIld 2), sP (fCon 10),
  sRI (gDiv zrem), sP (fIst 3), sP (fIld 2), sP (fCon 10), sRI (gDiv (fun x y => x / y)), sSw [(0, 12), (1, 16), (2, 27), (3, 38), (4, 49)] 60,
  sP (fAld 0), sP (fIld 3), sCI 28 2 (some 1) 2, sRet rI, sP (fAld 1), sP (fIld 3),
  sCI 39 2 (some 2) 2, sBr (c1 (zc0 .eq)) 25, sP (fAld 0), sRR (gFR 66), sP (fIld 3), sRI gAI,
  sGo 26, sP (fCon (-2)), sRet rI, sP (fAld 1), sP (fIld 3), sCI 39 2 (some 2) 2,
  sBr (c1 (zc0 .eq)) 36, sP (fAld 0), sRR (gFR 67), sP (fIld 3), sRI gAI, sGo 37,
  sP (fCon (-2)), sRet rI, sP (fAld 1), sP (fIld 3), sCI 40 2 (some 2) 2, sBr (c1 (zc0 .eq)) 47,
  sP (fAld 0), sRR (gFR 68), sP (fIld 3), sRI gAI, sGo 48, sP (fCon (-2)),
  sRet rI, sP (fAld 1), sP (fIld 3), sCI 41 2 (some 2) 2, sBr (c1 (zc0 .eq)) 58, sP (fAld 0),
  sRR (gFR 71), sP (fIld 3), sRI gAI, sGo 59, sP (fCon (-2)), sRet rI,
  sP (fCon (-2)), sRet rI]
set_option maxRecDepth 100000 in
theorem ck_27 : in_27.map (fun q => zsem zTb (zlk zPl_1) (ztg in_27 q.1) false q.2.1) = cd_27.map some := rfl
/-- Course_headline -/
def in_28 : List zIns := [(0, .iload_n 1, 1), (1, .tableswitch 87 0 7 #[47, 52, 57, 62, 67, 72, 77, 82], 47), (48, .aload_n 0, 1), (49, .getfield 56, 3), (52, .ireturn, 1), (53, .aload_n 0, 1), (54, .getfield 53, 3), (57, .ireturn, 1),
  (58, .aload_n 0, 1), (59, .getfield 59, 3), (62, .ireturn, 1), (63, .aload_n 0, 1), (64, .getfield 62, 3), (67, .ireturn, 1), (68, .aload_n 0, 1), (69, .getfield 65, 3),
  (72, .ireturn, 1), (73, .aload_n 0, 1), (74, .getfield 68, 3), (77, .ireturn, 1), (78, .aload_n 0, 1), (79, .getfield 74, 3), (82, .ireturn, 1), (83, .aload_n 0, 1),
  (84, .getfield 75, 3), (87, .ireturn, 1), (88, .bipush (-2), 2), (90, .ireturn, 1)]
def cd_28 : List zSem := [sP (fIld 1), sSw [(0, 2), (1, 5), (2, 8), (3, 11), (4, 14), (5, 17), (6, 20), (7, 23)] 26, sP (fAld 0), sRI (gFI 73), sRet rI, sP (fAld 0),
  sRI (gFI 72), sRet rI, sP (fAld 0), sRI (gFI 74), sRet rI, sP (fAld 0),
  sRI (gFI 75), sRet rI, sP (fAld 0), sRI (gFI 76), sRet rI, sP (fAld 0),
  sRI (gFI 77), sRet rI, sP (fAld 0), sRI (gFI 78), sRet rI, sP (fAld 0),
  sRI (gFI 79), sRet rI, sP (fCon (-2)), sRet rI]
set_option maxRecDepth 100000 in
theorem ck_28 : in_28.map (fun q => zsem zTb (zlk zPl_1) (ztg in_28 q.1) false q.2.1) = cd_28.map some := rfl
/-- Course_famous -/
def in_29 : List zIns := [(0, .aload_n 0, 1), (1, .getfield 24, 3), (4, .invokestatic 176, 3), (7, .ireturn, 1)]
def cd_29 : List zSem := [sP (fAld 0), sRR (gFR 70), sCI 31 1 none 4, sRet rI]
set_option maxRecDepth 100000 in
theorem ck_29 : in_29.map (fun q => zsem zTb (zlk zPl_1) (ztg in_29 q.1) false q.2.1) = cd_29.map some := rfl
/-- Course_hoarse -/
def in_30 : List zIns := [(0, .aload_n 0, 1), (1, .getfield 21, 3), (4, .invokestatic 176, 3), (7, .ireturn, 1)]
def cd_30 : List zSem := [sP (fAld 0), sRR (gFR 69), sCI 31 1 none 4, sRet rI]
set_option maxRecDepth 100000 in
theorem ck_30 : in_30.map (fun q => zsem zTb (zlk zPl_1) (ztg in_30 q.1) false q.2.1) = cd_30.map some := rfl
/-- Course_firstGreatest -/
def in_31 : List zIns := [(0, .iconst (-1), 1), (1, .istore_n 1, 1), (2, .iconst 0, 1), (3, .istore_n 2, 1), (4, .iconst 0, 1), (5, .istore_n 3, 1), (6, .iload_n 3, 1), (7, .aload_n 0, 1),
  (8, .arraylength, 1), (9, .if_icmp .ge 22, 3), (12, .aload_n 0, 1), (13, .iload_n 3, 1), (14, .iaload, 1), (15, .iload_n 2, 1), (16, .if_icmp .le 9, 3), (19, .aload_n 0, 1),
  (20, .iload_n 3, 1), (21, .iaload, 1), (22, .istore_n 2, 1), (23, .iload_n 3, 1), (24, .istore_n 1, 1), (25, .iinc 3 1, 3), (28, .goto (-22), 3), (31, .iload_n 1, 1),
  (32, .ireturn, 1)]
def cd_31 : List zSem := [sP (fCon (-1)), sP (fIst 1), sP (fCon 0), sP (fIst 2), sP (fCon 0), sP (fIst 3),
  sP (fIld 3), sP (fAld 0), sRI gAN, sBr (c2 (zcI .ge)) 23, sP (fAld 0), sP (fIld 3),
  sRI gAI, sP (fIld 2), sBr (c2 (zcI .le)) 21, sP (fAld 0), sP (fIld 3), sRI gAI,
  sP (fIst 2), sP (fIld 3), sP (fIst 1), sP (fInc 3 1), sGo 6, sP (fIld 1),
  sRet rI]
set_option maxRecDepth 100000 in
theorem ck_31 : in_31.map (fun q => zsem zTb (zlk zPl_1) (ztg in_31 q.1) false q.2.1) = cd_31.map some := rfl
/-- Course_driest -/
def in_32 : List zIns := [(0, .iconst (-1), 1), (1, .istore_n 2, 1), (2, .iconst 0, 1), (3, .istore_n 3, 1), (4, .iload_n 3, 1), (5, .aload_n 1, 1), (6, .getfield 154, 3), (9, .if_icmp .ge 31, 3),
  (12, .iload_n 2, 1), (13, .iconst (-1), 1), (14, .if_icmp .eq 18, 3), (17, .aload_n 0, 1), (18, .getfield 9, 3), (21, .iload_n 3, 1), (22, .iaload, 1), (23, .aload_n 0, 1),
  (24, .getfield 9, 3), (27, .iload_n 2, 1), (28, .iaload, 1), (29, .if_icmp .ge 5, 3), (32, .iload_n 3, 1), (33, .istore_n 2, 1), (34, .iinc 3 1, 3), (37, .goto (-33), 3),
  (40, .iload_n 2, 1), (41, .ireturn, 1)]
def cd_32 : List zSem := [sP (fCon (-1)), sP (fIst 2), sP (fCon 0), sP (fIst 3), sP (fIld 3), sP (fAld 1),
  sRI (gFI 128), sBr (c2 (zcI .ge)) 24, sP (fIld 2), sP (fCon (-1)), sBr (c2 (zcI .eq)) 20, sP (fAld 0),
  sRR (gFR 66), sP (fIld 3), sRI gAI, sP (fAld 0), sRR (gFR 66), sP (fIld 2),
  sRI gAI, sBr (c2 (zcI .ge)) 22, sP (fIld 3), sP (fIst 2), sP (fInc 3 1), sGo 4,
  sP (fIld 2), sRet rI]
set_option maxRecDepth 100000 in
theorem ck_32 : in_32.map (fun q => zsem zTb (zlk zPl_1) (ztg in_32 q.1) false q.2.1) = cd_32.map some := rfl
/-- Duchy_init -/
def in_33 : List zIns := [(0, .aload_n 0, 1), (1, .invokespecial 3, 3), (4, .aload_n 0, 1), (5, .bipush 6, 2), (7, .newarray .int, 2), (9, .putfield 9, 3), (12, .aload_n 0, 1), (13, .bipush 6, 2),
  (15, .newarray .int, 2), (17, .putfield 15, 3), (20, .aload_n 0, 1), (21, .iconst 4, 1), (22, .newarray .int, 2), (24, .putfield 18, 3), (27, .aload_n 0, 1), (28, .bipush 8, 2),
  (30, .newarray .int, 2), (32, .putfield 21, 3), (35, .aload_n 0, 1), (36, .bipush 8, 2), (38, .newarray .int, 2), (40, .putfield 24, 3), (43, .aload_n 0, 1), (44, .bipush 8, 2),
  (46, .newarray .int, 2), (48, .putfield 27, 3), (51, .return_, 1)]
def cd_33 : List zSem := [sP (fAld 0), sP fObj, sP (fAld 0), sP (fCon 6), sNA (znA 0), sWr (wFR 132),
  sP (fAld 0), sP (fCon 6), sNA (znA 0), sWr (wFR 133), sP (fAld 0), sP (fCon 4),
  sNA (znA 0), sWr (wFR 134), sP (fAld 0), sP (fCon 8), sNA (znA 0), sWr (wFR 135),
  sP (fAld 0), sP (fCon 8), sNA (znA 0), sWr (wFR 136), sP (fAld 0), sP (fCon 8),
  sNA (znA 0), sWr (wFR 137), sRet rV]
set_option maxRecDepth 100000 in
theorem ck_33 : in_33.map (fun q => zsem zTb (zlk zPl_2) (ztg in_33 q.1) false q.2.1) = cd_33.map some := rfl
/-- Duchy_reset -/
def in_34 : List zIns := [(0, .aload_n 0, 1), (1, .iconst 0, 1), (2, .putfield 30, 3), (5, .aload_n 0, 1), (6, .iconst 0, 1), (7, .putfield 34, 3), (10, .aload_n 0, 1), (11, .iconst 0, 1),
  (12, .putfield 37, 3), (15, .aload_n 0, 1), (16, .iconst 0, 1), (17, .putfield 40, 3), (20, .iconst 0, 1), (21, .istore_n 1, 1), (22, .iload_n 1, 1), (23, .bipush 8, 2),
  (25, .if_icmp .ge 26, 3), (28, .aload_n 0, 1), (29, .getfield 27, 3), (32, .iload_n 1, 1), (33, .iload_n 1, 1), (34, .iconst 2, 1), (35, .irem, 1), (36, .ifCond .ne 7, 3),
  (39, .iconst 0, 1), (40, .goto 4, 3), (43, .iconst 1, 1), (44, .iastore, 1), (45, .iinc 1 1, 3), (48, .goto (-26), 3), (51, .return_, 1)]
def cd_34 : List zSem := [sP (fAld 0), sP (fCon 0), sWr (wFI 128), sP (fAld 0), sP (fCon 0), sWr (wFI 129),
  sP (fAld 0), sP (fCon 0), sWr (wFI 130), sP (fAld 0), sP (fCon 0), sWr (wFI 131),
  sP (fCon 0), sP (fIst 1), sP (fIld 1), sP (fCon 8), sBr (c2 (zcI .ge)) 30, sP (fAld 0),
  sRR (gFR 137), sP (fIld 1), sP (fIld 1), sP (fCon 2), sRI (gDiv zrem), sBr (c1 (zc0 .ne)) 26,
  sP (fCon 0), sGo 27, sP (fCon 1), sWr wAI, sP (fInc 1 1), sGo 14,
  sRet rV]
set_option maxRecDepth 100000 in
theorem ck_34 : in_34.map (fun q => zsem zTb (zlk zPl_2) (ztg in_34 q.1) false q.2.1) = cd_34.map some := rfl
/-- Duchy_copy -/
def in_35 : List zIns := [(0, .aload_n 0, 1), (1, .aload_n 1, 1), (2, .getfield 30, 3), (5, .putfield 30, 3), (8, .aload_n 0, 1), (9, .aload_n 1, 1), (10, .getfield 34, 3), (13, .putfield 34, 3),
  (16, .aload_n 0, 1), (17, .aload_n 1, 1), (18, .getfield 37, 3), (21, .putfield 37, 3), (24, .aload_n 0, 1), (25, .aload_n 1, 1), (26, .getfield 40, 3), (29, .putfield 40, 3),
  (32, .aload_n 1, 1), (33, .getfield 9, 3), (36, .iconst 0, 1), (37, .aload_n 0, 1), (38, .getfield 9, 3), (41, .iconst 0, 1), (42, .bipush 6, 2), (44, .invokestatic 43, 3),
  (47, .aload_n 1, 1), (48, .getfield 15, 3), (51, .iconst 0, 1), (52, .aload_n 0, 1), (53, .getfield 15, 3), (56, .iconst 0, 1), (57, .bipush 6, 2), (59, .invokestatic 43, 3),
  (62, .aload_n 1, 1), (63, .getfield 18, 3), (66, .iconst 0, 1), (67, .aload_n 0, 1), (68, .getfield 18, 3), (71, .iconst 0, 1), (72, .iconst 4, 1), (73, .invokestatic 43, 3),
  (76, .aload_n 1, 1), (77, .getfield 21, 3), (80, .iconst 0, 1), (81, .aload_n 0, 1), (82, .getfield 21, 3), (85, .iconst 0, 1), (86, .bipush 8, 2), (88, .invokestatic 43, 3),
  (91, .aload_n 1, 1), (92, .getfield 24, 3), (95, .iconst 0, 1), (96, .aload_n 0, 1), (97, .getfield 24, 3), (100, .iconst 0, 1), (101, .bipush 8, 2), (103, .invokestatic 43, 3),
  (106, .aload_n 1, 1), (107, .getfield 27, 3), (110, .iconst 0, 1), (111, .aload_n 0, 1), (112, .getfield 27, 3), (115, .iconst 0, 1), (116, .bipush 8, 2), (118, .invokestatic 43, 3),
  (121, .return_, 1)]
def cd_35 : List zSem := [sP (fAld 0), sP (fAld 1), sRI (gFI 128), sWr (wFI 128), sP (fAld 0), sP (fAld 1),
  sRI (gFI 129), sWr (wFI 129), sP (fAld 0), sP (fAld 1), sRI (gFI 130), sWr (wFI 130),
  sP (fAld 0), sP (fAld 1), sRI (gFI 131), sWr (wFI 131), sP (fAld 1), sRR (gFR 132),
  sP (fCon 0), sP (fAld 0), sRR (gFR 132), sP (fCon 0), sP (fCon 6), sWr wCp,
  sP (fAld 1), sRR (gFR 133), sP (fCon 0), sP (fAld 0), sRR (gFR 133), sP (fCon 0),
  sP (fCon 6), sWr wCp, sP (fAld 1), sRR (gFR 134), sP (fCon 0), sP (fAld 0),
  sRR (gFR 134), sP (fCon 0), sP (fCon 4), sWr wCp, sP (fAld 1), sRR (gFR 135),
  sP (fCon 0), sP (fAld 0), sRR (gFR 135), sP (fCon 0), sP (fCon 8), sWr wCp,
  sP (fAld 1), sRR (gFR 136), sP (fCon 0), sP (fAld 0), sRR (gFR 136), sP (fCon 0),
  sP (fCon 8), sWr wCp, sP (fAld 1), sRR (gFR 137), sP (fCon 0), sP (fAld 0),
  sRR (gFR 137), sP (fCon 0), sP (fCon 8), sWr wCp, sRet rV]
set_option maxRecDepth 100000 in
theorem ck_35 : in_35.map (fun q => zsem zTb (zlk zPl_2) (ztg in_35 q.1) false q.2.1) = cd_35.map some := rfl
/-- Duchy_addReed -/
def in_36 : List zIns := [(0, .aload_n 0, 1), (1, .getfield 30, 3), (4, .bipush 6, 2), (6, .if_icmp .ge 33, 3), (9, .aload_n 0, 1), (10, .getfield 9, 3), (13, .aload_n 0, 1), (14, .getfield 30, 3),
  (17, .iload_n 1, 1), (18, .iastore, 1), (19, .aload_n 0, 1), (20, .getfield 15, 3), (23, .aload_n 0, 1), (24, .getfield 30, 3), (27, .iload_n 2, 1), (28, .iastore, 1),
  (29, .aload_n 0, 1), (30, .dup, 1), (31, .getfield 30, 3), (34, .iconst 1, 1), (35, .iadd, 1), (36, .putfield 30, 3), (39, .return_, 1)]
def cd_36 : List zSem := [sP (fAld 0), sRI (gFI 128), sP (fCon 6), sBr (c2 (zcI .ge)) 22, sP (fAld 0), sRR (gFR 132),
  sP (fAld 0), sRI (gFI 128), sP (fIld 1), sWr wAI, sP (fAld 0), sRR (gFR 133),
  sP (fAld 0), sRI (gFI 128), sP (fIld 2), sWr wAI, sP (fAld 0), sP fDup,
  sRI (gFI 128), sP (fCon 1), sP (fII (fun x y => x + y)), sWr (wFI 128), sRet rV]
set_option maxRecDepth 100000 in
theorem ck_36 : in_36.map (fun q => zsem zTb (zlk zPl_2) (ztg in_36 q.1) false q.2.1) = cd_36.map some := rfl
/-- Duchy_addPlayer -/
def in_37 : List zIns := [(0, .aload_n 0, 1), (1, .getfield 34, 3), (4, .iconst 4, 1), (5, .if_icmp .ge 23, 3), (8, .aload_n 0, 1), (9, .getfield 18, 3), (12, .aload_n 0, 1), (13, .getfield 34, 3),
  (16, .iload_n 1, 1), (17, .iastore, 1), (18, .aload_n 0, 1), (19, .dup, 1), (20, .getfield 34, 3), (23, .iconst 1, 1), (24, .iadd, 1), (25, .putfield 34, 3),
  (28, .return_, 1)]
def cd_37 : List zSem := [sP (fAld 0), sRI (gFI 129), sP (fCon 4), sBr (c2 (zcI .ge)) 16, sP (fAld 0), sRR (gFR 134),
  sP (fAld 0), sRI (gFI 129), sP (fIld 1), sWr wAI, sP (fAld 0), sP fDup,
  sRI (gFI 129), sP (fCon 1), sP (fII (fun x y => x + y)), sWr (wFI 129), sRet rV]
set_option maxRecDepth 100000 in
theorem ck_37 : in_37.map (fun q => zsem zTb (zlk zPl_2) (ztg in_37 q.1) false q.2.1) = cd_37.map some := rfl
/-- Duchy_addQuestion -/
def in_38 : List zIns := [(0, .aload_n 0, 1), (1, .getfield 37, 3), (4, .bipush 8, 2), (6, .if_icmp .ge 33, 3), (9, .aload_n 0, 1), (10, .getfield 21, 3), (13, .aload_n 0, 1), (14, .getfield 37, 3),
  (17, .iload_n 1, 1), (18, .iastore, 1), (19, .aload_n 0, 1), (20, .getfield 24, 3), (23, .aload_n 0, 1), (24, .getfield 37, 3), (27, .iload_n 2, 1), (28, .iastore, 1),
  (29, .aload_n 0, 1), (30, .dup, 1), (31, .getfield 37, 3), (34, .iconst 1, 1), (35, .iadd, 1), (36, .putfield 37, 3), (39, .return_, 1)]
def cd_38 : List zSem := [sP (fAld 0), sRI (gFI 130), sP (fCon 8), sBr (c2 (zcI .ge)) 22, sP (fAld 0), sRR (gFR 135),
  sP (fAld 0), sRI (gFI 130), sP (fIld 1), sWr wAI, sP (fAld 0), sRR (gFR 136),
  sP (fAld 0), sRI (gFI 130), sP (fIld 2), sWr wAI, sP (fAld 0), sP fDup,
  sRI (gFI 130), sP (fCon 1), sP (fII (fun x y => x + y)), sWr (wFI 130), sRet rV]
set_option maxRecDepth 100000 in
theorem ck_38 : in_38.map (fun q => zsem zTb (zlk zPl_2) (ztg in_38 q.1) false q.2.1) = cd_38.map some := rfl
/-- Duchy_hasReed -/
def in_39 : List zIns := [(0, .iload_n 1, 1), (1, .ifCond .lt 15, 3), (4, .iload_n 1, 1), (5, .aload_n 0, 1), (6, .getfield 30, 3), (9, .if_icmp .ge 7, 3), (12, .iconst 1, 1), (13, .goto 4, 3),
  (16, .iconst 0, 1), (17, .ireturn, 1)]
def cd_39 : List zSem := [sP (fIld 1), sBr (c1 (zc0 .lt)) 8, sP (fIld 1), sP (fAld 0), sRI (gFI 128), sBr (c2 (zcI .ge)) 8,
  sP (fCon 1), sGo 9, sP (fCon 0), sRz]
set_option maxRecDepth 100000 in
theorem ck_39 : in_39.map (fun q => zsem zTb (zlk zPl_2) (ztg in_39 q.1) true q.2.1) = cd_39.map some := rfl
/-- Duchy_hasPlayer -/
def in_40 : List zIns := [(0, .iload_n 1, 1), (1, .ifCond .lt 15, 3), (4, .iload_n 1, 1), (5, .aload_n 0, 1), (6, .getfield 34, 3), (9, .if_icmp .ge 7, 3), (12, .iconst 1, 1), (13, .goto 4, 3),
  (16, .iconst 0, 1), (17, .ireturn, 1)]
def cd_40 : List zSem := [sP (fIld 1), sBr (c1 (zc0 .lt)) 8, sP (fIld 1), sP (fAld 0), sRI (gFI 129), sBr (c2 (zcI .ge)) 8,
  sP (fCon 1), sGo 9, sP (fCon 0), sRz]
set_option maxRecDepth 100000 in
theorem ck_40 : in_40.map (fun q => zsem zTb (zlk zPl_2) (ztg in_40 q.1) true q.2.1) = cd_40.map some := rfl
/-- Duchy_hasQuestion -/
def in_41 : List zIns := [(0, .iload_n 1, 1), (1, .ifCond .lt 15, 3), (4, .iload_n 1, 1), (5, .aload_n 0, 1), (6, .getfield 37, 3), (9, .if_icmp .ge 7, 3), (12, .iconst 1, 1), (13, .goto 4, 3),
  (16, .iconst 0, 1), (17, .ireturn, 1)]
def cd_41 : List zSem := [sP (fIld 1), sBr (c1 (zc0 .lt)) 8, sP (fIld 1), sP (fAld 0), sRI (gFI 130), sBr (c2 (zcI .ge)) 8,
  sP (fCon 1), sGo 9, sP (fCon 0), sRz]
set_option maxRecDepth 100000 in
theorem ck_41 : in_41.map (fun q => zsem zTb (zlk zPl_2) (ztg in_41 q.1) true q.2.1) = cd_41.map some := rfl
/-- Duchy_hasAll -/
def in_42 : List zIns := [(0, .aload_n 0, 1), (1, .iload_n 1, 1), (2, .invokevirtual 49, 3), (5, .ifCond .eq 23, 3), (8, .aload_n 0, 1), (9, .iload_n 2, 1), (10, .invokevirtual 53, 3), (13, .ifCond .eq 15, 3),
  (16, .aload_n 0, 1), (17, .iload_n 3, 1), (18, .invokevirtual 56, 3), (21, .ifCond .eq 7, 3), (24, .iconst 1, 1), (25, .goto 4, 3), (28, .iconst 0, 1), (29, .ireturn, 1)]
def cd_42 : List zSem := [sP (fAld 0), sP (fIld 1), sCI 39 2 (some 2) 2, sBr (c1 (zc0 .eq)) 14, sP (fAld 0), sP (fIld 2),
  sCI 40 2 (some 2) 2, sBr (c1 (zc0 .eq)) 14, sP (fAld 0), sP (fIld 3), sCI 41 2 (some 2) 2, sBr (c1 (zc0 .eq)) 14,
  sP (fCon 1), sGo 15, sP (fCon 0), sRz]
set_option maxRecDepth 100000 in
theorem ck_42 : in_42.map (fun q => zsem zTb (zlk zPl_2) (ztg in_42 q.1) true q.2.1) = cd_42.map some := rfl
/-- Duchy_knows -/
def in_43 : List zIns := [(0, .iconst 0, 1), (1, .istore_n 2, 1), (2, .iload_n 2, 1), (3, .aload_n 1, 1), (4, .getfield 59, 3), (7, .if_icmp .ge 37, 3), (10, .aload_n 0, 1), (11, .aload_n 1, 1),
  (12, .getfield 64, 3), (15, .iload_n 2, 1), (16, .iaload, 1), (17, .invokevirtual 53, 3), (20, .ifCond .eq 16, 3), (23, .aload_n 0, 1), (24, .aload_n 1, 1), (25, .getfield 67, 3),
  (28, .iload_n 2, 1), (29, .iaload, 1), (30, .invokevirtual 56, 3), (33, .ifCond .ne 5, 3), (36, .iconst 0, 1), (37, .ireturn, 1), (38, .iinc 2 1, 3), (41, .goto (-39), 3),
  (44, .iconst 1, 1), (45, .ireturn, 1)]
def cd_43 : List zSem := [sP (fCon 0), sP (fIst 2), sP (fIld 2), sP (fAld 1), sRI (gFI 192), sBr (c2 (zcI .ge)) 24,
  sP (fAld 0), sP (fAld 1), sRR (gFR 193), sP (fIld 2), sRI gAI, sCI 40 2 (some 2) 2,
  sBr (c1 (zc0 .eq)) 20, sP (fAld 0), sP (fAld 1), sRR (gFR 194), sP (fIld 2), sRI gAI,
  sCI 41 2 (some 2) 2, sBr (c1 (zc0 .ne)) 22, sP (fCon 0), sRz, sP (fInc 2 1), sGo 2,
  sP (fCon 1), sRz]
set_option maxRecDepth 100000 in
theorem ck_43 : in_43.map (fun q => zsem zTb (zlk zPl_2) (ztg in_43 q.1) true q.2.1) = cd_43.map some := rfl
/-- Duchy_detail -/
def in_44 : List zIns := [(0, .iload_n 1, 1), (1, .ifCond .ge 5, 3), (4, .iconst (-1), 1), (5, .ireturn, 1), (6, .iload_n 1, 1), (7, .bipush 10, 2), (9, .irem, 1), (10, .istore_n 2, 1),
  (11, .iload_n 1, 1), (12, .bipush 10, 2), (14, .idiv, 1), (15, .tableswitch 159 0 6 #[41, 47, 66, 85, 104, 123, 142], 41), (56, .aload_n 0, 1), (57, .iload_n 2, 1), (58, .invokevirtual 70, 3), (61, .ireturn, 1),
  (62, .aload_n 0, 1), (63, .iload_n 2, 1), (64, .invokevirtual 49, 3), (67, .ifCond .eq 12, 3), (70, .aload_n 0, 1), (71, .getfield 9, 3), (74, .iload_n 2, 1), (75, .iaload, 1),
  (76, .goto 4, 3), (79, .iconst (-1), 1), (80, .ireturn, 1), (81, .aload_n 0, 1), (82, .iload_n 2, 1), (83, .invokevirtual 49, 3), (86, .ifCond .eq 12, 3), (89, .aload_n 0, 1),
  (90, .getfield 15, 3), (93, .iload_n 2, 1), (94, .iaload, 1), (95, .goto 4, 3), (98, .iconst (-1), 1), (99, .ireturn, 1), (100, .aload_n 0, 1), (101, .iload_n 2, 1),
  (102, .invokevirtual 53, 3), (105, .ifCond .eq 12, 3), (108, .aload_n 0, 1), (109, .getfield 18, 3), (112, .iload_n 2, 1), (113, .iaload, 1), (114, .goto 4, 3), (117, .iconst (-1), 1),
  (118, .ireturn, 1), (119, .aload_n 0, 1), (120, .iload_n 2, 1), (121, .invokevirtual 56, 3), (124, .ifCond .eq 12, 3), (127, .aload_n 0, 1), (128, .getfield 21, 3), (131, .iload_n 2, 1),
  (132, .iaload, 1), (133, .goto 4, 3), (136, .iconst (-1), 1), (137, .ireturn, 1), (138, .aload_n 0, 1), (139, .iload_n 2, 1), (140, .invokevirtual 56, 3), (143, .ifCond .eq 12, 3),
  (146, .aload_n 0, 1), (147, .getfield 24, 3), (150, .iload_n 2, 1), (151, .iaload, 1), (152, .goto 4, 3), (155, .iconst (-1), 1), (156, .ireturn, 1), (157, .iload_n 2, 1),
  (158, .bipush 8, 2), (160, .if_icmp .ge 12, 3), (163, .aload_n 0, 1), (164, .getfield 27, 3), (167, .iload_n 2, 1), (168, .iaload, 1), (169, .goto 4, 3), (172, .iconst (-1), 1),
  (173, .ireturn, 1), (174, .iconst (-1), 1), (175, .ireturn, 1)]
def cd_44 : List zSem := [sP (fIld 1), sBr (c1 (zc0 .ge)) 4, sP (fCon (-1)), sRet rI, sP (fIld 1), sP (fCon 10),
  sRI (gDiv zrem), sP (fIst 2), sP (fIld 1), sP (fCon 10), sRI (gDiv (fun x y => x / y)), sSw [(0, 12), (1, 16), (2, 27), (3, 38), (4, 49), (5, 60), (6, 71)] 81,
  sP (fAld 0), sP (fIld 2), sCI 45 2 (some 2) 2, sRet rI, sP (fAld 0), sP (fIld 2),
  sCI 39 2 (some 2) 2, sBr (c1 (zc0 .eq)) 25, sP (fAld 0), sRR (gFR 132), sP (fIld 2), sRI gAI,
  sGo 26, sP (fCon (-1)), sRet rI, sP (fAld 0), sP (fIld 2), sCI 39 2 (some 2) 2,
  sBr (c1 (zc0 .eq)) 36, sP (fAld 0), sRR (gFR 133), sP (fIld 2), sRI gAI, sGo 37,
  sP (fCon (-1)), sRet rI, sP (fAld 0), sP (fIld 2), sCI 40 2 (some 2) 2, sBr (c1 (zc0 .eq)) 47,
  sP (fAld 0), sRR (gFR 134), sP (fIld 2), sRI gAI, sGo 48, sP (fCon (-1)),
  sRet rI, sP (fAld 0), sP (fIld 2), sCI 41 2 (some 2) 2, sBr (c1 (zc0 .eq)) 58, sP (fAld 0),
  sRR (gFR 135), sP (fIld 2), sRI gAI, sGo 59, sP (fCon (-1)), sRet rI,
  sP (fAld 0), sP (fIld 2), sCI 41 2 (some 2) 2, sBr (c1 (zc0 .eq)) 69, sP (fAld 0), sRR (gFR 136),
  sP (fIld 2), sRI gAI, sGo 70, sP (fCon (-1)), sRet rI, sP (fIld 2),
  sP (fCon 8), sBr (c2 (zcI .ge)) 79, sP (fAld 0), sRR (gFR 137), sP (fIld 2), sRI gAI,
  sGo 80, sP (fCon (-1)), sRet rI, sP (fCon (-1)), sRet rI]
set_option maxRecDepth 100000 in
theorem ck_44 : in_44.map (fun q => zsem zTb (zlk zPl_2) (ztg in_44 q.1) false q.2.1) = cd_44.map some := rfl
/-- Duchy_headline -/
def in_45 : List zIns := [(0, .iload_n 1, 1), (1, .tableswitch 51 0 3 #[31, 36, 41, 46], 31), (32, .aload_n 0, 1), (33, .getfield 30, 3), (36, .ireturn, 1), (37, .aload_n 0, 1), (38, .getfield 34, 3), (41, .ireturn, 1),
  (42, .aload_n 0, 1), (43, .getfield 37, 3), (46, .ireturn, 1), (47, .aload_n 0, 1), (48, .getfield 40, 3), (51, .ireturn, 1), (52, .iconst (-1), 1), (53, .ireturn, 1)]
def cd_45 : List zSem := [sP (fIld 1), sSw [(0, 2), (1, 5), (2, 8), (3, 11)] 14, sP (fAld 0), sRI (gFI 128), sRet rI, sP (fAld 0),
  sRI (gFI 129), sRet rI, sP (fAld 0), sRI (gFI 130), sRet rI, sP (fAld 0),
  sRI (gFI 131), sRet rI, sP (fCon (-1)), sRet rI]
set_option maxRecDepth 100000 in
theorem ck_45 : in_45.map (fun q => zsem zTb (zlk zPl_2) (ztg in_45 q.1) false q.2.1) = cd_45.map some := rfl
/-- Duchy_coughs -/
def in_46 : List zIns := [(0, .aload_n 0, 1), (1, .getfield 21, 3), (4, .iload_n 3, 1), (5, .iaload, 1), (6, .iload_n 1, 1), (7, .aload_n 0, 1), (8, .getfield 18, 3), (11, .iload_n 2, 1),
  (12, .iaload, 1), (13, .iadd, 1), (14, .if_icmp .le 7, 3), (17, .iconst 1, 1), (18, .goto 4, 3), (21, .iconst 0, 1), (22, .ireturn, 1)]
def cd_46 : List zSem := [sP (fAld 0), sRR (gFR 135), sP (fIld 3), sRI gAI, sP (fIld 1), sP (fAld 0),
  sRR (gFR 134), sP (fIld 2), sRI gAI, sP (fII (fun x y => x + y)), sBr (c2 (zcI .le)) 13, sP (fCon 1),
  sGo 14, sP (fCon 0), sRz]
set_option maxRecDepth 100000 in
theorem ck_46 : in_46.map (fun q => zsem zTb (zlk zPl_2) (ztg in_46 q.1) true q.2.1) = cd_46.map some := rfl
/-- Duchy_noteAt -/
def in_47 : List zIns := [(0, .aload_n 0, 1), (1, .iload_n 1, 1), (2, .iload 4, 2), (4, .iload 5, 2), (6, .invokevirtual 74, 3), (9, .ifCond .eq 5, 3), (12, .iconst (-1), 1), (13, .ireturn, 1),
  (14, .iconst 3, 1), (15, .iload_n 1, 1), (16, .imul, 1), (17, .aload_n 0, 1), (18, .getfield 18, 3), (21, .iload 4, 2), (23, .iaload, 1), (24, .iadd, 1),
  (25, .iload_n 2, 1), (26, .iadd, 1), (27, .iconst 5, 1), (28, .aload_n 0, 1), (29, .getfield 24, 3), (32, .iload 5, 2), (34, .iaload, 1), (35, .imul, 1),
  (36, .iadd, 1), (37, .aload_n 0, 1), (38, .getfield 21, 3), (41, .iload 5, 2), (43, .iaload, 1), (44, .iadd, 1), (45, .istore 6, 2), (47, .iload 6, 2),
  (49, .bipush 16, 2), (51, .iadd, 1), (52, .iload_n 3, 1), (53, .isub, 1), (54, .bipush 7, 2), (56, .iand, 1), (57, .ireturn, 1)]
def cd_47 : List zSem := [sP (fAld 0), sP (fIld 1), sP (fIld 4), sP (fIld 5), sCI 46 4 (some 2) 4, sBr (c1 (zc0 .eq)) 8,
  sP (fCon (-1)), sRet rI, sP (fCon 3), sP (fIld 1), sP (fII (fun x y => x * y)), sP (fAld 0),
  sRR (gFR 134), sP (fIld 4), sRI gAI, sP (fII (fun x y => x + y)), sP (fIld 2), sP (fII (fun x y => x + y)),
  sP (fCon 5), sP (fAld 0), sRR (gFR 136), sP (fIld 5), sRI gAI, sP (fII (fun x y => x * y)),
  sP (fII (fun x y => x + y)), sP (fAld 0), sRR (gFR 135), sP (fIld 5), sRI gAI, sP (fII (fun x y => x + y)),
  sP (fIst 6), sP (fIld 6), sP (fCon 16), sP (fII (fun x y => x + y)), sP (fIld 3), sP (fII (fun x y => x - y)),
  sP (fCon 7), sP (fII (fun x y => x &&& y)), sRet rI]
set_option maxRecDepth 100000 in
theorem ck_47 : in_47.map (fun q => zsem zTb (zlk zPl_2) (ztg in_47 q.1) false q.2.1) = cd_47.map some := rfl
/-- Duchy_noteOf -/
def in_48 : List zIns := [(0, .aload_n 0, 1), (1, .aload_n 0, 1), (2, .getfield 9, 3), (5, .iload_n 1, 1), (6, .iaload, 1), (7, .aload_n 0, 1), (8, .getfield 15, 3), (11, .iload_n 1, 1),
  (12, .iaload, 1), (13, .aload_n 0, 1), (14, .getfield 40, 3), (17, .iload_n 2, 1), (18, .iload_n 3, 1), (19, .invokevirtual 78, 3), (22, .ireturn, 1)]
def cd_48 : List zSem := [sP (fAld 0), sP (fAld 0), sRR (gFR 132), sP (fIld 1), sRI gAI, sP (fAld 0),
  sRR (gFR 133), sP (fIld 1), sRI gAI, sP (fAld 0), sRI (gFI 131), sP (fIld 2),
  sP (fIld 3), sCI 47 6 (some 2) 7, sRet rI]
set_option maxRecDepth 100000 in
theorem ck_48 : in_48.map (fun q => zsem zTb (zlk zPl_2) (ztg in_48 q.1) false q.2.1) = cd_48.map some := rfl
/-- Duchy_noteDried -/
def in_49 : List zIns := [(0, .aload_n 0, 1), (1, .aload_n 0, 1), (2, .getfield 9, 3), (5, .iload_n 1, 1), (6, .iaload, 1), (7, .iload_n 2, 1), (8, .invokestatic 82, 3), (11, .aload_n 0, 1),
  (12, .getfield 15, 3), (15, .iload_n 1, 1), (16, .iaload, 1), (17, .aload_n 0, 1), (18, .getfield 40, 3), (21, .iload_n 3, 1), (22, .iload 4, 2), (24, .invokevirtual 78, 3),
  (27, .ireturn, 1)]
def cd_49 : List zSem := [sP (fAld 0), sP (fAld 0), sRR (gFR 132), sP (fIld 1), sRI gAI, sP (fIld 2),
  sCI 193 2 none 2, sP (fAld 0), sRR (gFR 133), sP (fIld 1), sRI gAI, sP (fAld 0),
  sRI (gFI 131), sP (fIld 3), sP (fIld 4), sCI 47 6 (some 2) 7, sRet rI]
set_option maxRecDepth 100000 in
theorem ck_49 : in_49.map (fun q => zsem zTb (zlk zPl_2) (ztg in_49 q.1) false q.2.1) = cd_49.map some := rfl
/-- Duchy_meaning -/
def in_50 : List zIns := [(0, .iload_n 1, 1), (1, .ifCond .lt 9, 3), (4, .iload_n 1, 1), (5, .bipush 8, 2), (7, .if_icmp .lt 7, 3), (10, .iconst (-1), 1), (11, .goto 9, 3), (14, .aload_n 0, 1),
  (15, .getfield 27, 3), (18, .iload_n 1, 1), (19, .iaload, 1), (20, .ireturn, 1)]
def cd_50 : List zSem := [sP (fIld 1), sBr (c1 (zc0 .lt)) 5, sP (fIld 1), sP (fCon 8), sBr (c2 (zcI .lt)) 7, sP (fCon (-1)),
  sGo 11, sP (fAld 0), sRR (gFR 137), sP (fIld 1), sRI gAI, sRet rI]
set_option maxRecDepth 100000 in
theorem ck_50 : in_50.map (fun q => zsem zTb (zlk zPl_2) (ztg in_50 q.1) false q.2.1) = cd_50.map some := rfl
/-- Duchy_answerOf -/
def in_51 : List zIns := [(0, .aload_n 0, 1), (1, .aload_n 0, 1), (2, .iload_n 1, 1), (3, .iload_n 2, 1), (4, .iload_n 3, 1), (5, .invokevirtual 86, 3), (8, .invokevirtual 90, 3), (11, .ireturn, 1)]
def cd_51 : List zSem := [sP (fAld 0), sP (fAld 0), sP (fIld 1), sP (fIld 2), sP (fIld 3), sCI 48 4 (some 2) 4,
  sCI 50 2 (some 2) 2, sRet rI]
set_option maxRecDepth 100000 in
theorem ck_51 : in_51.map (fun q => zsem zTb (zlk zPl_2) (ztg in_51 q.1) false q.2.1) = cd_51.map some := rfl
/-- Log_init -/
def in_52 : List zIns := [(0, .aload_n 0, 1), (1, .invokespecial 3, 3), (4, .aload_n 0, 1), (5, .bipush 8, 2), (7, .newarray .int, 2), (9, .putfield 9, 3), (12, .aload_n 0, 1), (13, .bipush 8, 2),
  (15, .newarray .int, 2), (17, .putfield 15, 3), (20, .aload_n 0, 1), (21, .bipush 8, 2), (23, .newarray .int, 2), (25, .putfield 18, 3), (28, .return_, 1)]
def cd_52 : List zSem := [sP (fAld 0), sP fObj, sP (fAld 0), sP (fCon 8), sNA (znA 0), sWr (wFR 193),
  sP (fAld 0), sP (fCon 8), sNA (znA 0), sWr (wFR 194), sP (fAld 0), sP (fCon 8),
  sNA (znA 0), sWr (wFR 195), sRet rV]
set_option maxRecDepth 100000 in
theorem ck_52 : in_52.map (fun q => zsem zTb (zlk zPl_3) (ztg in_52 q.1) false q.2.1) = cd_52.map some := rfl
/-- Log_copy -/
def in_53 : List zIns := [(0, .aload_n 1, 1), (1, .getfield 9, 3), (4, .iconst 0, 1), (5, .aload_n 0, 1), (6, .getfield 9, 3), (9, .iconst 0, 1), (10, .aload_n 1, 1), (11, .getfield 21, 3),
  (14, .invokestatic 25, 3), (17, .aload_n 1, 1), (18, .getfield 15, 3), (21, .iconst 0, 1), (22, .aload_n 0, 1), (23, .getfield 15, 3), (26, .iconst 0, 1), (27, .aload_n 1, 1),
  (28, .getfield 21, 3), (31, .invokestatic 25, 3), (34, .aload_n 1, 1), (35, .getfield 18, 3), (38, .iconst 0, 1), (39, .aload_n 0, 1), (40, .getfield 18, 3), (43, .iconst 0, 1),
  (44, .aload_n 1, 1), (45, .getfield 21, 3), (48, .invokestatic 25, 3), (51, .aload_n 0, 1), (52, .aload_n 1, 1), (53, .getfield 21, 3), (56, .putfield 21, 3), (59, .return_, 1)]
def cd_53 : List zSem := [sP (fAld 1), sRR (gFR 193), sP (fCon 0), sP (fAld 0), sRR (gFR 193), sP (fCon 0),
  sP (fAld 1), sRI (gFI 192), sWr wCp, sP (fAld 1), sRR (gFR 194), sP (fCon 0),
  sP (fAld 0), sRR (gFR 194), sP (fCon 0), sP (fAld 1), sRI (gFI 192), sWr wCp,
  sP (fAld 1), sRR (gFR 195), sP (fCon 0), sP (fAld 0), sRR (gFR 195), sP (fCon 0),
  sP (fAld 1), sRI (gFI 192), sWr wCp, sP (fAld 0), sP (fAld 1), sRI (gFI 192),
  sWr (wFI 192), sRet rV]
set_option maxRecDepth 100000 in
theorem ck_53 : in_53.map (fun q => zsem zTb (zlk zPl_3) (ztg in_53 q.1) false q.2.1) = cd_53.map some := rfl
/-- Log_add -/
def in_54 : List zIns := [(0, .aload_n 0, 1), (1, .getfield 21, 3), (4, .bipush 8, 2), (6, .if_icmp .ge 43, 3), (9, .aload_n 0, 1), (10, .getfield 9, 3), (13, .aload_n 0, 1), (14, .getfield 21, 3),
  (17, .iload_n 1, 1), (18, .iastore, 1), (19, .aload_n 0, 1), (20, .getfield 15, 3), (23, .aload_n 0, 1), (24, .getfield 21, 3), (27, .iload_n 2, 1), (28, .iastore, 1),
  (29, .aload_n 0, 1), (30, .getfield 18, 3), (33, .aload_n 0, 1), (34, .getfield 21, 3), (37, .iload_n 3, 1), (38, .iastore, 1), (39, .aload_n 0, 1), (40, .dup, 1),
  (41, .getfield 21, 3), (44, .iconst 1, 1), (45, .iadd, 1), (46, .putfield 21, 3), (49, .return_, 1)]
def cd_54 : List zSem := [sP (fAld 0), sRI (gFI 192), sP (fCon 8), sBr (c2 (zcI .ge)) 28, sP (fAld 0), sRR (gFR 193),
  sP (fAld 0), sRI (gFI 192), sP (fIld 1), sWr wAI, sP (fAld 0), sRR (gFR 194),
  sP (fAld 0), sRI (gFI 192), sP (fIld 2), sWr wAI, sP (fAld 0), sRR (gFR 195),
  sP (fAld 0), sRI (gFI 192), sP (fIld 3), sWr wAI, sP (fAld 0), sP fDup,
  sRI (gFI 192), sP (fCon 1), sP (fII (fun x y => x + y)), sWr (wFI 192), sRet rV]
set_option maxRecDepth 100000 in
theorem ck_54 : in_54.map (fun q => zsem zTb (zlk zPl_3) (ztg in_54 q.1) false q.2.1) = cd_54.map some := rfl
/-- Log_detail -/
def in_55 : List zIns := [(0, .iload_n 1, 1), (1, .iconst (-1), 1), (2, .if_icmp .ne 12, 3), (5, .iload_n 2, 1), (6, .ifCond .ne 8, 3), (9, .aload_n 0, 1), (10, .getfield 21, 3), (13, .ireturn, 1),
  (14, .iload_n 1, 1), (15, .ifCond .lt 11, 3), (18, .iload_n 1, 1), (19, .aload_n 0, 1), (20, .getfield 21, 3), (23, .if_icmp .lt 6, 3), (26, .bipush (-2), 2), (28, .ireturn, 1),
  (29, .iload_n 2, 1), (30, .tableswitch 47 0 2 #[26, 33, 40], 26), (56, .aload_n 0, 1), (57, .getfield 9, 3), (60, .iload_n 1, 1), (61, .iaload, 1), (62, .ireturn, 1), (63, .aload_n 0, 1),
  (64, .getfield 15, 3), (67, .iload_n 1, 1), (68, .iaload, 1), (69, .ireturn, 1), (70, .aload_n 0, 1), (71, .getfield 18, 3), (74, .iload_n 1, 1), (75, .iaload, 1),
  (76, .ireturn, 1), (77, .bipush (-2), 2), (79, .ireturn, 1)]
def cd_55 : List zSem := [sP (fIld 1), sP (fCon (-1)), sBr (c2 (zcI .ne)) 8, sP (fIld 2), sBr (c1 (zc0 .ne)) 8, sP (fAld 0),
  sRI (gFI 192), sRet rI, sP (fIld 1), sBr (c1 (zc0 .lt)) 14, sP (fIld 1), sP (fAld 0),
  sRI (gFI 192), sBr (c2 (zcI .lt)) 16, sP (fCon (-2)), sRet rI, sP (fIld 2), sSw [(0, 18), (1, 23), (2, 28)] 33,
  sP (fAld 0), sRR (gFR 193), sP (fIld 1), sRI gAI, sRet rI, sP (fAld 0),
  sRR (gFR 194), sP (fIld 1), sRI gAI, sRet rI, sP (fAld 0), sRR (gFR 195),
  sP (fIld 1), sRI gAI, sRet rI, sP (fCon (-2)), sRet rI]
set_option maxRecDepth 100000 in
theorem ck_55 : in_55.map (fun q => zsem zTb (zlk zPl_3) (ztg in_55 q.1) false q.2.1) = cd_55.map some := rfl
/-- Plans_init -/
def in_56 : List zIns := [(0, .aload_n 0, 1), (1, .invokespecial 3, 3), (4, .aload_n 0, 1), (5, .sipush 576, 3), (8, .newarray .int, 2), (10, .putfield 11, 3), (13, .aload_n 0, 1), (14, .bipush 8, 2),
  (16, .newarray .int, 2), (18, .putfield 15, 3), (21, .aload_n 0, 1), (22, .sipush 256, 3), (25, .newarray .int, 2), (27, .putfield 18, 3), (30, .aload_n 0, 1), (31, .bipush 8, 2),
  (33, .newarray .int, 2), (35, .putfield 21, 3), (38, .return_, 1)]
def cd_56 : List zSem := [sP (fAld 0), sP fObj, sP (fAld 0), sP (fCon 576), sNA (znA 0), sWr (wFR 256),
  sP (fAld 0), sP (fCon 8), sNA (znA 0), sWr (wFR 257), sP (fAld 0), sP (fCon 256),
  sNA (znA 0), sWr (wFR 258), sP (fAld 0), sP (fCon 8), sNA (znA 0), sWr (wFR 259),
  sRet rV]
set_option maxRecDepth 100000 in
theorem ck_56 : in_56.map (fun q => zsem zTb (zlk zPl_4) (ztg in_56 q.1) false q.2.1) = cd_56.map some := rfl
/-- Plans_share -/
def in_57 : List zIns := [(0, .iconst 1, 1), (1, .aload_n 1, 1), (2, .getfield 24, 3), (5, .ishl, 1), (6, .istore 4, 2), (8, .iconst 0, 1), (9, .istore 5, 2), (11, .iload 5, 2),
  (13, .iload 4, 2), (15, .if_icmp .ge 25, 3), (18, .aload_n 0, 1), (19, .getfield 11, 3), (22, .aload_n 1, 1), (23, .getfield 30, 3), (26, .bipush 64, 2), (28, .imul, 1),
  (29, .iload 5, 2), (31, .iadd, 1), (32, .iconst 0, 1), (33, .iastore, 1), (34, .iinc 5 1, 3), (37, .goto (-26), 3), (40, .aload_n 1, 1), (41, .getfield 30, 3),
  (44, .iconst 1, 1), (45, .isub, 1), (46, .istore 5, 2), (48, .iload 5, 2), (50, .ifCond .lt 99, 3), (53, .aload_n 0, 1), (54, .getfield 15, 3), (57, .iload 5, 2),
  (59, .iconst 0, 1), (60, .iastore, 1), (61, .iconst 0, 1), (62, .istore 6, 2), (64, .iload 6, 2), (66, .aload_n 1, 1), (67, .getfield 24, 3), (70, .if_icmp .ge 36, 3),
  (73, .aload_n 1, 1), (74, .iload 6, 2), (76, .iload_n 2, 1), (77, .iload 5, 2), (79, .invokevirtual 33, 3), (82, .iload_n 3, 1), (83, .if_icmp .ne 17, 3), (86, .aload_n 0, 1),
  (87, .getfield 15, 3), (90, .iload 5, 2), (92, .dup2, 1), (93, .iaload, 1), (94, .iconst 1, 1), (95, .iload 6, 2), (97, .ishl, 1), (98, .ior, 1),
  (99, .iastore, 1), (100, .iinc 6 1, 3), (103, .goto (-39), 3), (106, .iconst 0, 1), (107, .istore 6, 2), (109, .iload 6, 2), (111, .iload 4, 2), (113, .if_icmp .ge 30, 3),
  (116, .aload_n 0, 1), (117, .getfield 11, 3), (120, .iload 5, 2), (122, .bipush 64, 2), (124, .imul, 1), (125, .iload 6, 2), (127, .iadd, 1), (128, .aload_n 0, 1),
  (129, .iload 5, 2), (131, .iload 6, 2), (133, .invokevirtual 37, 3), (136, .iastore, 1), (137, .iinc 6 1, 3), (140, .goto (-31), 3), (143, .iinc 5 (-1), 3), (146, .goto (-98), 3),
  (149, .return_, 1)]
def cd_57 : List zSem := [sP (fCon 1), sP (fAld 1), sRI (gFI 128), sP (fII zshl), sP (fIst 4), sP (fCon 0),
  sP (fIst 5), sP (fIld 5), sP (fIld 4), sBr (c2 (zcI .ge)) 22, sP (fAld 0), sRR (gFR 256),
  sP (fAld 1), sRI (gFI 130), sP (fCon 64), sP (fII (fun x y => x * y)), sP (fIld 5), sP (fII (fun x y => x + y)),
  sP (fCon 0), sWr wAI, sP (fInc 5 1), sGo 7, sP (fAld 1), sRI (gFI 130),
  sP (fCon 1), sP (fII (fun x y => x - y)), sP (fIst 5), sP (fIld 5), sBr (c1 (zc0 .lt)) 80, sP (fAld 0),
  sRR (gFR 257), sP (fIld 5), sP (fCon 0), sWr wAI, sP (fCon 0), sP (fIst 6),
  sP (fIld 6), sP (fAld 1), sRI (gFI 128), sBr (c2 (zcI .ge)) 59, sP (fAld 1), sP (fIld 6),
  sP (fIld 2), sP (fIld 5), sCI 51 4 (some 2) 4, sP (fIld 3), sBr (c2 (zcI .ne)) 57, sP (fAld 0),
  sRR (gFR 257), sP (fIld 5), sP fDup2, sRI gAI, sP (fCon 1), sP (fIld 6),
  sP (fII zshl), sP (fII (fun x y => x ||| y)), sWr wAI, sP (fInc 6 1), sGo 36, sP (fCon 0),
  sP (fIst 6), sP (fIld 6), sP (fIld 4), sBr (c2 (zcI .ge)) 78, sP (fAld 0), sRR (gFR 256),
  sP (fIld 5), sP (fCon 64), sP (fII (fun x y => x * y)), sP (fIld 6), sP (fII (fun x y => x + y)), sP (fAld 0),
  sP (fIld 5), sP (fIld 6), sCI 58 3 (some 4) 6, sWr wAI, sP (fInc 6 1), sGo 61,
  sP (fInc 5 (-1)), sGo 27, sRet rV]
set_option maxRecDepth 100000 in
theorem ck_57 : in_57.map (fun q => zsem zTb (zlk zPl_4) (ztg in_57 q.1) false q.2.1) = cd_57.map some := rfl
/-- Plans_bestShare -/
def in_58 : List zIns := [(0, .aload_n 0, 1), (1, .getfield 11, 3), (4, .iload_n 1, 1), (5, .iconst 1, 1), (6, .iadd, 1), (7, .bipush 64, 2), (9, .imul, 1), (10, .iload_n 2, 1),
  (11, .iadd, 1), (12, .iaload, 1), (13, .istore_n 3, 1), (14, .aload_n 0, 1), (15, .getfield 15, 3), (18, .iload_n 1, 1), (19, .iaload, 1), (20, .iload_n 2, 1),
  (21, .iconst (-1), 1), (22, .ixor, 1), (23, .iand, 1), (24, .istore 4, 2), (26, .iconst 0, 1), (27, .istore 5, 2), (29, .iload 5, 2), (31, .bipush 6, 2),
  (33, .if_icmp .ge 33, 3), (36, .iload 4, 2), (38, .iload 5, 2), (40, .ishr, 1), (41, .iconst 1, 1), (42, .iand, 1), (43, .iconst 1, 1), (44, .if_icmp .ne 16, 3),
  (47, .iload_n 3, 1), (48, .aload_n 0, 1), (49, .iload_n 1, 1), (50, .iload_n 2, 1), (51, .iload 5, 2), (53, .invokevirtual 41, 3), (56, .invokestatic 44, 3), (59, .istore_n 3, 1),
  (60, .iinc 5 1, 3), (63, .goto (-34), 3), (66, .iload_n 3, 1), (67, .ireturn, 1)]
def cd_58 : List zSem := [sP (fAld 0), sRR (gFR 256), sP (fIld 1), sP (fCon 1), sP (fII (fun x y => x + y)), sP (fCon 64),
  sP (fII (fun x y => x * y)), sP (fIld 2), sP (fII (fun x y => x + y)), sRI gAI, sP (fIst 3), sP (fAld 0),
  sRR (gFR 257), sP (fIld 1), sRI gAI, sP (fIld 2), sP (fCon (-1)), sP (fII (fun x y => x ^^^ y)),
  sP (fII (fun x y => x &&& y)), sP (fIst 4), sP (fCon 0), sP (fIst 5), sP (fIld 5), sP (fCon 6),
  sBr (c2 (zcI .ge)) 42, sP (fIld 4), sP (fIld 5), sP (fII zshr), sP (fCon 1), sP (fII (fun x y => x &&& y)),
  sP (fCon 1), sBr (c2 (zcI .ne)) 40, sP (fIld 3), sP (fAld 0), sP (fIld 1), sP (fIld 2),
  sP (fIld 5), sCI 59 4 (some 4) 5, sP (fMM zmax), sP (fIst 3), sP (fInc 5 1), sGo 22,
  sP (fIld 3), sRet rI]
set_option maxRecDepth 100000 in
theorem ck_58 : in_58.map (fun q => zsem zTb (zlk zPl_4) (ztg in_58 q.1) false q.2.1) = cd_58.map some := rfl
/-- Plans_shareBy -/
def in_59 : List zIns := [(0, .aload_n 0, 1), (1, .getfield 15, 3), (4, .iload_n 1, 1), (5, .iaload, 1), (6, .iload_n 3, 1), (7, .ishr, 1), (8, .iconst 1, 1), (9, .iand, 1),
  (10, .istore 4, 2), (12, .iload 4, 2), (14, .aload_n 0, 1), (15, .getfield 11, 3), (18, .iload_n 1, 1), (19, .iconst 1, 1), (20, .iadd, 1), (21, .bipush 64, 2),
  (23, .imul, 1), (24, .iload_n 2, 1), (25, .iconst 1, 1), (26, .iload_n 3, 1), (27, .ishl, 1), (28, .ior, 1), (29, .iadd, 1), (30, .iaload, 1),
  (31, .iadd, 1), (32, .ireturn, 1)]
def cd_59 : List zSem := [sP (fAld 0), sRR (gFR 257), sP (fIld 1), sRI gAI, sP (fIld 3), sP (fII zshr),
  sP (fCon 1), sP (fII (fun x y => x &&& y)), sP (fIst 4), sP (fIld 4), sP (fAld 0), sRR (gFR 256),
  sP (fIld 1), sP (fCon 1), sP (fII (fun x y => x + y)), sP (fCon 64), sP (fII (fun x y => x * y)), sP (fIld 2),
  sP (fCon 1), sP (fIld 3), sP (fII zshl), sP (fII (fun x y => x ||| y)), sP (fII (fun x y => x + y)), sRI gAI,
  sP (fII (fun x y => x + y)), sRet rI]
set_option maxRecDepth 100000 in
theorem ck_59 : in_59.map (fun q => zsem zTb (zlk zPl_4) (ztg in_59 q.1) false q.2.1) = cd_59.map some := rfl
/-- Plans_mostShared -/
def in_60 : List zIns := [(0, .aload_n 0, 1), (1, .getfield 11, 3), (4, .iconst 0, 1), (5, .iaload, 1), (6, .ireturn, 1)]
def cd_60 : List zSem := [sP (fAld 0), sRR (gFR 256), sP (fCon 0), sRI gAI, sRet rI]
set_option maxRecDepth 100000 in
theorem ck_60 : in_60.map (fun q => zsem zTb (zlk zPl_4) (ztg in_60 q.1) false q.2.1) = cd_60.map some := rfl
/-- Plans_sharedReed -/
def in_61 : List zIns := [(0, .iconst 0, 1), (1, .istore_n 3, 1), (2, .bipush 6, 2), (4, .istore 4, 2), (6, .iconst 0, 1), (7, .istore 5, 2), (9, .iload 5, 2), (11, .iload_n 2, 1),
  (12, .if_icmp .gt 33, 3), (15, .aload_n 0, 1), (16, .aload_n 1, 1), (17, .iload 5, 2), (19, .iload_n 3, 1), (20, .invokevirtual 49, 3), (23, .istore 4, 2), (25, .iload 4, 2),
  (27, .bipush 6, 2), (29, .if_icmp .ge 10, 3), (32, .iload_n 3, 1), (33, .iconst 1, 1), (34, .iload 4, 2), (36, .ishl, 1), (37, .ior, 1), (38, .istore_n 3, 1),
  (39, .iinc 5 1, 3), (42, .goto (-33), 3), (45, .iload 4, 2), (47, .ireturn, 1)]
def cd_61 : List zSem := [sP (fCon 0), sP (fIst 3), sP (fCon 6), sP (fIst 4), sP (fCon 0), sP (fIst 5),
  sP (fIld 5), sP (fIld 2), sBr (c2 (zcI .gt)) 26, sP (fAld 0), sP (fAld 1), sP (fIld 5),
  sP (fIld 3), sCI 62 4 (some 4) 6, sP (fIst 4), sP (fIld 4), sP (fCon 6), sBr (c2 (zcI .ge)) 24,
  sP (fIld 3), sP (fCon 1), sP (fIld 4), sP (fII zshl), sP (fII (fun x y => x ||| y)), sP (fIst 3),
  sP (fInc 5 1), sGo 6, sP (fIld 4), sRet rI]
set_option maxRecDepth 100000 in
theorem ck_61 : in_61.map (fun q => zsem zTb (zlk zPl_4) (ztg in_61 q.1) false q.2.1) = cd_61.map some := rfl
/-- Plans_firstShare -/
def in_62 : List zIns := [(0, .aload_n 0, 1), (1, .getfield 11, 3), (4, .iload_n 2, 1), (5, .bipush 64, 2), (7, .imul, 1), (8, .iload_n 3, 1), (9, .iadd, 1), (10, .iaload, 1),
  (11, .istore 4, 2), (13, .iconst 0, 1), (14, .istore 5, 2), (16, .iload 5, 2), (18, .aload_n 1, 1), (19, .getfield 24, 3), (22, .if_icmp .ge 34, 3), (25, .iload_n 3, 1),
  (26, .iload 5, 2), (28, .ishr, 1), (29, .iconst 1, 1), (30, .iand, 1), (31, .ifCond .ne 19, 3), (34, .aload_n 0, 1), (35, .iload_n 2, 1), (36, .iload_n 3, 1),
  (37, .iload 5, 2), (39, .invokevirtual 41, 3), (42, .iload 4, 2), (44, .if_icmp .ne 6, 3), (47, .iload 5, 2), (49, .ireturn, 1), (50, .iinc 5 1, 3), (53, .goto (-37), 3),
  (56, .bipush 6, 2), (58, .ireturn, 1)]
def cd_62 : List zSem := [sP (fAld 0), sRR (gFR 256), sP (fIld 2), sP (fCon 64), sP (fII (fun x y => x * y)), sP (fIld 3),
  sP (fII (fun x y => x + y)), sRI gAI, sP (fIst 4), sP (fCon 0), sP (fIst 5), sP (fIld 5),
  sP (fAld 1), sRI (gFI 128), sBr (c2 (zcI .ge)) 32, sP (fIld 3), sP (fIld 5), sP (fII zshr),
  sP (fCon 1), sP (fII (fun x y => x &&& y)), sBr (c1 (zc0 .ne)) 30, sP (fAld 0), sP (fIld 2), sP (fIld 3),
  sP (fIld 5), sCI 59 4 (some 4) 5, sP (fIld 4), sBr (c2 (zcI .ne)) 30, sP (fIld 5), sRet rI,
  sP (fInc 5 1), sGo 11, sP (fCon 6), sRet rI]
set_option maxRecDepth 100000 in
theorem ck_62 : in_62.map (fun q => zsem zTb (zlk zPl_4) (ztg in_62 q.1) false q.2.1) = cd_62.map some := rfl
/-- Plans_findLost -/
def in_63 : List zIns := [(0, .iconst 0, 1), (1, .istore 4, 2), (3, .iload 4, 2), (5, .aload_n 1, 1), (6, .getfield 30, 3), (9, .if_icmp .ge 62, 3), (12, .aload_n 0, 1), (13, .getfield 21, 3),
  (16, .iload 4, 2), (18, .iconst 0, 1), (19, .iastore, 1), (20, .iconst 0, 1), (21, .istore 5, 2), (23, .iload 5, 2), (25, .aload_n 1, 1), (26, .getfield 30, 3),
  (29, .if_icmp .ge 36, 3), (32, .aload_n 1, 1), (33, .iload_n 2, 1), (34, .iload 4, 2), (36, .iload_n 3, 1), (37, .iload 5, 2), (39, .invokevirtual 53, 3), (42, .ifCond .gt 17, 3),
  (45, .aload_n 0, 1), (46, .getfield 21, 3), (49, .iload 4, 2), (51, .dup2, 1), (52, .iaload, 1), (53, .iconst 1, 1), (54, .iload 5, 2), (56, .ishl, 1),
  (57, .ior, 1), (58, .iastore, 1), (59, .iinc 5 1, 3), (62, .goto (-39), 3), (65, .iinc 4 1, 3), (68, .goto (-65), 3), (71, .return_, 1)]
def cd_63 : List zSem := [sP (fCon 0), sP (fIst 4), sP (fIld 4), sP (fAld 1), sRI (gFI 130), sBr (c2 (zcI .ge)) 38,
  sP (fAld 0), sRR (gFR 259), sP (fIld 4), sP (fCon 0), sWr wAI, sP (fCon 0),
  sP (fIst 5), sP (fIld 5), sP (fAld 1), sRI (gFI 130), sBr (c2 (zcI .ge)) 36, sP (fAld 1),
  sP (fIld 2), sP (fIld 4), sP (fIld 3), sP (fIld 5), sCI 49 5 (some 2) 5, sBr (c1 (zc0 .gt)) 34,
  sP (fAld 0), sRR (gFR 259), sP (fIld 4), sP fDup2, sRI gAI, sP (fCon 1),
  sP (fIld 5), sP (fII zshl), sP (fII (fun x y => x ||| y)), sWr wAI, sP (fInc 5 1), sGo 13,
  sP (fInc 4 1), sGo 2, sRet rV]
set_option maxRecDepth 100000 in
theorem ck_63 : in_63.map (fun q => zsem zTb (zlk zPl_4) (ztg in_63 q.1) false q.2.1) = cd_63.map some := rfl
/-- Plans_isLost -/
def in_64 : List zIns := [(0, .iload_n 1, 1), (1, .invokestatic 57, 3), (4, .istore_n 3, 1), (5, .iload_n 3, 1), (6, .bipush 8, 2), (8, .if_icmp .ge 17, 3), (11, .aload_n 0, 1), (12, .getfield 21, 3),
  (15, .iload_n 3, 1), (16, .iaload, 1), (17, .iload_n 2, 1), (18, .ishr, 1), (19, .iconst 1, 1), (20, .iand, 1), (21, .iconst 1, 1), (22, .if_icmp .ne 7, 3),
  (25, .iconst 1, 1), (26, .goto 4, 3), (29, .iconst 0, 1), (30, .ireturn, 1)]
def cd_64 : List zSem := [sP (fIld 1), sCI 325 1 none 1, sP (fIst 3), sP (fIld 3), sP (fCon 8), sBr (c2 (zcI .ge)) 16,
  sP (fAld 0), sRR (gFR 259), sP (fIld 3), sRI gAI, sP (fIld 2), sP (fII zshr),
  sP (fCon 1), sP (fII (fun x y => x &&& y)), sP (fCon 1), sBr (c2 (zcI .ne)) 18, sP (fCon 1), sGo 19,
  sP (fCon 0), sRz]
set_option maxRecDepth 100000 in
theorem ck_64 : in_64.map (fun q => zsem zTb (zlk zPl_4) (ztg in_64 q.1) true q.2.1) = cd_64.map some := rfl
/-- Plans_play -/
def in_65 : List zIns := [(0, .aload_n 0, 1), (1, .aload_n 1, 1), (2, .iload_n 2, 1), (3, .iload_n 3, 1), (4, .invokevirtual 63, 3), (7, .iconst 1, 1), (8, .aload_n 1, 1), (9, .getfield 30, 3),
  (12, .ishl, 1), (13, .iconst 1, 1), (14, .isub, 1), (15, .istore 4, 2), (17, .aload_n 0, 1), (18, .getfield 18, 3), (21, .iload 4, 2), (23, .iconst 0, 1),
  (24, .iastore, 1), (25, .iload 4, 2), (27, .iconst 1, 1), (28, .isub, 1), (29, .istore 5, 2), (31, .iload 5, 2), (33, .ifCond .lt 70, 3), (36, .iconst (-1), 1),
  (37, .istore 6, 2), (39, .iconst 0, 1), (40, .istore 7, 2), (42, .iload 7, 2), (44, .aload_n 1, 1), (45, .getfield 30, 3), (48, .if_icmp .ge 40, 3), (51, .iload 6, 2),
  (53, .iconst 1, 1), (54, .if_icmp .ge 34, 3), (57, .iload 5, 2), (59, .iload 7, 2), (61, .ishr, 1), (62, .iconst 1, 1), (63, .iand, 1), (64, .ifCond .ne 18, 3),
  (67, .iload 6, 2), (69, .aload_n 0, 1), (70, .iload 5, 2), (72, .iload 7, 2), (74, .invokevirtual 67, 3), (77, .invokestatic 44, 3), (80, .istore 6, 2), (82, .iinc 7 1, 3),
  (85, .goto (-43), 3), (88, .aload_n 0, 1), (89, .getfield 18, 3), (92, .iload 5, 2), (94, .iload 6, 2), (96, .iastore, 1), (97, .iinc 5 (-1), 3), (100, .goto (-69), 3),
  (103, .return_, 1)]
def cd_65 : List zSem := [sP (fAld 0), sP (fAld 1), sP (fIld 2), sP (fIld 3), sCV 63 4 (some 4) 6, sP (fCon 1),
  sP (fAld 1), sRI (gFI 130), sP (fII zshl), sP (fCon 1), sP (fII (fun x y => x - y)), sP (fIst 4),
  sP (fAld 0), sRR (gFR 258), sP (fIld 4), sP (fCon 0), sWr wAI, sP (fIld 4),
  sP (fCon 1), sP (fII (fun x y => x - y)), sP (fIst 5), sP (fIld 5), sBr (c1 (zc0 .lt)) 56, sP (fCon (-1)),
  sP (fIst 6), sP (fCon 0), sP (fIst 7), sP (fIld 7), sP (fAld 1), sRI (gFI 130),
  sBr (c2 (zcI .ge)) 49, sP (fIld 6), sP (fCon 1), sBr (c2 (zcI .ge)) 49, sP (fIld 5), sP (fIld 7),
  sP (fII zshr), sP (fCon 1), sP (fII (fun x y => x &&& y)), sBr (c1 (zc0 .ne)) 47, sP (fIld 6), sP (fAld 0),
  sP (fIld 5), sP (fIld 7), sCI 66 3 (some 4) 3, sP (fMM zmax), sP (fIst 6), sP (fInc 7 1),
  sGo 27, sP (fAld 0), sRR (gFR 258), sP (fIld 5), sP (fIld 6), sWr wAI,
  sP (fInc 5 (-1)), sGo 21, sRet rV]
set_option maxRecDepth 100000 in
theorem ck_65 : in_65.map (fun q => zsem zTb (zlk zPl_4) (ztg in_65 q.1) false q.2.1) = cd_65.map some := rfl
/-- Plans_dareWorth -/
def in_66 : List zIns := [(0, .aload_n 0, 1), (1, .iload_n 1, 1), (2, .iload_n 2, 1), (3, .invokevirtual 70, 3), (6, .ifCond .eq 7, 3), (9, .iconst (-1), 1), (10, .goto 14, 3), (13, .aload_n 0, 1),
  (14, .getfield 18, 3), (17, .iload_n 1, 1), (18, .iconst 1, 1), (19, .iload_n 2, 1), (20, .ishl, 1), (21, .ior, 1), (22, .iaload, 1), (23, .ineg, 1),
  (24, .ireturn, 1)]
def cd_66 : List zSem := [sP (fAld 0), sP (fIld 1), sP (fIld 2), sCI 64 3 (some 4) 4, sBr (c1 (zc0 .eq)) 7, sP (fCon (-1)),
  sGo 16, sP (fAld 0), sRR (gFR 258), sP (fIld 1), sP (fCon 1), sP (fIld 2),
  sP (fII zshl), sP (fII (fun x y => x ||| y)), sRI gAI, sP (fI1 (fun x => -x)), sRet rI]
set_option maxRecDepth 100000 in
theorem ck_66 : in_66.map (fun q => zsem zTb (zlk zPl_4) (ztg in_66 q.1) false q.2.1) = cd_66.map some := rfl
/-- Plans_outcome -/
def in_67 : List zIns := [(0, .aload_n 0, 1), (1, .getfield 18, 3), (4, .iconst 0, 1), (5, .iaload, 1), (6, .lookupswitch 30 #[(0, 28), (1, 26)], 26), (32, .iconst 1, 1), (33, .ireturn, 1), (34, .iconst 2, 1),
  (35, .ireturn, 1), (36, .iconst 0, 1), (37, .ireturn, 1)]
def cd_67 : List zSem := [sP (fAld 0), sRR (gFR 258), sP (fCon 0), sRI gAI, sSw [(0, 7), (1, 5)] 9, sP (fCon 1),
  sRet rI, sP (fCon 2), sRet rI, sP (fCon 0), sRet rI]
set_option maxRecDepth 100000 in
theorem ck_67 : in_67.map (fun q => zsem zTb (zlk zPl_4) (ztg in_67 q.1) false q.2.1) = cd_67.map some := rfl
/-- Plans_firstDare -/
def in_68 : List zIns := [(0, .iconst 0, 1), (1, .istore_n 2, 1), (2, .iload_n 2, 1), (3, .aload_n 1, 1), (4, .getfield 30, 3), (7, .if_icmp .ge 26, 3), (10, .aload_n 0, 1), (11, .iconst 0, 1),
  (12, .iload_n 2, 1), (13, .invokevirtual 67, 3), (16, .aload_n 0, 1), (17, .getfield 18, 3), (20, .iconst 0, 1), (21, .iaload, 1), (22, .if_icmp .ne 5, 3), (25, .iload_n 2, 1),
  (26, .ireturn, 1), (27, .iinc 2 1, 3), (30, .goto (-28), 3), (33, .iconst (-1), 1), (34, .ireturn, 1)]
def cd_68 : List zSem := [sP (fCon 0), sP (fIst 2), sP (fIld 2), sP (fAld 1), sRI (gFI 130), sBr (c2 (zcI .ge)) 19,
  sP (fAld 0), sP (fCon 0), sP (fIld 2), sCI 66 3 (some 4) 3, sP (fAld 0), sRR (gFR 258),
  sP (fCon 0), sRI gAI, sBr (c2 (zcI .ne)) 17, sP (fIld 2), sRet rI, sP (fInc 2 1),
  sGo 2, sP (fCon (-1)), sRet rI]
set_option maxRecDepth 100000 in
theorem ck_68 : in_68.map (fun q => zsem zTb (zlk zPl_4) (ztg in_68 q.1) false q.2.1) = cd_68.map some := rfl
/-- Plans_compose -/
def in_69 : List zIns := [(0, .aload_n 0, 1), (1, .aload_n 1, 1), (2, .iload_n 2, 1), (3, .iload_n 3, 1), (4, .invokevirtual 63, 3), (7, .iconst 1, 1), (8, .aload_n 1, 1), (9, .getfield 30, 3),
  (12, .ishl, 1), (13, .iconst 1, 1), (14, .isub, 1), (15, .istore 4, 2), (17, .aload_n 0, 1), (18, .getfield 18, 3), (21, .iload 4, 2), (23, .iconst 0, 1),
  (24, .iastore, 1), (25, .iload 4, 2), (27, .iconst 1, 1), (28, .isub, 1), (29, .istore 5, 2), (31, .iload 5, 2), (33, .ifCond .lt 64, 3), (36, .iconst 0, 1),
  (37, .istore 6, 2), (39, .iconst 0, 1), (40, .istore 7, 2), (42, .iload 7, 2), (44, .aload_n 1, 1), (45, .getfield 30, 3), (48, .if_icmp .ge 34, 3), (51, .iload 5, 2),
  (53, .iload 7, 2), (55, .ishr, 1), (56, .iconst 1, 1), (57, .iand, 1), (58, .ifCond .ne 18, 3), (61, .iload 6, 2), (63, .aload_n 0, 1), (64, .iload 5, 2),
  (66, .iload 7, 2), (68, .invokevirtual 74, 3), (71, .invokestatic 44, 3), (74, .istore 6, 2), (76, .iinc 7 1, 3), (79, .goto (-37), 3), (82, .aload_n 0, 1), (83, .getfield 18, 3),
  (86, .iload 5, 2), (88, .iload 6, 2), (90, .iastore, 1), (91, .iinc 5 (-1), 3), (94, .goto (-63), 3), (97, .return_, 1)]
def cd_69 : List zSem := [sP (fAld 0), sP (fAld 1), sP (fIld 2), sP (fIld 3), sCV 63 4 (some 4) 6, sP (fCon 1),
  sP (fAld 1), sRI (gFI 130), sP (fII zshl), sP (fCon 1), sP (fII (fun x y => x - y)), sP (fIst 4),
  sP (fAld 0), sRR (gFR 258), sP (fIld 4), sP (fCon 0), sWr wAI, sP (fIld 4),
  sP (fCon 1), sP (fII (fun x y => x - y)), sP (fIst 5), sP (fIld 5), sBr (c1 (zc0 .lt)) 53, sP (fCon 0),
  sP (fIst 6), sP (fCon 0), sP (fIst 7), sP (fIld 7), sP (fAld 1), sRI (gFI 130),
  sBr (c2 (zcI .ge)) 46, sP (fIld 5), sP (fIld 7), sP (fII zshr), sP (fCon 1), sP (fII (fun x y => x &&& y)),
  sBr (c1 (zc0 .ne)) 44, sP (fIld 6), sP (fAld 0), sP (fIld 5), sP (fIld 7), sCI 70 3 (some 4) 3,
  sP (fMM zmax), sP (fIst 6), sP (fInc 7 1), sGo 27, sP (fAld 0), sRR (gFR 258),
  sP (fIld 5), sP (fIld 6), sWr wAI, sP (fInc 5 (-1)), sGo 21, sRet rV]
set_option maxRecDepth 100000 in
theorem ck_69 : in_69.map (fun q => zsem zTb (zlk zPl_4) (ztg in_69 q.1) false q.2.1) = cd_69.map some := rfl
/-- Plans_programWorth -/
def in_70 : List zIns := [(0, .aload_n 0, 1), (1, .iload_n 1, 1), (2, .iload_n 2, 1), (3, .invokevirtual 70, 3), (6, .ifCond .eq 7, 3), (9, .iconst 0, 1), (10, .goto 15, 3), (13, .iconst 1, 1),
  (14, .aload_n 0, 1), (15, .getfield 18, 3), (18, .iload_n 1, 1), (19, .iconst 1, 1), (20, .iload_n 2, 1), (21, .ishl, 1), (22, .ior, 1), (23, .iaload, 1),
  (24, .iadd, 1), (25, .ireturn, 1)]
def cd_70 : List zSem := [sP (fAld 0), sP (fIld 1), sP (fIld 2), sCI 64 3 (some 4) 4, sBr (c1 (zc0 .eq)) 7, sP (fCon 0),
  sGo 17, sP (fCon 1), sP (fAld 0), sRR (gFR 258), sP (fIld 1), sP (fCon 1),
  sP (fIld 2), sP (fII zshl), sP (fII (fun x y => x ||| y)), sRI gAI, sP (fII (fun x y => x + y)), sRet rI]
set_option maxRecDepth 100000 in
theorem ck_70 : in_70.map (fun q => zsem zTb (zlk zPl_4) (ztg in_70 q.1) false q.2.1) = cd_70.map some := rfl
/-- Plans_longest -/
def in_71 : List zIns := [(0, .aload_n 0, 1), (1, .getfield 18, 3), (4, .iconst 0, 1), (5, .iaload, 1), (6, .ireturn, 1)]
def cd_71 : List zSem := [sP (fAld 0), sRR (gFR 258), sP (fCon 0), sRI gAI, sRet rI]
set_option maxRecDepth 100000 in
theorem ck_71 : in_71.map (fun q => zsem zTb (zlk zPl_4) (ztg in_71 q.1) false q.2.1) = cd_71.map some := rfl
/-- Plans_programAt -/
def in_72 : List zIns := [(0, .iload_n 2, 1), (1, .ifCond .lt 13, 3), (4, .iload_n 2, 1), (5, .aload_n 0, 1), (6, .getfield 18, 3), (9, .iconst 0, 1), (10, .iaload, 1), (11, .if_icmp .lt 5, 3),
  (14, .iconst (-1), 1), (15, .ireturn, 1), (16, .iconst 0, 1), (17, .istore_n 3, 1), (18, .iconst (-1), 1), (19, .istore 4, 2), (21, .iconst 0, 1), (22, .istore 5, 2),
  (24, .iload 5, 2), (26, .iload_n 2, 1), (27, .if_icmp .gt 32, 3), (30, .aload_n 0, 1), (31, .aload_n 1, 1), (32, .iload_n 3, 1), (33, .invokevirtual 77, 3), (36, .istore 4, 2),
  (38, .iload 4, 2), (40, .iconst (-1), 1), (41, .if_icmp .ne 5, 3), (44, .iconst (-1), 1), (45, .ireturn, 1), (46, .iload_n 3, 1), (47, .iconst 1, 1), (48, .iload 4, 2),
  (50, .ishl, 1), (51, .ior, 1), (52, .istore_n 3, 1), (53, .iinc 5 1, 3), (56, .goto (-32), 3), (59, .iload 4, 2), (61, .ireturn, 1)]
def cd_72 : List zSem := [sP (fIld 2), sBr (c1 (zc0 .lt)) 8, sP (fIld 2), sP (fAld 0), sRR (gFR 258), sP (fCon 0),
  sRI gAI, sBr (c2 (zcI .lt)) 10, sP (fCon (-1)), sRet rI, sP (fCon 0), sP (fIst 3),
  sP (fCon (-1)), sP (fIst 4), sP (fCon 0), sP (fIst 5), sP (fIld 5), sP (fIld 2),
  sBr (c2 (zcI .gt)) 37, sP (fAld 0), sP (fAld 1), sP (fIld 3), sCI 73 3 (some 4) 4, sP (fIst 4),
  sP (fIld 4), sP (fCon (-1)), sBr (c2 (zcI .ne)) 29, sP (fCon (-1)), sRet rI, sP (fIld 3),
  sP (fCon 1), sP (fIld 4), sP (fII zshl), sP (fII (fun x y => x ||| y)), sP (fIst 3), sP (fInc 5 1),
  sGo 16, sP (fIld 4), sRet rI]
set_option maxRecDepth 100000 in
theorem ck_72 : in_72.map (fun q => zsem zTb (zlk zPl_4) (ztg in_72 q.1) false q.2.1) = cd_72.map some := rfl
/-- Plans_firstProgram -/
def in_73 : List zIns := [(0, .iconst 0, 1), (1, .istore_n 3, 1), (2, .iload_n 3, 1), (3, .aload_n 1, 1), (4, .getfield 30, 3), (7, .if_icmp .ge 34, 3), (10, .iload_n 2, 1), (11, .iload_n 3, 1),
  (12, .ishr, 1), (13, .iconst 1, 1), (14, .iand, 1), (15, .ifCond .ne 20, 3), (18, .aload_n 0, 1), (19, .iload_n 2, 1), (20, .iload_n 3, 1), (21, .invokevirtual 74, 3),
  (24, .aload_n 0, 1), (25, .getfield 18, 3), (28, .iload_n 2, 1), (29, .iaload, 1), (30, .if_icmp .ne 5, 3), (33, .iload_n 3, 1), (34, .ireturn, 1), (35, .iinc 3 1, 3),
  (38, .goto (-36), 3), (41, .iconst (-1), 1), (42, .ireturn, 1)]
def cd_73 : List zSem := [sP (fCon 0), sP (fIst 3), sP (fIld 3), sP (fAld 1), sRI (gFI 130), sBr (c2 (zcI .ge)) 25,
  sP (fIld 2), sP (fIld 3), sP (fII zshr), sP (fCon 1), sP (fII (fun x y => x &&& y)), sBr (c1 (zc0 .ne)) 23,
  sP (fAld 0), sP (fIld 2), sP (fIld 3), sCI 70 3 (some 4) 3, sP (fAld 0), sRR (gFR 258),
  sP (fIld 2), sRI gAI, sBr (c2 (zcI .ne)) 23, sP (fIld 3), sRet rI, sP (fInc 3 1),
  sGo 2, sP (fCon (-1)), sRet rI]
set_option maxRecDepth 100000 in
theorem ck_73 : in_73.map (fun q => zsem zTb (zlk zPl_4) (ztg in_73 q.1) false q.2.1) = cd_73.map some := rfl
/-- Reader_init -/
def in_74 : List zIns := [(0, .aload_n 0, 1), (1, .invokespecial 3, 3), (4, .aload_n 0, 1), (5, .aload_n 1, 1), (6, .putfield 9, 3), (9, .aload_n 0, 1), (10, .new 15, 3), (13, .dup, 1),
  (14, .invokespecial 17, 3), (17, .putfield 18, 3), (20, .aload_n 0, 1), (21, .new 22, 3), (24, .dup, 1), (25, .invokespecial 24, 3), (28, .putfield 25, 3), (31, .aload_n 0, 1),
  (32, .new 29, 3), (35, .dup, 1), (36, .invokespecial 31, 3), (39, .putfield 32, 3), (42, .aload_n 0, 1), (43, .iconst 5, 1), (44, .newarray .int, 2), (46, .putfield 36, 3),
  (49, .return_, 1)]
def cd_74 : List zSem := [sP (fAld 0), sP fObj, sP (fAld 0), sP (fAld 1), sWr (wFR 325), sP (fAld 0),
  sNw (nO zTb 2), sP fDup, sCV 33 1 (some 2) 1, sWr (wFR 320), sP (fAld 0), sNw (nO zTb 10),
  sP fDup, sCV 144 1 (some 10) 1, sWr (wFR 321), sP (fAld 0), sNw (nO zTb 3), sP fDup,
  sCV 52 1 (some 3) 1, sWr (wFR 322), sP (fAld 0), sP (fCon 5), sNA (znA 0), sWr (wFR 326),
  sRet rV]
set_option maxRecDepth 100000 in
theorem ck_74 : in_74.map (fun q => zsem zTb (zlk zPl_5) (ztg in_74 q.1) false q.2.1) = cd_74.map some := rfl
/-- Reader_read -/
def in_75 : List zIns := [(0, .aload_n 0, 1), (1, .getfield 18, 3), (4, .invokevirtual 40, 3), (7, .aload_n 0, 1), (8, .getfield 25, 3), (11, .iconst 0, 1), (12, .putfield 43, 3), (15, .aload_n 0, 1),
  (16, .getfield 32, 3), (19, .iconst 0, 1), (20, .putfield 47, 3), (23, .aload_n 0, 1), (24, .iconst 0, 1), (25, .putfield 48, 3), (28, .aload_n 0, 1), (29, .iconst (-1), 1),
  (30, .putfield 51, 3), (33, .aload_n 0, 1), (34, .iconst 0, 1), (35, .putfield 54, 3), (38, .aload_n 0, 1), (39, .invokevirtual 57, 3), (42, .iconst 0, 1), (43, .istore_n 2, 1),
  (44, .iload_n 2, 1), (45, .sipush 600, 3), (48, .if_icmp .ge 39, 3), (51, .aload_n 0, 1), (52, .getfield 60, 3), (55, .iconst 3, 1), (56, .if_icmp .eq 31, 3), (59, .aload_n 0, 1),
  (60, .iload_n 1, 1), (61, .invokevirtual 63, 3), (64, .ifCond .ne 17, 3), (67, .aload_n 0, 1), (68, .iconst 1, 1), (69, .putfield 48, 3), (72, .aload_n 0, 1), (73, .aload_n 0, 1),
  (74, .getfield 67, 3), (77, .putfield 51, 3), (80, .return_, 1), (81, .iinc 2 1, 3), (84, .goto (-40), 3), (87, .return_, 1)]
def cd_75 : List zSem := [sP (fAld 0), sRR (gFR 320), sCV 34 1 (some 2) 2, sP (fAld 0), sRR (gFR 321), sP (fCon 0),
  sWr (wFI 640), sP (fAld 0), sRR (gFR 322), sP (fCon 0), sWr (wFI 192), sP (fAld 0),
  sP (fCon 0), sWr (wFI 323), sP (fAld 0), sP (fCon (-1)), sWr (wFI 324), sP (fAld 0),
  sP (fCon 0), sWr (wFI 327), sP (fAld 0), sCV 87 1 (some 5) 1, sP (fCon 0), sP (fIst 2),
  sP (fIld 2), sP (fCon 600), sBr (c2 (zcI .ge)) 45, sP (fAld 0), sRI (gFI 329), sP (fCon 3),
  sBr (c2 (zcI .eq)) 45, sP (fAld 0), sP (fIld 1), sCI 76 2 (some 5) 4, sBr (c1 (zc0 .ne)) 43, sP (fAld 0),
  sP (fCon 1), sWr (wFI 323), sP (fAld 0), sP (fAld 0), sRI (gFI 328), sWr (wFI 324),
  sRet rV, sP (fInc 2 1), sGo 24, sRet rV]
set_option maxRecDepth 100000 in
theorem ck_75 : in_75.map (fun q => zsem zTb (zlk zPl_5) (ztg in_75 q.1) false q.2.1) = cd_75.map some := rfl
/-- Reader_readLine -/
def in_76 : List zIns := [(0, .aload_n 0, 1), (1, .getfield 60, 3), (4, .ifCond .ne 11, 3), (7, .aload_n 0, 1), (8, .iload_n 1, 1), (9, .invokevirtual 70, 3), (12, .goto 4, 3), (15, .iconst (-1), 1),
  (16, .istore_n 2, 1), (17, .iload_n 2, 1), (18, .iconst (-1), 1), (19, .if_icmp .ne 5, 3), (22, .iconst 0, 1), (23, .ireturn, 1), (24, .aload_n 0, 1), (25, .iload_n 2, 1),
  (26, .invokevirtual 74, 3), (29, .ifCond .eq 8, 3), (32, .aload_n 0, 1), (33, .iconst 3, 1), (34, .invokevirtual 77, 3), (37, .aload_n 0, 1), (38, .invokevirtual 57, 3), (41, .iconst 0, 1),
  (42, .istore_n 3, 1), (43, .iload_n 3, 1), (44, .getstatic 81, 3), (47, .iload_n 2, 1), (48, .iaload, 1), (49, .if_icmp .ge 47, 3), (52, .aload_n 0, 1), (53, .getfield 60, 3),
  (56, .iconst 1, 1), (57, .if_icmp .eq 5, 3), (60, .iconst 0, 1), (61, .ireturn, 1), (62, .aload_n 0, 1), (63, .getfield 36, 3), (66, .iload_n 3, 1), (67, .aload_n 0, 1),
  (68, .getfield 84, 3), (71, .iastore, 1), (72, .aload_n 0, 1), (73, .iload_n 2, 1), (74, .iload_n 3, 1), (75, .invokevirtual 87, 3), (78, .ifCond .ne 8, 3), (81, .aload_n 0, 1),
  (82, .iconst 2, 1), (83, .invokevirtual 77, 3), (86, .aload_n 0, 1), (87, .invokevirtual 57, 3), (90, .iinc 3 1, 3), (93, .goto (-50), 3), (96, .iconst (-1), 1), (97, .istore_n 3, 1),
  (98, .iload_n 2, 1), (99, .iconst 4, 1), (100, .if_icmp .ne 30, 3), (103, .aload_n 0, 1), (104, .getfield 60, 3), (107, .ifCond .ne 10, 3), (110, .aload_n 0, 1), (111, .invokevirtual 91, 3),
  (114, .goto 4, 3), (117, .iconst (-1), 1), (118, .istore_n 3, 1), (119, .iload_n 3, 1), (120, .iconst (-1), 1), (121, .if_icmp .ne 5, 3), (124, .iconst 0, 1), (125, .ireturn, 1),
  (126, .aload_n 0, 1), (127, .invokevirtual 57, 3), (130, .aload_n 0, 1), (131, .getfield 60, 3), (134, .iconst 2, 1), (135, .if_icmp .eq 5, 3), (138, .iconst 0, 1), (139, .ireturn, 1),
  (140, .aload_n 0, 1), (141, .getfield 48, 3), (144, .ifCond .ne 9, 3), (147, .aload_n 0, 1), (148, .iload_n 2, 1), (149, .iload_n 3, 1), (150, .invokevirtual 95, 3), (153, .aload_n 0, 1),
  (154, .invokevirtual 57, 3), (157, .iconst 1, 1), (158, .ireturn, 1)]
def cd_76 : List zSem := [sP (fAld 0), sRI (gFI 329), sBr (c1 (zc0 .ne)) 7, sP (fAld 0), sP (fIld 1), sCI 81 2 (some 5) 2,
  sGo 8, sP (fCon (-1)), sP (fIst 2), sP (fIld 2), sP (fCon (-1)), sBr (c2 (zcI .ne)) 14,
  sP (fCon 0), sRz, sP (fAld 0), sP (fIld 2), sCI 78 2 (some 5) 2, sBr (c1 (zc0 .eq)) 21,
  sP (fAld 0), sP (fCon 3), sCV 77 2 (some 5) 2, sP (fAld 0), sCV 87 1 (some 5) 1, sP (fCon 0),
  sP (fIst 3), sP (fIld 3), sP (fRef (some 1000002)), sP (fIld 2), sRI gAI, sBr (c2 (zcI .ge)) 54,
  sP (fAld 0), sRI (gFI 329), sP (fCon 1), sBr (c2 (zcI .eq)) 36, sP (fCon 0), sRz,
  sP (fAld 0), sRR (gFR 326), sP (fIld 3), sP (fAld 0), sRI (gFI 330), sWr wAI,
  sP (fAld 0), sP (fIld 2), sP (fIld 3), sCI 79 3 (some 5) 5, sBr (c1 (zc0 .ne)) 50, sP (fAld 0),
  sP (fCon 2), sCV 77 2 (some 5) 2, sP (fAld 0), sCV 87 1 (some 5) 1, sP (fInc 3 1), sGo 25,
  sP (fCon (-1)), sP (fIst 3), sP (fIld 2), sP (fCon 4), sBr (c2 (zcI .ne)) 74, sP (fAld 0),
  sRI (gFI 329), sBr (c1 (zc0 .ne)) 65, sP (fAld 0), sCI 85 1 (some 5) 1, sGo 66, sP (fCon (-1)),
  sP (fIst 3), sP (fIld 3), sP (fCon (-1)), sBr (c2 (zcI .ne)) 72, sP (fCon 0), sRz,
  sP (fAld 0), sCV 87 1 (some 5) 1, sP (fAld 0), sRI (gFI 329), sP (fCon 2), sBr (c2 (zcI .eq)) 80,
  sP (fCon 0), sRz, sP (fAld 0), sRI (gFI 323), sBr (c1 (zc0 .ne)) 87, sP (fAld 0),
  sP (fIld 2), sP (fIld 3), sCV 80 3 (some 5) 3, sP (fAld 0), sCV 87 1 (some 5) 1, sP (fCon 1),
  sRz]
set_option maxRecDepth 100000 in
theorem ck_76 : in_76.map (fun q => zsem zTb (zlk zPl_5) (ztg in_76 q.1) true q.2.1) = cd_76.map some := rfl
/-- Reader_blame -/
def in_77 : List zIns := [(0, .aload_n 0, 1), (1, .getfield 48, 3), (4, .ifCond .ne 16, 3), (7, .aload_n 0, 1), (8, .iload_n 1, 1), (9, .putfield 48, 3), (12, .aload_n 0, 1), (13, .aload_n 0, 1),
  (14, .getfield 67, 3), (17, .putfield 51, 3), (20, .return_, 1)]
def cd_77 : List zSem := [sP (fAld 0), sRI (gFI 323), sBr (c1 (zc0 .ne)) 10, sP (fAld 0), sP (fIld 1), sWr (wFI 323),
  sP (fAld 0), sP (fAld 0), sRI (gFI 328), sWr (wFI 324), sRet rV]
set_option maxRecDepth 100000 in
theorem ck_77 : in_77.map (fun q => zsem zTb (zlk zPl_5) (ztg in_77 q.1) false q.2.1) = cd_77.map some := rfl
/-- Reader_isFull -/
def in_78 : List zIns := [(0, .iload_n 1, 1), (1, .tableswitch 160 0 12 #[67, 85, 102, 120, 122, 160, 160, 160, 160, 160, 160, 124, 142], 67), (68, .aload_n 0, 1), (69, .getfield 18, 3), (72, .getfield 99, 3), (75, .bipush 6, 2), (77, .if_icmp .lt 7, 3), (80, .iconst 1, 1),
  (81, .goto 4, 3), (84, .iconst 0, 1), (85, .ireturn, 1), (86, .aload_n 0, 1), (87, .getfield 18, 3), (90, .getfield 102, 3), (93, .iconst 4, 1), (94, .if_icmp .lt 7, 3),
  (97, .iconst 1, 1), (98, .goto 4, 3), (101, .iconst 0, 1), (102, .ireturn, 1), (103, .aload_n 0, 1), (104, .getfield 18, 3), (107, .getfield 105, 3), (110, .bipush 8, 2),
  (112, .if_icmp .lt 7, 3), (115, .iconst 1, 1), (116, .goto 4, 3), (119, .iconst 0, 1), (120, .ireturn, 1), (121, .iconst 0, 1), (122, .ireturn, 1), (123, .iconst 0, 1),
  (124, .ireturn, 1), (125, .aload_n 0, 1), (126, .getfield 32, 3), (129, .getfield 47, 3), (132, .bipush 8, 2), (134, .if_icmp .lt 7, 3), (137, .iconst 1, 1), (138, .goto 4, 3),
  (141, .iconst 0, 1), (142, .ireturn, 1), (143, .aload_n 0, 1), (144, .getfield 32, 3), (147, .getfield 47, 3), (150, .bipush 8, 2), (152, .if_icmp .lt 7, 3), (155, .iconst 1, 1),
  (156, .goto 4, 3), (159, .iconst 0, 1), (160, .ireturn, 1), (161, .aload_n 0, 1), (162, .getfield 25, 3), (165, .getfield 43, 3), (168, .bipush 40, 2), (170, .if_icmp .lt 7, 3),
  (173, .iconst 1, 1), (174, .goto 4, 3), (177, .iconst 0, 1), (178, .ireturn, 1)]
def cd_78 : List zSem := [sP (fIld 1), sSw [(0, 2), (1, 11), (2, 20), (3, 29), (4, 31), (5, 51), (6, 51), (7, 51), (8, 51), (9, 51), (10, 51), (11, 33), (12, 42)] 51, sP (fAld 0), sRR (gFR 320), sRI (gFI 128), sP (fCon 6),
  sBr (c2 (zcI .lt)) 9, sP (fCon 1), sGo 10, sP (fCon 0), sRz, sP (fAld 0),
  sRR (gFR 320), sRI (gFI 129), sP (fCon 4), sBr (c2 (zcI .lt)) 18, sP (fCon 1), sGo 19,
  sP (fCon 0), sRz, sP (fAld 0), sRR (gFR 320), sRI (gFI 130), sP (fCon 8),
  sBr (c2 (zcI .lt)) 27, sP (fCon 1), sGo 28, sP (fCon 0), sRz, sP (fCon 0),
  sRz, sP (fCon 0), sRz, sP (fAld 0), sRR (gFR 322), sRI (gFI 192),
  sP (fCon 8), sBr (c2 (zcI .lt)) 40, sP (fCon 1), sGo 41, sP (fCon 0), sRz,
  sP (fAld 0), sRR (gFR 322), sRI (gFI 192), sP (fCon 8), sBr (c2 (zcI .lt)) 49, sP (fCon 1),
  sGo 50, sP (fCon 0), sRz, sP (fAld 0), sRR (gFR 321), sRI (gFI 640),
  sP (fCon 40), sBr (c2 (zcI .lt)) 58, sP (fCon 1), sGo 59, sP (fCon 0), sRz]
set_option maxRecDepth 100000 in
theorem ck_78 : in_78.map (fun q => zsem zTb (zlk zPl_5) (ztg in_78 q.1) true q.2.1) = cd_78.map some := rfl
/-- Reader_canBe -/
def in_79 : List zIns := [(0, .iload_n 2, 1), (1, .ifCond .ne 11, 3), (4, .getstatic 108, 3), (7, .iload_n 1, 1), (8, .iaload, 1), (9, .goto 4, 3), (12, .iconst 0, 1), (13, .istore_n 3, 1),
  (14, .aload_n 0, 1), (15, .getfield 36, 3), (18, .iload_n 2, 1), (19, .iaload, 1), (20, .iload_n 3, 1), (21, .if_icmp .lt 21, 3), (24, .aload_n 0, 1), (25, .getfield 36, 3),
  (28, .iload_n 2, 1), (29, .iaload, 1), (30, .getstatic 111, 3), (33, .iload_n 1, 1), (34, .iconst 5, 1), (35, .imul, 1), (36, .iload_n 2, 1), (37, .iadd, 1),
  (38, .iaload, 1), (39, .if_icmp .le 5, 3), (42, .iconst 0, 1), (43, .ireturn, 1), (44, .iload_n 1, 1), (45, .bipush 6, 2), (47, .if_icmp .ne 17, 3), (50, .iload_n 2, 1),
  (51, .iconst 1, 1), (52, .if_icmp .eq 8, 3), (55, .iload_n 2, 1), (56, .iconst 3, 1), (57, .if_icmp .ne 7, 3), (60, .iconst 1, 1), (61, .goto 4, 3), (64, .iconst 0, 1),
  (65, .istore 4, 2), (67, .iload 4, 2), (69, .ifCond .eq 20, 3), (72, .aload_n 0, 1), (73, .getfield 36, 3), (76, .iload_n 2, 1), (77, .iaload, 1), (78, .aload_n 0, 1),
  (79, .getfield 36, 3), (82, .iload_n 2, 1), (83, .iconst 1, 1), (84, .isub, 1), (85, .iaload, 1), (86, .if_icmp .eq 7, 3), (89, .iconst 1, 1), (90, .goto 4, 3),
  (93, .iconst 0, 1), (94, .ireturn, 1)]
def cd_79 : List zSem := [sP (fIld 2), sBr (c1 (zc0 .ne)) 6, sP (fRef (some 1000003)), sP (fIld 1), sRI gAI, sGo 7,
  sP (fCon 0), sP (fIst 3), sP (fAld 0), sRR (gFR 326), sP (fIld 2), sRI gAI,
  sP (fIld 3), sBr (c2 (zcI .lt)) 26, sP (fAld 0), sRR (gFR 326), sP (fIld 2), sRI gAI,
  sP (fRef (some 1000004)), sP (fIld 1), sP (fCon 5), sP (fII (fun x y => x * y)), sP (fIld 2), sP (fII (fun x y => x + y)),
  sRI gAI, sBr (c2 (zcI .le)) 28, sP (fCon 0), sRz, sP (fIld 1), sP (fCon 6),
  sBr (c2 (zcI .ne)) 39, sP (fIld 2), sP (fCon 1), sBr (c2 (zcI .eq)) 37, sP (fIld 2), sP (fCon 3),
  sBr (c2 (zcI .ne)) 39, sP (fCon 1), sGo 40, sP (fCon 0), sP (fIst 4), sP (fIld 4),
  sBr (c1 (zc0 .eq)) 54, sP (fAld 0), sRR (gFR 326), sP (fIld 2), sRI gAI, sP (fAld 0),
  sRR (gFR 326), sP (fIld 2), sP (fCon 1), sP (fII (fun x y => x - y)), sRI gAI, sBr (c2 (zcI .eq)) 56,
  sP (fCon 1), sGo 57, sP (fCon 0), sRz]
set_option maxRecDepth 100000 in
theorem ck_79 : in_79.map (fun q => zsem zTb (zlk zPl_5) (ztg in_79 q.1) true q.2.1) = cd_79.map some := rfl
/-- Reader_keep -/
def in_80 : List zIns := [(0, .iload_n 1, 1), (1, .tableswitch 212 0 12 #[67, 89, 105, 127, 143, 212, 212, 212, 212, 212, 212, 161, 189], 67), (68, .aload_n 0, 1), (69, .getfield 18, 3), (72, .aload_n 0, 1), (73, .getfield 36, 3), (76, .iconst 0, 1), (77, .iaload, 1),
  (78, .aload_n 0, 1), (79, .getfield 36, 3), (82, .iconst 1, 1), (83, .iaload, 1), (84, .invokevirtual 114, 3), (87, .goto 145, 3), (90, .aload_n 0, 1), (91, .getfield 18, 3),
  (94, .aload_n 0, 1), (95, .getfield 36, 3), (98, .iconst 0, 1), (99, .iaload, 1), (100, .invokevirtual 117, 3), (103, .goto 129, 3), (106, .aload_n 0, 1), (107, .getfield 18, 3),
  (110, .aload_n 0, 1), (111, .getfield 36, 3), (114, .iconst 0, 1), (115, .iaload, 1), (116, .aload_n 0, 1), (117, .getfield 36, 3), (120, .iconst 1, 1), (121, .iaload, 1),
  (122, .invokevirtual 120, 3), (125, .goto 107, 3), (128, .aload_n 0, 1), (129, .getfield 18, 3), (132, .aload_n 0, 1), (133, .getfield 36, 3), (136, .iconst 0, 1), (137, .iaload, 1),
  (138, .putfield 123, 3), (141, .goto 91, 3), (144, .aload_n 0, 1), (145, .getfield 18, 3), (148, .getfield 126, 3), (151, .aload_n 0, 1), (152, .getfield 36, 3), (155, .iconst 0, 1),
  (156, .iaload, 1), (157, .iload_n 2, 1), (158, .iastore, 1), (159, .goto 73, 3), (162, .aload_n 0, 1), (163, .getfield 32, 3), (166, .aload_n 0, 1), (167, .getfield 36, 3),
  (170, .iconst 0, 1), (171, .iaload, 1), (172, .aload_n 0, 1), (173, .getfield 36, 3), (176, .iconst 1, 1), (177, .iaload, 1), (178, .aload_n 0, 1), (179, .getfield 36, 3),
  (182, .iconst 2, 1), (183, .iaload, 1), (184, .invokevirtual 129, 3), (187, .goto 45, 3), (190, .aload_n 0, 1), (191, .getfield 32, 3), (194, .aload_n 0, 1), (195, .getfield 36, 3),
  (198, .iconst 0, 1), (199, .iaload, 1), (200, .aload_n 0, 1), (201, .getfield 36, 3), (204, .iconst 1, 1), (205, .iaload, 1), (206, .iconst (-1), 1), (207, .invokevirtual 129, 3),
  (210, .goto 22, 3), (213, .aload_n 0, 1), (214, .getfield 25, 3), (217, .iload_n 1, 1), (218, .iconst 5, 1), (219, .isub, 1), (220, .aload_n 0, 1), (221, .getfield 36, 3),
  (224, .getstatic 81, 3), (227, .iload_n 1, 1), (228, .iaload, 1), (229, .invokevirtual 133, 3), (232, .return_, 1)]
def cd_80 : List zSem := [sP (fIld 1), sSw [(0, 2), (1, 14), (2, 22), (3, 34), (4, 42), (5, 81), (6, 81), (7, 81), (8, 81), (9, 81), (10, 81), (11, 52), (12, 68)] 81, sP (fAld 0), sRR (gFR 320), sP (fAld 0), sRR (gFR 326),
  sP (fCon 0), sRI gAI, sP (fAld 0), sRR (gFR 326), sP (fCon 1), sRI gAI,
  sCV 36 3 (some 2) 3, sGo 92, sP (fAld 0), sRR (gFR 320), sP (fAld 0), sRR (gFR 326),
  sP (fCon 0), sRI gAI, sCV 37 2 (some 2) 2, sGo 92, sP (fAld 0), sRR (gFR 320),
  sP (fAld 0), sRR (gFR 326), sP (fCon 0), sRI gAI, sP (fAld 0), sRR (gFR 326),
  sP (fCon 1), sRI gAI, sCV 38 3 (some 2) 3, sGo 92, sP (fAld 0), sRR (gFR 320),
  sP (fAld 0), sRR (gFR 326), sP (fCon 0), sRI gAI, sWr (wFI 131), sGo 92,
  sP (fAld 0), sRR (gFR 320), sRR (gFR 137), sP (fAld 0), sRR (gFR 326), sP (fCon 0),
  sRI gAI, sP (fIld 2), sWr wAI, sGo 92, sP (fAld 0), sRR (gFR 322),
  sP (fAld 0), sRR (gFR 326), sP (fCon 0), sRI gAI, sP (fAld 0), sRR (gFR 326),
  sP (fCon 1), sRI gAI, sP (fAld 0), sRR (gFR 326), sP (fCon 2), sRI gAI,
  sCV 54 4 (some 3) 4, sGo 92, sP (fAld 0), sRR (gFR 322), sP (fAld 0), sRR (gFR 326),
  sP (fCon 0), sRI gAI, sP (fAld 0), sRR (gFR 326), sP (fCon 1), sRI gAI,
  sP (fCon (-1)), sCV 54 4 (some 3) 4, sGo 92, sP (fAld 0), sRR (gFR 321), sP (fIld 1),
  sP (fCon 5), sP (fII (fun x y => x - y)), sP (fAld 0), sRR (gFR 326), sP (fRef (some 1000002)), sP (fIld 1),
  sRI gAI, sCV 146 4 (some 10) 6, sRet rV]
set_option maxRecDepth 100000 in
theorem ck_80 : in_80.map (fun q => zsem zTb (zlk zPl_5) (ztg in_80 q.1) false q.2.1) = cd_80.map some := rfl
/-- Reader_lineOf -/
def in_81 : List zIns := [(0, .iload_n 1, 1), (1, .tableswitch 42 0 2 #[27, 32, 37], 27), (28, .aload_n 0, 1), (29, .invokevirtual 136, 3), (32, .ireturn, 1), (33, .aload_n 0, 1), (34, .invokevirtual 139, 3), (37, .ireturn, 1),
  (38, .aload_n 0, 1), (39, .invokevirtual 142, 3), (42, .ireturn, 1), (43, .iconst (-1), 1), (44, .ireturn, 1)]
def cd_81 : List zSem := [sP (fIld 1), sSw [(0, 2), (1, 5), (2, 8)] 11, sP (fAld 0), sCI 82 1 (some 5) 1, sRet rI, sP (fAld 0),
  sCI 83 1 (some 5) 1, sRet rI, sP (fAld 0), sCI 84 1 (some 5) 1, sRet rI, sP (fCon (-1)),
  sRet rI]
set_option maxRecDepth 100000 in
theorem ck_81 : in_81.map (fun q => zsem zTb (zlk zPl_5) (ztg in_81 q.1) false q.2.1) = cd_81.map some := rfl
/-- Reader_duchyLine -/
def in_82 : List zIns := [(0, .aload_n 0, 1), (1, .ldc 145, 2), (3, .invokevirtual 147, 3), (6, .ifCond .eq 5, 3), (9, .iconst 0, 1), (10, .ireturn, 1), (11, .aload_n 0, 1), (12, .ldc 151, 2),
  (14, .invokevirtual 147, 3), (17, .ifCond .eq 5, 3), (20, .iconst 1, 1), (21, .ireturn, 1), (22, .aload_n 0, 1), (23, .ldc 153, 2), (25, .invokevirtual 147, 3), (28, .ifCond .eq 5, 3),
  (31, .iconst 2, 1), (32, .ireturn, 1), (33, .aload_n 0, 1), (34, .ldc 155, 2), (36, .invokevirtual 147, 3), (39, .ifCond .eq 5, 3), (42, .iconst 3, 1), (43, .ireturn, 1),
  (44, .aload_n 0, 1), (45, .ldc 156, 2), (47, .invokevirtual 147, 3), (50, .ifCond .eq 7, 3), (53, .iconst 4, 1), (54, .goto 4, 3), (57, .iconst (-1), 1), (58, .ireturn, 1)]
def cd_82 : List zSem := [sP (fAld 0), sP (fRef (some 1000100)), sCI 86 2 (some 5) 3, sBr (c1 (zc0 .eq)) 6, sP (fCon 0), sRet rI,
  sP (fAld 0), sP (fRef (some 1000101)), sCI 86 2 (some 5) 3, sBr (c1 (zc0 .eq)) 12, sP (fCon 1), sRet rI,
  sP (fAld 0), sP (fRef (some 1000102)), sCI 86 2 (some 5) 3, sBr (c1 (zc0 .eq)) 18, sP (fCon 2), sRet rI,
  sP (fAld 0), sP (fRef (some 1000104)), sCI 86 2 (some 5) 3, sBr (c1 (zc0 .eq)) 24, sP (fCon 3), sRet rI,
  sP (fAld 0), sP (fRef (some 1000103)), sCI 86 2 (some 5) 3, sBr (c1 (zc0 .eq)) 30, sP (fCon 4), sGo 31,
  sP (fCon (-1)), sRet rI]
set_option maxRecDepth 100000 in
theorem ck_82 : in_82.map (fun q => zsem zTb (zlk zPl_5) (ztg in_82 q.1) false q.2.1) = cd_82.map some := rfl
/-- Reader_yearLine -/
def in_83 : List zIns := [(0, .aload_n 0, 1), (1, .ldc 157, 2), (3, .invokevirtual 147, 3), (6, .ifCond .eq 5, 3), (9, .iconst 5, 1), (10, .ireturn, 1), (11, .aload_n 0, 1), (12, .ldc 159, 2),
  (14, .invokevirtual 147, 3), (17, .ifCond .eq 6, 3), (20, .bipush 6, 2), (22, .ireturn, 1), (23, .aload_n 0, 1), (24, .ldc 161, 2), (26, .invokevirtual 147, 3), (29, .ifCond .eq 6, 3),
  (32, .bipush 7, 2), (34, .ireturn, 1), (35, .aload_n 0, 1), (36, .ldc 163, 2), (38, .invokevirtual 147, 3), (41, .ifCond .eq 6, 3), (44, .bipush 8, 2), (46, .ireturn, 1),
  (47, .aload_n 0, 1), (48, .ldc 155, 2), (50, .invokevirtual 147, 3), (53, .ifCond .eq 6, 3), (56, .bipush 9, 2), (58, .ireturn, 1), (59, .aload_n 0, 1), (60, .ldc 165, 2),
  (62, .invokevirtual 147, 3), (65, .ifCond .eq 8, 3), (68, .bipush 10, 2), (70, .goto 4, 3), (73, .iconst (-1), 1), (74, .ireturn, 1)]
def cd_83 : List zSem := [sP (fAld 0), sP (fRef (some 1000105)), sCI 86 2 (some 5) 3, sBr (c1 (zc0 .eq)) 6, sP (fCon 5), sRet rI,
  sP (fAld 0), sP (fRef (some 1000106)), sCI 86 2 (some 5) 3, sBr (c1 (zc0 .eq)) 12, sP (fCon 6), sRet rI,
  sP (fAld 0), sP (fRef (some 1000107)), sCI 86 2 (some 5) 3, sBr (c1 (zc0 .eq)) 18, sP (fCon 7), sRet rI,
  sP (fAld 0), sP (fRef (some 1000108)), sCI 86 2 (some 5) 3, sBr (c1 (zc0 .eq)) 24, sP (fCon 8), sRet rI,
  sP (fAld 0), sP (fRef (some 1000104)), sCI 86 2 (some 5) 3, sBr (c1 (zc0 .eq)) 30, sP (fCon 9), sRet rI,
  sP (fAld 0), sP (fRef (some 1000109)), sCI 86 2 (some 5) 3, sBr (c1 (zc0 .eq)) 36, sP (fCon 10), sGo 37,
  sP (fCon (-1)), sRet rI]
set_option maxRecDepth 100000 in
theorem ck_83 : in_83.map (fun q => zsem zTb (zlk zPl_5) (ztg in_83 q.1) false q.2.1) = cd_83.map some := rfl
/-- Reader_logLine -/
def in_84 : List zIns := [(0, .aload_n 0, 1), (1, .ldc 167, 2), (3, .invokevirtual 147, 3), (6, .ifCond .eq 6, 3), (9, .bipush 11, 2), (11, .ireturn, 1), (12, .aload_n 0, 1), (13, .ldc 169, 2),
  (15, .invokevirtual 147, 3), (18, .ifCond .eq 8, 3), (21, .bipush 12, 2), (23, .goto 4, 3), (26, .iconst (-1), 1), (27, .ireturn, 1)]
def cd_84 : List zSem := [sP (fAld 0), sP (fRef (some 1000110)), sCI 86 2 (some 5) 3, sBr (c1 (zc0 .eq)) 6, sP (fCon 11), sRet rI,
  sP (fAld 0), sP (fRef (some 1000111)), sCI 86 2 (some 5) 3, sBr (c1 (zc0 .eq)) 12, sP (fCon 12), sGo 13,
  sP (fCon (-1)), sRet rI]
set_option maxRecDepth 100000 in
theorem ck_84 : in_84.map (fun q => zsem zTb (zlk zPl_5) (ztg in_84 q.1) false q.2.1) = cd_84.map some := rfl
/-- Reader_meaningHere -/
def in_85 : List zIns := [(0, .aload_n 0, 1), (1, .ldc 171, 2), (3, .invokevirtual 147, 3), (6, .ifCond .eq 5, 3), (9, .iconst 0, 1), (10, .ireturn, 1), (11, .aload_n 0, 1), (12, .ldc 173, 2),
  (14, .invokevirtual 147, 3), (17, .ifCond .eq 5, 3), (20, .iconst 1, 1), (21, .ireturn, 1), (22, .aload_n 0, 1), (23, .ldc 175, 2), (25, .invokevirtual 147, 3), (28, .ifCond .eq 7, 3),
  (31, .iconst 2, 1), (32, .goto 4, 3), (35, .iconst (-1), 1), (36, .ireturn, 1)]
def cd_85 : List zSem := [sP (fAld 0), sP (fRef (some 1000112)), sCI 86 2 (some 5) 3, sBr (c1 (zc0 .eq)) 6, sP (fCon 0), sRet rI,
  sP (fAld 0), sP (fRef (some 1000113)), sCI 86 2 (some 5) 3, sBr (c1 (zc0 .eq)) 12, sP (fCon 1), sRet rI,
  sP (fAld 0), sP (fRef (some 1000114)), sCI 86 2 (some 5) 3, sBr (c1 (zc0 .eq)) 18, sP (fCon 2), sGo 19,
  sP (fCon (-1)), sRet rI]
set_option maxRecDepth 100000 in
theorem ck_85 : in_85.map (fun q => zsem zTb (zlk zPl_5) (ztg in_85 q.1) false q.2.1) = cd_85.map some := rfl
/-- Reader_isWord -/
def in_86 : List zIns := [(0, .aload_n 0, 1), (1, .getfield 54, 3), (4, .aload_n 0, 1), (5, .getfield 67, 3), (8, .isub, 1), (9, .aload_n 1, 1), (10, .invokevirtual 177, 3), (13, .if_icmp .eq 5, 3),
  (16, .iconst 0, 1), (17, .ireturn, 1), (18, .iconst 0, 1), (19, .istore_n 2, 1), (20, .iload_n 2, 1), (21, .aload_n 1, 1), (22, .invokevirtual 177, 3), (25, .if_icmp .ge 33, 3),
  (28, .aload_n 0, 1), (29, .getfield 9, 3), (32, .getfield 182, 3), (35, .aload_n 0, 1), (36, .getfield 67, 3), (39, .iload_n 2, 1), (40, .iadd, 1), (41, .baload, 1),
  (42, .aload_n 1, 1), (43, .iload_n 2, 1), (44, .invokevirtual 188, 3), (47, .if_icmp .eq 5, 3), (50, .iconst 0, 1), (51, .ireturn, 1), (52, .iinc 2 1, 3), (55, .goto (-35), 3),
  (58, .iconst 1, 1), (59, .ireturn, 1)]
def cd_86 : List zSem := [sP (fAld 0), sRI (gFI 327), sP (fAld 0), sRI (gFI 328), sP (fII (fun x y => x - y)), sP (fAld 1),
  sRI gSn, sBr (c2 (zcI .eq)) 10, sP (fCon 0), sRz, sP (fCon 0), sP (fIst 2),
  sP (fIld 2), sP (fAld 1), sRI gSn, sBr (c2 (zcI .ge)) 32, sP (fAld 0), sRR (gFR 325),
  sRR (gFR 512), sP (fAld 0), sRI (gFI 328), sP (fIld 2), sP (fII (fun x y => x + y)), sRI gAB,
  sP (fAld 1), sP (fIld 2), sRI gSc, sBr (c2 (zcI .eq)) 30, sP (fCon 0), sRz,
  sP (fInc 2 1), sGo 12, sP (fCon 1), sRz]
set_option maxRecDepth 100000 in
theorem ck_86 : in_86.map (fun q => zsem zTb (zlk zPl_5) (ztg in_86 q.1) true q.2.1) = cd_86.map some := rfl
/-- Reader_advance -/
def in_87 : List zIns := [(0, .aload_n 0, 1), (1, .getfield 54, 3), (4, .aload_n 0, 1), (5, .getfield 9, 3), (8, .getfield 192, 3), (11, .if_icmp .ge 50, 3), (14, .aload_n 0, 1), (15, .getfield 9, 3),
  (18, .getfield 182, 3), (21, .aload_n 0, 1), (22, .getfield 54, 3), (25, .baload, 1), (26, .bipush 10, 2), (28, .if_icmp .eq 20, 3), (31, .aload_n 0, 1), (32, .getfield 9, 3),
  (35, .getfield 182, 3), (38, .aload_n 0, 1), (39, .getfield 54, 3), (42, .baload, 1), (43, .bipush 32, 2), (45, .if_icmp .ne 16, 3), (48, .aload_n 0, 1), (49, .dup, 1),
  (50, .getfield 54, 3), (53, .iconst 1, 1), (54, .iadd, 1), (55, .putfield 54, 3), (58, .goto (-58), 3), (61, .aload_n 0, 1), (62, .aload_n 0, 1), (63, .getfield 54, 3),
  (66, .putfield 67, 3), (69, .aload_n 0, 1), (70, .getfield 54, 3), (73, .aload_n 0, 1), (74, .getfield 9, 3), (77, .getfield 192, 3), (80, .if_icmp .lt 11, 3), (83, .aload_n 0, 1),
  (84, .iconst 3, 1), (85, .putfield 60, 3), (88, .goto 89, 3), (91, .aload_n 0, 1), (92, .getfield 9, 3), (95, .getfield 182, 3), (98, .aload_n 0, 1), (99, .getfield 54, 3),
  (102, .baload, 1), (103, .invokestatic 193, 3), (106, .ifCond .eq 10, 3), (109, .aload_n 0, 1), (110, .invokevirtual 197, 3), (113, .goto 64, 3), (116, .aload_n 0, 1), (117, .getfield 9, 3),
  (120, .getfield 182, 3), (123, .aload_n 0, 1), (124, .getfield 54, 3), (127, .baload, 1), (128, .invokestatic 200, 3), (131, .ifCond .eq 10, 3), (134, .aload_n 0, 1), (135, .invokevirtual 203, 3),
  (138, .goto 39, 3), (141, .aload_n 0, 1), (142, .aload_n 0, 1), (143, .getfield 9, 3), (146, .getfield 182, 3), (149, .aload_n 0, 1), (150, .getfield 54, 3), (153, .baload, 1),
  (154, .bipush 59, 2), (156, .if_icmp .ne 7, 3), (159, .iconst 2, 1), (160, .goto 4, 3), (163, .iconst 4, 1), (164, .putfield 60, 3), (167, .aload_n 0, 1), (168, .dup, 1),
  (169, .getfield 54, 3), (172, .iconst 1, 1), (173, .iadd, 1), (174, .putfield 54, 3), (177, .return_, 1)]
def cd_87 : List zSem := [sP (fAld 0), sRI (gFI 327), sP (fAld 0), sRR (gFR 325), sRI (gFI 513), sBr (c2 (zcI .ge)) 29,
  sP (fAld 0), sRR (gFR 325), sRR (gFR 512), sP (fAld 0), sRI (gFI 327), sRI gAB,
  sP (fCon 10), sBr (c2 (zcI .eq)) 22, sP (fAld 0), sRR (gFR 325), sRR (gFR 512), sP (fAld 0),
  sRI (gFI 327), sRI gAB, sP (fCon 32), sBr (c2 (zcI .ne)) 29, sP (fAld 0), sP fDup,
  sRI (gFI 327), sP (fCon 1), sP (fII (fun x y => x + y)), sWr (wFI 327), sGo 0, sP (fAld 0),
  sP (fAld 0), sRI (gFI 327), sWr (wFI 328), sP (fAld 0), sRI (gFI 327), sP (fAld 0),
  sRR (gFR 325), sRI (gFI 513), sBr (c2 (zcI .lt)) 43, sP (fAld 0), sP (fCon 3), sWr (wFI 329),
  sGo 84, sP (fAld 0), sRR (gFR 325), sRR (gFR 512), sP (fAld 0), sRI (gFI 327),
  sRI gAB, sCI 90 1 none 1, sBr (c1 (zc0 .eq)) 54, sP (fAld 0), sCV 88 1 (some 5) 1, sGo 84,
  sP (fAld 0), sRR (gFR 325), sRR (gFR 512), sP (fAld 0), sRI (gFI 327), sRI gAB,
  sCI 91 1 none 1, sBr (c1 (zc0 .eq)) 65, sP (fAld 0), sCV 89 1 (some 5) 1, sGo 84, sP (fAld 0),
  sP (fAld 0), sRR (gFR 325), sRR (gFR 512), sP (fAld 0), sRI (gFI 327), sRI gAB,
  sP (fCon 59), sBr (c2 (zcI .ne)) 76, sP (fCon 2), sGo 77, sP (fCon 4), sWr (wFI 329),
  sP (fAld 0), sP fDup, sRI (gFI 327), sP (fCon 1), sP (fII (fun x y => x + y)), sWr (wFI 327),
  sRet rV]
set_option maxRecDepth 100000 in
theorem ck_87 : in_87.map (fun q => zsem zTb (zlk zPl_5) (ztg in_87 q.1) false q.2.1) = cd_87.map some := rfl
/-- Reader_passWord -/
def in_88 : List zIns := [(0, .aload_n 0, 1), (1, .iconst 0, 1), (2, .putfield 60, 3), (5, .aload_n 0, 1), (6, .getfield 54, 3), (9, .aload_n 0, 1), (10, .getfield 9, 3), (13, .getfield 192, 3),
  (16, .if_icmp .ge 34, 3), (19, .aload_n 0, 1), (20, .getfield 9, 3), (23, .getfield 182, 3), (26, .aload_n 0, 1), (27, .getfield 54, 3), (30, .baload, 1), (31, .invokestatic 193, 3),
  (34, .ifCond .eq 16, 3), (37, .aload_n 0, 1), (38, .dup, 1), (39, .getfield 54, 3), (42, .iconst 1, 1), (43, .iadd, 1), (44, .putfield 54, 3), (47, .goto (-42), 3),
  (50, .return_, 1)]
def cd_88 : List zSem := [sP (fAld 0), sP (fCon 0), sWr (wFI 329), sP (fAld 0), sRI (gFI 327), sP (fAld 0),
  sRR (gFR 325), sRI (gFI 513), sBr (c2 (zcI .ge)) 24, sP (fAld 0), sRR (gFR 325), sRR (gFR 512),
  sP (fAld 0), sRI (gFI 327), sRI gAB, sCI 90 1 none 1, sBr (c1 (zc0 .eq)) 24, sP (fAld 0),
  sP fDup, sRI (gFI 327), sP (fCon 1), sP (fII (fun x y => x + y)), sWr (wFI 327), sGo 3,
  sRet rV]
set_option maxRecDepth 100000 in
theorem ck_88 : in_88.map (fun q => zsem zTb (zlk zPl_5) (ztg in_88 q.1) false q.2.1) = cd_88.map some := rfl
/-- Reader_passNumber -/
def in_89 : List zIns := [(0, .aload_n 0, 1), (1, .iconst 0, 1), (2, .putfield 84, 3), (5, .aload_n 0, 1), (6, .getfield 54, 3), (9, .aload_n 0, 1), (10, .getfield 9, 3), (13, .getfield 192, 3),
  (16, .if_icmp .ge 61, 3), (19, .aload_n 0, 1), (20, .getfield 9, 3), (23, .getfield 182, 3), (26, .aload_n 0, 1), (27, .getfield 54, 3), (30, .baload, 1), (31, .invokestatic 200, 3),
  (34, .ifCond .eq 43, 3), (37, .aload_n 0, 1), (38, .bipush 10, 2), (40, .aload_n 0, 1), (41, .getfield 84, 3), (44, .imul, 1), (45, .aload_n 0, 1), (46, .getfield 9, 3),
  (49, .getfield 182, 3), (52, .aload_n 0, 1), (53, .getfield 54, 3), (56, .baload, 1), (57, .bipush 48, 2), (59, .isub, 1), (60, .iadd, 1), (61, .putfield 84, 3),
  (64, .aload_n 0, 1), (65, .dup, 1), (66, .getfield 54, 3), (69, .iconst 1, 1), (70, .iadd, 1), (71, .putfield 54, 3), (74, .goto (-69), 3), (77, .aload_n 0, 1),
  (78, .aload_n 0, 1), (79, .getfield 54, 3), (82, .aload_n 0, 1), (83, .getfield 67, 3), (86, .isub, 1), (87, .iconst 2, 1), (88, .if_icmp .gt 7, 3), (91, .iconst 1, 1),
  (92, .goto 4, 3), (95, .iconst 4, 1), (96, .putfield 60, 3), (99, .return_, 1)]
def cd_89 : List zSem := [sP (fAld 0), sP (fCon 0), sWr (wFI 330), sP (fAld 0), sRI (gFI 327), sP (fAld 0),
  sRR (gFR 325), sRI (gFI 513), sBr (c2 (zcI .ge)) 39, sP (fAld 0), sRR (gFR 325), sRR (gFR 512),
  sP (fAld 0), sRI (gFI 327), sRI gAB, sCI 91 1 none 1, sBr (c1 (zc0 .eq)) 39, sP (fAld 0),
  sP (fCon 10), sP (fAld 0), sRI (gFI 330), sP (fII (fun x y => x * y)), sP (fAld 0), sRR (gFR 325),
  sRR (gFR 512), sP (fAld 0), sRI (gFI 327), sRI gAB, sP (fCon 48), sP (fII (fun x y => x - y)),
  sP (fII (fun x y => x + y)), sWr (wFI 330), sP (fAld 0), sP fDup, sRI (gFI 327), sP (fCon 1),
  sP (fII (fun x y => x + y)), sWr (wFI 327), sGo 3, sP (fAld 0), sP (fAld 0), sRI (gFI 327),
  sP (fAld 0), sRI (gFI 328), sP (fII (fun x y => x - y)), sP (fCon 2), sBr (c2 (zcI .gt)) 49, sP (fCon 1),
  sGo 50, sP (fCon 4), sWr (wFI 329), sRet rV]
set_option maxRecDepth 100000 in
theorem ck_89 : in_89.map (fun q => zsem zTb (zlk zPl_5) (ztg in_89 q.1) false q.2.1) = cd_89.map some := rfl
/-- Reader_isLetter -/
def in_90 : List zIns := [(0, .iload_n 0, 1), (1, .bipush 97, 2), (3, .if_icmp .lt 13, 3), (6, .iload_n 0, 1), (7, .bipush 122, 2), (9, .if_icmp .gt 7, 3), (12, .iconst 1, 1), (13, .goto 4, 3),
  (16, .iconst 0, 1), (17, .ireturn, 1)]
def cd_90 : List zSem := [sP (fIld 0), sP (fCon 97), sBr (c2 (zcI .lt)) 8, sP (fIld 0), sP (fCon 122), sBr (c2 (zcI .gt)) 8,
  sP (fCon 1), sGo 9, sP (fCon 0), sRz]
set_option maxRecDepth 100000 in
theorem ck_90 : in_90.map (fun q => zsem zTb (zlk zPl_5) (ztg in_90 q.1) true q.2.1) = cd_90.map some := rfl
/-- Reader_isDigit -/
def in_91 : List zIns := [(0, .iload_n 0, 1), (1, .bipush 48, 2), (3, .if_icmp .lt 13, 3), (6, .iload_n 0, 1), (7, .bipush 57, 2), (9, .if_icmp .gt 7, 3), (12, .iconst 1, 1), (13, .goto 4, 3),
  (16, .iconst 0, 1), (17, .ireturn, 1)]
def cd_91 : List zSem := [sP (fIld 0), sP (fCon 48), sBr (c2 (zcI .lt)) 8, sP (fIld 0), sP (fCon 57), sBr (c2 (zcI .gt)) 8,
  sP (fCon 1), sGo 9, sP (fCon 0), sRz]
set_option maxRecDepth 100000 in
theorem ck_91 : in_91.map (fun q => zsem zTb (zlk zPl_5) (ztg in_91 q.1) true q.2.1) = cd_91.map some := rfl
/-- Survey_init -/
def in_92 : List zIns := [(0, .aload_n 0, 1), (1, .invokespecial 3, 3), (4, .aload_n 0, 1), (5, .bipush 8, 2), (7, .newarray .int, 2), (9, .putfield 9, 3), (12, .aload_n 0, 1), (13, .iconst 4, 1),
  (14, .newarray .int, 2), (16, .putfield 15, 3), (19, .aload_n 0, 1), (20, .bipush 6, 2), (22, .newarray .int, 2), (24, .putfield 18, 3), (27, .return_, 1)]
def cd_92 : List zSem := [sP (fAld 0), sP fObj, sP (fAld 0), sP (fCon 8), sNA (znA 0), sWr (wFR 384),
  sP (fAld 0), sP (fCon 4), sNA (znA 0), sWr (wFR 385), sP (fAld 0), sP (fCon 6),
  sNA (znA 0), sWr (wFR 386), sRet rV]
set_option maxRecDepth 100000 in
theorem ck_92 : in_92.map (fun q => zsem zTb (zlk zPl_6) (ztg in_92 q.1) false q.2.1) = cd_92.map some := rfl
/-- Survey_sameAnswers -/
def in_93 : List zIns := [(0, .iconst 0, 1), (1, .istore 4, 2), (3, .iconst 0, 1), (4, .istore 5, 2), (6, .iload 5, 2), (8, .aload_n 1, 1), (9, .getfield 21, 3), (12, .if_icmp .ge 51, 3),
  (15, .iconst 0, 1), (16, .istore 6, 2), (18, .iload 6, 2), (20, .aload_n 1, 1), (21, .getfield 27, 3), (24, .if_icmp .ge 33, 3), (27, .aload_n 1, 1), (28, .iload_n 2, 1),
  (29, .iload 5, 2), (31, .iload 6, 2), (33, .invokevirtual 30, 3), (36, .aload_n 1, 1), (37, .iload_n 3, 1), (38, .iload 5, 2), (40, .iload 6, 2), (42, .invokevirtual 30, 3),
  (45, .if_icmp .ne 6, 3), (48, .iinc 4 1, 3), (51, .iinc 6 1, 3), (54, .goto (-36), 3), (57, .iinc 5 1, 3), (60, .goto (-54), 3), (63, .iload 4, 2), (65, .ireturn, 1)]
def cd_93 : List zSem := [sP (fCon 0), sP (fIst 4), sP (fCon 0), sP (fIst 5), sP (fIld 5), sP (fAld 1),
  sRI (gFI 129), sBr (c2 (zcI .ge)) 30, sP (fCon 0), sP (fIst 6), sP (fIld 6), sP (fAld 1),
  sRI (gFI 130), sBr (c2 (zcI .ge)) 28, sP (fAld 1), sP (fIld 2), sP (fIld 5), sP (fIld 6),
  sCI 51 4 (some 2) 4, sP (fAld 1), sP (fIld 3), sP (fIld 5), sP (fIld 6), sCI 51 4 (some 2) 4,
  sBr (c2 (zcI .ne)) 26, sP (fInc 4 1), sP (fInc 6 1), sGo 10, sP (fInc 5 1), sGo 4,
  sP (fIld 4), sRet rI]
set_option maxRecDepth 100000 in
theorem ck_93 : in_93.map (fun q => zsem zTb (zlk zPl_6) (ztg in_93 q.1) false q.2.1) = cd_93.map some := rfl
/-- Survey_gatherNotes -/
def in_94 : List zIns := [(0, .aload_n 0, 1), (1, .getfield 9, 3), (4, .iconst 0, 1), (5, .invokestatic 34, 3), (8, .iconst 0, 1), (9, .istore_n 3, 1), (10, .iload_n 3, 1), (11, .aload_n 1, 1),
  (12, .getfield 40, 3), (15, .if_icmp .ge 70, 3), (18, .iconst 0, 1), (19, .istore 4, 2), (21, .iload 4, 2), (23, .aload_n 1, 1), (24, .getfield 21, 3), (27, .if_icmp .ge 52, 3),
  (30, .iconst 0, 1), (31, .istore 5, 2), (33, .iload 5, 2), (35, .aload_n 1, 1), (36, .getfield 27, 3), (39, .if_icmp .ge 34, 3), (42, .aload_n 0, 1), (43, .aload_n 1, 1),
  (44, .aload_n 1, 1), (45, .getfield 43, 3), (48, .iload_n 3, 1), (49, .iaload, 1), (50, .aload_n 1, 1), (51, .getfield 46, 3), (54, .iload_n 3, 1), (55, .iaload, 1),
  (56, .iload_n 2, 1), (57, .iload 4, 2), (59, .iload 5, 2), (61, .invokevirtual 49, 3), (64, .invokevirtual 53, 3), (67, .iinc 5 1, 3), (70, .goto (-37), 3), (73, .iinc 4 1, 3),
  (76, .goto (-55), 3), (79, .iinc 3 1, 3), (82, .goto (-72), 3), (85, .return_, 1)]
def cd_94 : List zSem := [sP (fAld 0), sRR (gFR 384), sP (fCon 0), sCV 324 2 none 4, sP (fCon 0), sP (fIst 3),
  sP (fIld 3), sP (fAld 1), sRI (gFI 128), sBr (c2 (zcI .ge)) 43, sP (fCon 0), sP (fIst 4),
  sP (fIld 4), sP (fAld 1), sRI (gFI 129), sBr (c2 (zcI .ge)) 41, sP (fCon 0), sP (fIst 5),
  sP (fIld 5), sP (fAld 1), sRI (gFI 130), sBr (c2 (zcI .ge)) 39, sP (fAld 0), sP (fAld 1),
  sP (fAld 1), sRR (gFR 132), sP (fIld 3), sRI gAI, sP (fAld 1), sRR (gFR 133),
  sP (fIld 3), sRI gAI, sP (fIld 2), sP (fIld 4), sP (fIld 5), sCI 47 6 (some 2) 7,
  sCV 95 2 (some 6) 2, sP (fInc 5 1), sGo 18, sP (fInc 4 1), sGo 12, sP (fInc 3 1),
  sGo 6, sRet rV]
set_option maxRecDepth 100000 in
theorem ck_94 : in_94.map (fun q => zsem zTb (zlk zPl_6) (ztg in_94 q.1) false q.2.1) = cd_94.map some := rfl
/-- Survey_addNote -/
def in_95 : List zIns := [(0, .iload_n 1, 1), (1, .ifCond .lt 19, 3), (4, .iload_n 1, 1), (5, .bipush 8, 2), (7, .if_icmp .ge 13, 3), (10, .aload_n 0, 1), (11, .getfield 9, 3), (14, .iload_n 1, 1),
  (15, .dup2, 1), (16, .iaload, 1), (17, .iconst 1, 1), (18, .iadd, 1), (19, .iastore, 1), (20, .return_, 1)]
def cd_95 : List zSem := [sP (fIld 1), sBr (c1 (zc0 .lt)) 13, sP (fIld 1), sP (fCon 8), sBr (c2 (zcI .ge)) 13, sP (fAld 0),
  sRR (gFR 384), sP (fIld 1), sP fDup2, sRI gAI, sP (fCon 1), sP (fII (fun x y => x + y)),
  sWr wAI, sRet rV]
set_option maxRecDepth 100000 in
theorem ck_95 : in_95.map (fun q => zsem zTb (zlk zPl_6) (ztg in_95 q.1) false q.2.1) = cd_95.map some := rfl
/-- Survey_tellers -/
def in_96 : List zIns := [(0, .iconst 0, 1), (1, .istore 4, 2), (3, .iconst 0, 1), (4, .istore 5, 2), (6, .iload 5, 2), (8, .aload_n 1, 1), (9, .getfield 40, 3), (12, .if_icmp .ge 43, 3),
  (15, .iconst 0, 1), (16, .istore 6, 2), (18, .iload 6, 2), (20, .aload_n 1, 1), (21, .getfield 21, 3), (24, .if_icmp .ge 25, 3), (27, .aload_n 1, 1), (28, .iload 5, 2),
  (30, .iload 6, 2), (32, .iload_n 2, 1), (33, .invokevirtual 30, 3), (36, .iload_n 3, 1), (37, .if_icmp .ne 6, 3), (40, .iinc 4 1, 3), (43, .iinc 6 1, 3), (46, .goto (-28), 3),
  (49, .iinc 5 1, 3), (52, .goto (-46), 3), (55, .iload 4, 2), (57, .ireturn, 1)]
def cd_96 : List zSem := [sP (fCon 0), sP (fIst 4), sP (fCon 0), sP (fIst 5), sP (fIld 5), sP (fAld 1),
  sRI (gFI 128), sBr (c2 (zcI .ge)) 26, sP (fCon 0), sP (fIst 6), sP (fIld 6), sP (fAld 1),
  sRI (gFI 129), sBr (c2 (zcI .ge)) 24, sP (fAld 1), sP (fIld 5), sP (fIld 6), sP (fIld 2),
  sCI 51 4 (some 2) 4, sP (fIld 3), sBr (c2 (zcI .ne)) 22, sP (fInc 4 1), sP (fInc 6 1), sGo 10,
  sP (fInc 5 1), sGo 4, sP (fIld 4), sRet rI]
set_option maxRecDepth 100000 in
theorem ck_96 : in_96.map (fun q => zsem zTb (zlk zPl_6) (ztg in_96 q.1) false q.2.1) = cd_96.map some := rfl
/-- Survey_fitColds -/
def in_97 : List zIns := [(0, .iconst 0, 1), (1, .istore 6, 2), (3, .iconst 0, 1), (4, .istore 7, 2), (6, .iload 7, 2), (8, .bipush 10, 2), (10, .if_icmp .ge 46, 3), (13, .aload_n 1, 1),
  (14, .aload_n 1, 1), (15, .getfield 43, 3), (18, .iload_n 2, 1), (19, .iaload, 1), (20, .aload_n 1, 1), (21, .getfield 46, 3), (24, .iload_n 2, 1), (25, .iaload, 1),
  (26, .iload 7, 2), (28, .iload_n 3, 1), (29, .iload 4, 2), (31, .invokevirtual 49, 3), (34, .istore 8, 2), (36, .aload_n 1, 1), (37, .iload 8, 2), (39, .invokevirtual 57, 3),
  (42, .iload 5, 2), (44, .if_icmp .ne 6, 3), (47, .iinc 6 1, 3), (50, .iinc 7 1, 3), (53, .goto (-47), 3), (56, .iload 6, 2), (58, .ireturn, 1)]
def cd_97 : List zSem := [sP (fCon 0), sP (fIst 6), sP (fCon 0), sP (fIst 7), sP (fIld 7), sP (fCon 10),
  sBr (c2 (zcI .ge)) 29, sP (fAld 1), sP (fAld 1), sRR (gFR 132), sP (fIld 2), sRI gAI,
  sP (fAld 1), sRR (gFR 133), sP (fIld 2), sRI gAI, sP (fIld 7), sP (fIld 3),
  sP (fIld 4), sCI 47 6 (some 2) 7, sP (fIst 8), sP (fAld 1), sP (fIld 8), sCI 50 2 (some 2) 2,
  sP (fIld 5), sBr (c2 (zcI .ne)) 27, sP (fInc 6 1), sP (fInc 7 1), sGo 4, sP (fIld 6),
  sRet rI]
set_option maxRecDepth 100000 in
theorem ck_97 : in_97.map (fun q => zsem zTb (zlk zPl_6) (ztg in_97 q.1) false q.2.1) = cd_97.map some := rfl
/-- Survey_nightsTill -/
def in_98 : List zIns := [(0, .iconst 0, 1), (1, .istore 6, 2), (3, .iload 6, 2), (5, .bipush 9, 2), (7, .if_icmp .gt 31, 3), (10, .aload_n 1, 1), (11, .aload_n 1, 1), (12, .iload_n 2, 1),
  (13, .iload 6, 2), (15, .iload_n 3, 1), (16, .iload 4, 2), (18, .invokevirtual 61, 3), (21, .invokevirtual 57, 3), (24, .iload 5, 2), (26, .if_icmp .ne 6, 3), (29, .iload 6, 2),
  (31, .ireturn, 1), (32, .iinc 6 1, 3), (35, .goto (-32), 3), (38, .iconst (-1), 1), (39, .ireturn, 1)]
def cd_98 : List zSem := [sP (fCon 0), sP (fIst 6), sP (fIld 6), sP (fCon 9), sBr (c2 (zcI .gt)) 19, sP (fAld 1),
  sP (fAld 1), sP (fIld 2), sP (fIld 6), sP (fIld 3), sP (fIld 4), sCI 49 5 (some 2) 5,
  sCI 50 2 (some 2) 2, sP (fIld 5), sBr (c2 (zcI .ne)) 17, sP (fIld 6), sRet rI, sP (fInc 6 1),
  sGo 2, sP (fCon (-1)), sRet rI]
set_option maxRecDepth 100000 in
theorem ck_98 : in_98.map (fun q => zsem zTb (zlk zPl_6) (ztg in_98 q.1) false q.2.1) = cd_98.map some := rfl
/-- Survey_deepestHeard -/
def in_99 : List zIns := [(0, .iconst (-1), 1), (1, .istore 4, 2), (3, .iconst 0, 1), (4, .istore 5, 2), (6, .iload 5, 2), (8, .aload_n 1, 1), (9, .getfield 27, 3), (12, .if_icmp .ge 64, 3),
  (15, .aload_n 1, 1), (16, .aload_n 1, 1), (17, .getfield 43, 3), (20, .iload_n 2, 1), (21, .iaload, 1), (22, .iload_n 3, 1), (23, .iload 5, 2), (25, .invokevirtual 65, 3),
  (28, .ifCond .ne 7, 3), (31, .iconst 1, 1), (32, .goto 4, 3), (35, .iconst 0, 1), (36, .istore 6, 2), (38, .iload 6, 2), (40, .ifCond .eq 30, 3), (43, .iload 4, 2),
  (45, .iconst (-1), 1), (46, .if_icmp .eq 20, 3), (49, .aload_n 1, 1), (50, .getfield 69, 3), (53, .iload 5, 2), (55, .iaload, 1), (56, .aload_n 1, 1), (57, .getfield 69, 3),
  (60, .iload 4, 2), (62, .iaload, 1), (63, .if_icmp .le 7, 3), (66, .iload 5, 2), (68, .istore 4, 2), (70, .iinc 5 1, 3), (73, .goto (-67), 3), (76, .iload 4, 2),
  (78, .ireturn, 1)]
def cd_99 : List zSem := [sP (fCon (-1)), sP (fIst 4), sP (fCon 0), sP (fIst 5), sP (fIld 5), sP (fAld 1),
  sRI (gFI 130), sBr (c2 (zcI .ge)) 39, sP (fAld 1), sP (fAld 1), sRR (gFR 132), sP (fIld 2),
  sRI gAI, sP (fIld 3), sP (fIld 5), sCI 46 4 (some 2) 4, sBr (c1 (zc0 .ne)) 19, sP (fCon 1),
  sGo 20, sP (fCon 0), sP (fIst 6), sP (fIld 6), sBr (c1 (zc0 .eq)) 37, sP (fIld 4),
  sP (fCon (-1)), sBr (c2 (zcI .eq)) 35, sP (fAld 1), sRR (gFR 135), sP (fIld 5), sRI gAI,
  sP (fAld 1), sRR (gFR 135), sP (fIld 4), sRI gAI, sBr (c2 (zcI .le)) 37, sP (fIld 5),
  sP (fIst 4), sP (fInc 5 1), sGo 4, sP (fIld 4), sRet rI]
set_option maxRecDepth 100000 in
theorem ck_99 : in_99.map (fun q => zsem zTb (zlk zPl_6) (ztg in_99 q.1) false q.2.1) = cd_99.map some := rfl
/-- Survey_changedNotes -/
def in_100 : List zIns := [(0, .iconst 0, 1), (1, .istore 5, 2), (3, .iconst 0, 1), (4, .istore 6, 2), (6, .iload 6, 2), (8, .aload_n 1, 1), (9, .getfield 27, 3), (12, .if_icmp .ge 45, 3),
  (15, .aload_n 1, 1), (16, .iload_n 2, 1), (17, .iload_n 3, 1), (18, .iload 6, 2), (20, .invokevirtual 72, 3), (23, .istore 7, 2), (25, .iload 7, 2), (27, .iconst (-1), 1),
  (28, .if_icmp .eq 23, 3), (31, .aload_n 1, 1), (32, .iload 7, 2), (34, .invokevirtual 57, 3), (37, .iload 4, 2), (39, .if_icmp .eq 12, 3), (42, .iload 5, 2), (44, .iconst 1, 1),
  (45, .iload 7, 2), (47, .ishl, 1), (48, .ior, 1), (49, .istore 5, 2), (51, .iinc 6 1, 3), (54, .goto (-48), 3), (57, .iload 5, 2), (59, .invokestatic 75, 3),
  (62, .ireturn, 1)]
def cd_100 : List zSem := [sP (fCon 0), sP (fIst 5), sP (fCon 0), sP (fIst 6), sP (fIld 6), sP (fAld 1),
  sRI (gFI 130), sBr (c2 (zcI .ge)) 30, sP (fAld 1), sP (fIld 2), sP (fIld 3), sP (fIld 6),
  sCI 48 4 (some 2) 4, sP (fIst 7), sP (fIld 7), sP (fCon (-1)), sBr (c2 (zcI .eq)) 28, sP (fAld 1),
  sP (fIld 7), sCI 50 2 (some 2) 2, sP (fIld 4), sBr (c2 (zcI .eq)) 28, sP (fIld 5), sP (fCon 1),
  sP (fIld 7), sP (fII zshl), sP (fII (fun x y => x ||| y)), sP (fIst 5), sP (fInc 6 1), sGo 4,
  sP (fIld 5), sCI 325 1 none 1, sRet rI]
set_option maxRecDepth 100000 in
theorem ck_100 : in_100.map (fun q => zsem zTb (zlk zPl_6) (ztg in_100 q.1) false q.2.1) = cd_100.map some := rfl
/-- Survey_leastChoir -/
def in_101 : List zIns := [(0, .iconst 0, 1), (1, .istore_n 3, 1), (2, .iload_n 3, 1), (3, .aload_n 1, 1), (4, .getfield 40, 3), (7, .if_icmp .ge 22, 3), (10, .aload_n 0, 1), (11, .getfield 18, 3),
  (14, .iload_n 3, 1), (15, .aload_n 0, 1), (16, .aload_n 1, 1), (17, .iload_n 3, 1), (18, .iload_n 2, 1), (19, .invokevirtual 80, 3), (22, .iastore, 1), (23, .iinc 3 1, 3),
  (26, .goto (-24), 3), (29, .iconst 1, 1), (30, .aload_n 1, 1), (31, .getfield 27, 3), (34, .ishl, 1), (35, .iconst 1, 1), (36, .isub, 1), (37, .istore_n 3, 1),
  (38, .iconst (-1), 1), (39, .istore 4, 2), (41, .iconst 0, 1), (42, .istore 5, 2), (44, .iload 5, 2), (46, .iconst 1, 1), (47, .aload_n 1, 1), (48, .getfield 40, 3),
  (51, .ishl, 1), (52, .if_icmp .ge 55, 3), (55, .iload 4, 2), (57, .iconst (-1), 1), (58, .if_icmp .eq 16, 3), (61, .iload 5, 2), (63, .invokestatic 75, 3), (66, .iload 4, 2),
  (68, .invokestatic 75, 3), (71, .if_icmp .ge 7, 3), (74, .iconst 1, 1), (75, .goto 4, 3), (78, .iconst 0, 1), (79, .istore 6, 2), (81, .iload 6, 2), (83, .ifCond .eq 18, 3),
  (86, .aload_n 0, 1), (87, .aload_n 1, 1), (88, .iload 5, 2), (90, .invokevirtual 84, 3), (93, .iload_n 3, 1), (94, .if_icmp .ne 7, 3), (97, .iload 5, 2), (99, .istore 4, 2),
  (101, .iinc 5 1, 3), (104, .goto (-60), 3), (107, .iload 4, 2), (109, .ireturn, 1)]
def cd_101 : List zSem := [sP (fCon 0), sP (fIst 3), sP (fIld 3), sP (fAld 1), sRI (gFI 128), sBr (c2 (zcI .ge)) 17,
  sP (fAld 0), sRR (gFR 386), sP (fIld 3), sP (fAld 0), sP (fAld 1), sP (fIld 3),
  sP (fIld 2), sCI 102 4 (some 6) 6, sWr wAI, sP (fInc 3 1), sGo 2, sP (fCon 1),
  sP (fAld 1), sRI (gFI 130), sP (fII zshl), sP (fCon 1), sP (fII (fun x y => x - y)), sP (fIst 3),
  sP (fCon (-1)), sP (fIst 4), sP (fCon 0), sP (fIst 5), sP (fIld 5), sP (fCon 1),
  sP (fAld 1), sRI (gFI 128), sP (fII zshl), sBr (c2 (zcI .ge)) 58, sP (fIld 4), sP (fCon (-1)),
  sBr (c2 (zcI .eq)) 42, sP (fIld 5), sCI 325 1 none 1, sP (fIld 4), sCI 325 1 none 1, sBr (c2 (zcI .ge)) 44,
  sP (fCon 1), sGo 45, sP (fCon 0), sP (fIst 6), sP (fIld 6), sBr (c1 (zc0 .eq)) 56,
  sP (fAld 0), sP (fAld 1), sP (fIld 5), sCI 103 3 (some 6) 5, sP (fIld 3), sBr (c2 (zcI .ne)) 56,
  sP (fIld 5), sP (fIst 4), sP (fInc 5 1), sGo 28, sP (fIld 4), sRet rI]
set_option maxRecDepth 100000 in
theorem ck_101 : in_101.map (fun q => zsem zTb (zlk zPl_6) (ztg in_101 q.1) false q.2.1) = cd_101.map some := rfl
/-- Survey_heardQuestions -/
def in_102 : List zIns := [(0, .iconst 0, 1), (1, .istore 4, 2), (3, .iconst 0, 1), (4, .istore 5, 2), (6, .iload 5, 2), (8, .aload_n 1, 1), (9, .getfield 27, 3), (12, .if_icmp .ge 34, 3),
  (15, .aload_n 1, 1), (16, .aload_n 1, 1), (17, .getfield 43, 3), (20, .iload_n 2, 1), (21, .iaload, 1), (22, .iload_n 3, 1), (23, .iload 5, 2), (25, .invokevirtual 65, 3),
  (28, .ifCond .ne 12, 3), (31, .iload 4, 2), (33, .iconst 1, 1), (34, .iload 5, 2), (36, .ishl, 1), (37, .ior, 1), (38, .istore 4, 2), (40, .iinc 5 1, 3),
  (43, .goto (-37), 3), (46, .iload 4, 2), (48, .ireturn, 1)]
def cd_102 : List zSem := [sP (fCon 0), sP (fIst 4), sP (fCon 0), sP (fIst 5), sP (fIld 5), sP (fAld 1),
  sRI (gFI 130), sBr (c2 (zcI .ge)) 25, sP (fAld 1), sP (fAld 1), sRR (gFR 132), sP (fIld 2),
  sRI gAI, sP (fIld 3), sP (fIld 5), sCI 46 4 (some 2) 4, sBr (c1 (zc0 .ne)) 23, sP (fIld 4),
  sP (fCon 1), sP (fIld 5), sP (fII zshl), sP (fII (fun x y => x ||| y)), sP (fIst 4), sP (fInc 5 1),
  sGo 4, sP (fIld 4), sRet rI]
set_option maxRecDepth 100000 in
theorem ck_102 : in_102.map (fun q => zsem zTb (zlk zPl_6) (ztg in_102 q.1) false q.2.1) = cd_102.map some := rfl
/-- Survey_unionOf -/
def in_103 : List zIns := [(0, .iconst 0, 1), (1, .istore_n 3, 1), (2, .iconst 0, 1), (3, .istore 4, 2), (5, .iload 4, 2), (7, .aload_n 1, 1), (8, .getfield 40, 3), (11, .if_icmp .ge 29, 3),
  (14, .iload_n 2, 1), (15, .iload 4, 2), (17, .ishr, 1), (18, .iconst 1, 1), (19, .iand, 1), (20, .iconst 1, 1), (21, .if_icmp .ne 13, 3), (24, .iload_n 3, 1),
  (25, .aload_n 0, 1), (26, .getfield 18, 3), (29, .iload 4, 2), (31, .iaload, 1), (32, .ior, 1), (33, .istore_n 3, 1), (34, .iinc 4 1, 3), (37, .goto (-32), 3),
  (40, .iload_n 3, 1), (41, .ireturn, 1)]
def cd_103 : List zSem := [sP (fCon 0), sP (fIst 3), sP (fCon 0), sP (fIst 4), sP (fIld 4), sP (fAld 1),
  sRI (gFI 128), sBr (c2 (zcI .ge)) 24, sP (fIld 2), sP (fIld 4), sP (fII zshr), sP (fCon 1),
  sP (fII (fun x y => x &&& y)), sP (fCon 1), sBr (c2 (zcI .ne)) 22, sP (fIld 3), sP (fAld 0), sRR (gFR 386),
  sP (fIld 4), sRI gAI, sP (fII (fun x y => x ||| y)), sP (fIst 3), sP (fInc 4 1), sGo 4,
  sP (fIld 3), sRet rI]
set_option maxRecDepth 100000 in
theorem ck_103 : in_103.map (fun q => zsem zTb (zlk zPl_6) (ztg in_103 q.1) false q.2.1) = cd_103.map some := rfl
/-- Survey_mostPeaceful -/
def in_104 : List zIns := [(0, .iconst 0, 1), (1, .istore_n 3, 1), (2, .iload_n 3, 1), (3, .aload_n 1, 1), (4, .getfield 40, 3), (7, .if_icmp .ge 22, 3), (10, .aload_n 0, 1), (11, .getfield 18, 3),
  (14, .iload_n 3, 1), (15, .aload_n 0, 1), (16, .aload_n 1, 1), (17, .iload_n 3, 1), (18, .iload_n 2, 1), (19, .invokevirtual 88, 3), (22, .iastore, 1), (23, .iinc 3 1, 3),
  (26, .goto (-24), 3), (29, .iconst 0, 1), (30, .istore_n 3, 1), (31, .iconst 0, 1), (32, .istore 4, 2), (34, .iload 4, 2), (36, .iconst 1, 1), (37, .aload_n 1, 1),
  (38, .getfield 40, 3), (41, .ishl, 1), (42, .if_icmp .ge 49, 3), (45, .iload 4, 2), (47, .invokestatic 75, 3), (50, .iload_n 3, 1), (51, .invokestatic 75, 3), (54, .if_icmp .le 7, 3),
  (57, .iconst 1, 1), (58, .goto 4, 3), (61, .iconst 0, 1), (62, .istore 5, 2), (64, .iload 5, 2), (66, .ifCond .eq 19, 3), (69, .aload_n 0, 1), (70, .aload_n 1, 1),
  (71, .iload 4, 2), (73, .invokevirtual 84, 3), (76, .iload 4, 2), (78, .iand, 1), (79, .ifCond .ne 6, 3), (82, .iload 4, 2), (84, .istore_n 3, 1), (85, .iinc 4 1, 3),
  (88, .goto (-54), 3), (91, .iload_n 3, 1), (92, .ireturn, 1)]
def cd_104 : List zSem := [sP (fCon 0), sP (fIst 3), sP (fIld 3), sP (fAld 1), sRI (gFI 128), sBr (c2 (zcI .ge)) 17,
  sP (fAld 0), sRR (gFR 386), sP (fIld 3), sP (fAld 0), sP (fAld 1), sP (fIld 3),
  sP (fIld 2), sCI 105 4 (some 6) 8, sWr wAI, sP (fInc 3 1), sGo 2, sP (fCon 0),
  sP (fIst 3), sP (fCon 0), sP (fIst 4), sP (fIld 4), sP (fCon 1), sP (fAld 1),
  sRI (gFI 128), sP (fII zshl), sBr (c2 (zcI .ge)) 49, sP (fIld 4), sCI 325 1 none 1, sP (fIld 3),
  sCI 325 1 none 1, sBr (c2 (zcI .le)) 34, sP (fCon 1), sGo 35, sP (fCon 0), sP (fIst 5),
  sP (fIld 5), sBr (c1 (zc0 .eq)) 47, sP (fAld 0), sP (fAld 1), sP (fIld 4), sCI 103 3 (some 6) 5,
  sP (fIld 4), sP (fII (fun x y => x &&& y)), sBr (c1 (zc0 .ne)) 47, sP (fIld 4), sP (fIst 3), sP (fInc 4 1),
  sGo 21, sP (fIld 3), sRet rI]
set_option maxRecDepth 100000 in
theorem ck_104 : in_104.map (fun q => zsem zTb (zlk zPl_6) (ztg in_104 q.1) false q.2.1) = cd_104.map some := rfl
/-- Survey_foes -/
def in_105 : List zIns := [(0, .iconst 0, 1), (1, .istore 4, 2), (3, .iconst 0, 1), (4, .istore 5, 2), (6, .iload 5, 2), (8, .aload_n 1, 1), (9, .getfield 27, 3), (12, .if_icmp .ge 63, 3),
  (15, .aload_n 1, 1), (16, .iload_n 2, 1), (17, .iload_n 3, 1), (18, .iload 5, 2), (20, .invokevirtual 30, 3), (23, .istore 6, 2), (25, .iconst 0, 1), (26, .istore 7, 2),
  (28, .iload 7, 2), (30, .aload_n 1, 1), (31, .getfield 40, 3), (34, .if_icmp .ge 35, 3), (37, .iload 6, 2), (39, .aload_n 1, 1), (40, .iload 7, 2), (42, .iload_n 3, 1),
  (43, .iload 5, 2), (45, .invokevirtual 30, 3), (48, .invokestatic 91, 3), (51, .ifCond .eq 12, 3), (54, .iload 4, 2), (56, .iconst 1, 1), (57, .iload 7, 2), (59, .ishl, 1),
  (60, .ior, 1), (61, .istore 4, 2), (63, .iinc 7 1, 3), (66, .goto (-38), 3), (69, .iinc 5 1, 3), (72, .goto (-66), 3), (75, .iload 4, 2), (77, .ireturn, 1)]
def cd_105 : List zSem := [sP (fCon 0), sP (fIst 4), sP (fCon 0), sP (fIst 5), sP (fIld 5), sP (fAld 1),
  sRI (gFI 130), sBr (c2 (zcI .ge)) 38, sP (fAld 1), sP (fIld 2), sP (fIld 3), sP (fIld 5),
  sCI 51 4 (some 2) 4, sP (fIst 6), sP (fCon 0), sP (fIst 7), sP (fIld 7), sP (fAld 1),
  sRI (gFI 128), sBr (c2 (zcI .ge)) 36, sP (fIld 6), sP (fAld 1), sP (fIld 7), sP (fIld 3),
  sP (fIld 5), sCI 51 4 (some 2) 4, sCI 195 2 none 2, sBr (c1 (zc0 .eq)) 34, sP (fIld 4), sP (fCon 1),
  sP (fIld 7), sP (fII zshl), sP (fII (fun x y => x ||| y)), sP (fIst 4), sP (fInc 7 1), sGo 16,
  sP (fInc 5 1), sGo 4, sP (fIld 4), sRet rI]
set_option maxRecDepth 100000 in
theorem ck_105 : in_105.map (fun q => zsem zTb (zlk zPl_6) (ztg in_105 q.1) false q.2.1) = cd_105.map some := rfl
/-- Survey_marches -/
def in_106 : List zIns := [(0, .iconst 0, 1), (1, .istore_n 3, 1), (2, .iconst 0, 1), (3, .istore 4, 2), (5, .iload 4, 2), (7, .aload_n 1, 1), (8, .getfield 40, 3), (11, .if_icmp .ge 59, 3),
  (14, .iconst 0, 1), (15, .istore 5, 2), (17, .iload 5, 2), (19, .aload_n 1, 1), (20, .getfield 21, 3), (23, .if_icmp .ge 41, 3), (26, .aload_n 1, 1), (27, .iload 4, 2),
  (29, .iload 5, 2), (31, .iload_n 2, 1), (32, .invokevirtual 30, 3), (35, .istore 6, 2), (37, .iload 6, 2), (39, .iconst (-1), 1), (40, .if_icmp .eq 18, 3), (43, .iload_n 3, 1),
  (44, .aload_n 0, 1), (45, .aload_n 1, 1), (46, .iload 4, 2), (48, .iload 5, 2), (50, .iload_n 2, 1), (51, .iload 6, 2), (53, .invokevirtual 95, 3), (56, .iadd, 1),
  (57, .istore_n 3, 1), (58, .iinc 5 1, 3), (61, .goto (-44), 3), (64, .iinc 4 1, 3), (67, .goto (-62), 3), (70, .iload_n 3, 1), (71, .ireturn, 1)]
def cd_106 : List zSem := [sP (fCon 0), sP (fIst 3), sP (fCon 0), sP (fIst 4), sP (fIld 4), sP (fAld 1),
  sRI (gFI 128), sBr (c2 (zcI .ge)) 37, sP (fCon 0), sP (fIst 5), sP (fIld 5), sP (fAld 1),
  sRI (gFI 129), sBr (c2 (zcI .ge)) 35, sP (fAld 1), sP (fIld 4), sP (fIld 5), sP (fIld 2),
  sCI 51 4 (some 2) 4, sP (fIst 6), sP (fIld 6), sP (fCon (-1)), sBr (c2 (zcI .eq)) 33, sP (fIld 3),
  sP (fAld 0), sP (fAld 1), sP (fIld 4), sP (fIld 5), sP (fIld 2), sP (fIld 6),
  sCI 107 6 (some 6) 9, sP (fII (fun x y => x + y)), sP (fIst 3), sP (fInc 5 1), sGo 10, sP (fInc 4 1),
  sGo 4, sP (fIld 3), sRet rI]
set_option maxRecDepth 100000 in
theorem ck_106 : in_106.map (fun q => zsem zTb (zlk zPl_6) (ztg in_106 q.1) false q.2.1) = cd_106.map some := rfl
/-- Survey_partners -/
def in_107 : List zIns := [(0, .iconst 0, 1), (1, .istore 6, 2), (3, .iload_n 2, 1), (4, .iconst 1, 1), (5, .iadd, 1), (6, .istore 7, 2), (8, .iload 7, 2), (10, .aload_n 1, 1),
  (11, .getfield 40, 3), (14, .if_icmp .ge 51, 3), (17, .iconst 0, 1), (18, .istore 8, 2), (20, .iload 8, 2), (22, .aload_n 1, 1), (23, .getfield 21, 3), (26, .if_icmp .ge 33, 3),
  (29, .iload 8, 2), (31, .iload_n 3, 1), (32, .if_icmp .eq 21, 3), (35, .aload_n 1, 1), (36, .iload 7, 2), (38, .iload 8, 2), (40, .iload 4, 2), (42, .invokevirtual 30, 3),
  (45, .iload 5, 2), (47, .if_icmp .ne 6, 3), (50, .iinc 6 1, 3), (53, .iinc 8 1, 3), (56, .goto (-36), 3), (59, .iinc 7 1, 3), (62, .goto (-54), 3), (65, .iload 6, 2),
  (67, .ireturn, 1)]
def cd_107 : List zSem := [sP (fCon 0), sP (fIst 6), sP (fIld 2), sP (fCon 1), sP (fII (fun x y => x + y)), sP (fIst 7),
  sP (fIld 7), sP (fAld 1), sRI (gFI 128), sBr (c2 (zcI .ge)) 31, sP (fCon 0), sP (fIst 8),
  sP (fIld 8), sP (fAld 1), sRI (gFI 129), sBr (c2 (zcI .ge)) 29, sP (fIld 8), sP (fIld 3),
  sBr (c2 (zcI .eq)) 27, sP (fAld 1), sP (fIld 7), sP (fIld 8), sP (fIld 4), sCI 51 4 (some 2) 4,
  sP (fIld 5), sBr (c2 (zcI .ne)) 27, sP (fInc 6 1), sP (fInc 8 1), sGo 12, sP (fInc 7 1),
  sGo 6, sP (fIld 6), sRet rI]
set_option maxRecDepth 100000 in
theorem ck_107 : in_107.map (fun q => zsem zTb (zlk zPl_6) (ztg in_107 q.1) false q.2.1) = cd_107.map some := rfl
/-- Survey_triads -/
def in_108 : List zIns := [(0, .aload_n 0, 1), (1, .getfield 9, 3), (4, .iconst 0, 1), (5, .invokestatic 34, 3), (8, .iconst 0, 1), (9, .istore 4, 2), (11, .iload 4, 2), (13, .aload_n 1, 1),
  (14, .getfield 40, 3), (17, .if_icmp .ge 21, 3), (20, .aload_n 0, 1), (21, .aload_n 1, 1), (22, .iload 4, 2), (24, .iload_n 2, 1), (25, .iload_n 3, 1), (26, .invokevirtual 72, 3),
  (29, .invokevirtual 53, 3), (32, .iinc 4 1, 3), (35, .goto (-24), 3), (38, .iconst 0, 1), (39, .istore 4, 2), (41, .iconst 0, 1), (42, .istore 5, 2), (44, .iload 5, 2),
  (46, .bipush 8, 2), (48, .if_icmp .ge 47, 3), (51, .iload 4, 2), (53, .aload_n 0, 1), (54, .getfield 9, 3), (57, .iload 5, 2), (59, .iaload, 1), (60, .aload_n 0, 1),
  (61, .getfield 9, 3), (64, .iload 5, 2), (66, .iconst 2, 1), (67, .iadd, 1), (68, .bipush 8, 2), (70, .irem, 1), (71, .iaload, 1), (72, .imul, 1),
  (73, .aload_n 0, 1), (74, .getfield 9, 3), (77, .iload 5, 2), (79, .iconst 4, 1), (80, .iadd, 1), (81, .bipush 8, 2), (83, .irem, 1), (84, .iaload, 1),
  (85, .imul, 1), (86, .iadd, 1), (87, .istore 4, 2), (89, .iinc 5 1, 3), (92, .goto (-48), 3), (95, .iload 4, 2), (97, .ireturn, 1)]
def cd_108 : List zSem := [sP (fAld 0), sRR (gFR 384), sP (fCon 0), sCV 324 2 none 4, sP (fCon 0), sP (fIst 4),
  sP (fIld 4), sP (fAld 1), sRI (gFI 128), sBr (c2 (zcI .ge)) 19, sP (fAld 0), sP (fAld 1),
  sP (fIld 4), sP (fIld 2), sP (fIld 3), sCI 48 4 (some 2) 4, sCV 95 2 (some 6) 2, sP (fInc 4 1),
  sGo 6, sP (fCon 0), sP (fIst 4), sP (fCon 0), sP (fIst 5), sP (fIld 5),
  sP (fCon 8), sBr (c2 (zcI .ge)) 53, sP (fIld 4), sP (fAld 0), sRR (gFR 384), sP (fIld 5),
  sRI gAI, sP (fAld 0), sRR (gFR 384), sP (fIld 5), sP (fCon 2), sP (fII (fun x y => x + y)),
  sP (fCon 8), sRI (gDiv zrem), sRI gAI, sP (fII (fun x y => x * y)), sP (fAld 0), sRR (gFR 384),
  sP (fIld 5), sP (fCon 4), sP (fII (fun x y => x + y)), sP (fCon 8), sRI (gDiv zrem), sRI gAI,
  sP (fII (fun x y => x * y)), sP (fII (fun x y => x + y)), sP (fIst 4), sP (fInc 5 1), sGo 23, sP (fIld 4),
  sRet rI]
set_option maxRecDepth 100000 in
theorem ck_108 : in_108.map (fun q => zsem zTb (zlk zPl_6) (ztg in_108 q.1) false q.2.1) = cd_108.map some := rfl
/-- Survey_twinCouples -/
def in_109 : List zIns := [(0, .iconst 0, 1), (1, .istore_n 2, 1), (2, .iconst 0, 1), (3, .istore_n 3, 1), (4, .iload_n 3, 1), (5, .aload_n 1, 1), (6, .getfield 40, 3), (9, .if_icmp .ge 42, 3),
  (12, .iload_n 3, 1), (13, .iconst 1, 1), (14, .iadd, 1), (15, .istore 4, 2), (17, .iload 4, 2), (19, .aload_n 1, 1), (20, .getfield 40, 3), (23, .if_icmp .ge 22, 3),
  (26, .aload_n 1, 1), (27, .iload_n 3, 1), (28, .iload 4, 2), (30, .invokestatic 99, 3), (33, .ifCond .eq 6, 3), (36, .iinc 2 1, 3), (39, .iinc 4 1, 3), (42, .goto (-25), 3),
  (45, .iinc 3 1, 3), (48, .goto (-44), 3), (51, .iload_n 2, 1), (52, .ireturn, 1)]
def cd_109 : List zSem := [sP (fCon 0), sP (fIst 2), sP (fCon 0), sP (fIst 3), sP (fIld 3), sP (fAld 1),
  sRI (gFI 128), sBr (c2 (zcI .ge)) 26, sP (fIld 3), sP (fCon 1), sP (fII (fun x y => x + y)), sP (fIst 4),
  sP (fIld 4), sP (fAld 1), sRI (gFI 128), sBr (c2 (zcI .ge)) 24, sP (fAld 1), sP (fIld 3),
  sP (fIld 4), sCI 110 3 none 5, sBr (c1 (zc0 .eq)) 22, sP (fInc 2 1), sP (fInc 4 1), sGo 12,
  sP (fInc 3 1), sGo 4, sP (fIld 2), sRet rI]
set_option maxRecDepth 100000 in
theorem ck_109 : in_109.map (fun q => zsem zTb (zlk zPl_6) (ztg in_109 q.1) false q.2.1) = cd_109.map some := rfl
/-- Survey_areTwins -/
def in_110 : List zIns := [(0, .iconst 0, 1), (1, .istore_n 3, 1), (2, .iload_n 3, 1), (3, .aload_n 0, 1), (4, .getfield 21, 3), (7, .if_icmp .ge 48, 3), (10, .iconst 0, 1), (11, .istore 4, 2),
  (13, .iload 4, 2), (15, .aload_n 0, 1), (16, .getfield 27, 3), (19, .if_icmp .ge 30, 3), (22, .aload_n 0, 1), (23, .iload_n 1, 1), (24, .iload_n 3, 1), (25, .iload 4, 2),
  (27, .invokevirtual 72, 3), (30, .aload_n 0, 1), (31, .iload_n 2, 1), (32, .iload_n 3, 1), (33, .iload 4, 2), (35, .invokevirtual 72, 3), (38, .if_icmp .eq 5, 3), (41, .iconst 0, 1),
  (42, .ireturn, 1), (43, .iinc 4 1, 3), (46, .goto (-33), 3), (49, .iinc 3 1, 3), (52, .goto (-50), 3), (55, .iconst 1, 1), (56, .ireturn, 1)]
def cd_110 : List zSem := [sP (fCon 0), sP (fIst 3), sP (fIld 3), sP (fAld 0), sRI (gFI 129), sBr (c2 (zcI .ge)) 29,
  sP (fCon 0), sP (fIst 4), sP (fIld 4), sP (fAld 0), sRI (gFI 130), sBr (c2 (zcI .ge)) 27,
  sP (fAld 0), sP (fIld 1), sP (fIld 3), sP (fIld 4), sCI 48 4 (some 2) 4, sP (fAld 0),
  sP (fIld 2), sP (fIld 3), sP (fIld 4), sCI 48 4 (some 2) 4, sBr (c2 (zcI .eq)) 25, sP (fCon 0),
  sRz, sP (fInc 4 1), sGo 8, sP (fInc 3 1), sGo 2, sP (fCon 1),
  sRz]
set_option maxRecDepth 100000 in
theorem ck_110 : in_110.map (fun q => zsem zTb (zlk zPl_6) (ztg in_110 q.1) true q.2.1) = cd_110.map some := rfl
/-- Survey_cutsTo -/
def in_111 : List zIns := [(0, .iconst 0, 1), (1, .istore_n 3, 1), (2, .iconst 0, 1), (3, .istore 4, 2), (5, .iload 4, 2), (7, .aload_n 1, 1), (8, .getfield 40, 3), (11, .if_icmp .ge 27, 3),
  (14, .iload_n 3, 1), (15, .iload_n 2, 1), (16, .bipush 8, 2), (18, .iadd, 1), (19, .aload_n 1, 1), (20, .getfield 46, 3), (23, .iload 4, 2), (25, .iaload, 1),
  (26, .isub, 1), (27, .bipush 8, 2), (29, .irem, 1), (30, .iadd, 1), (31, .istore_n 3, 1), (32, .iinc 4 1, 3), (35, .goto (-30), 3), (38, .iload_n 3, 1),
  (39, .ireturn, 1)]
def cd_111 : List zSem := [sP (fCon 0), sP (fIst 3), sP (fCon 0), sP (fIst 4), sP (fIld 4), sP (fAld 1),
  sRI (gFI 128), sBr (c2 (zcI .ge)) 23, sP (fIld 3), sP (fIld 2), sP (fCon 8), sP (fII (fun x y => x + y)),
  sP (fAld 1), sRR (gFR 133), sP (fIld 4), sRI gAI, sP (fII (fun x y => x - y)), sP (fCon 8),
  sRI (gDiv zrem), sP (fII (fun x y => x + y)), sP (fIst 3), sP (fInc 4 1), sGo 4, sP (fIld 3),
  sRet rI]
set_option maxRecDepth 100000 in
theorem ck_111 : in_111.map (fun q => zsem zTb (zlk zPl_6) (ztg in_111 q.1) false q.2.1) = cd_111.map some := rfl
/-- Survey_bestKey -/
def in_112 : List zIns := [(0, .iconst 0, 1), (1, .istore_n 2, 1), (2, .iconst 1, 1), (3, .istore_n 3, 1), (4, .iload_n 3, 1), (5, .bipush 8, 2), (7, .if_icmp .ge 26, 3), (10, .aload_n 0, 1),
  (11, .aload_n 1, 1), (12, .iload_n 3, 1), (13, .invokevirtual 103, 3), (16, .aload_n 0, 1), (17, .aload_n 1, 1), (18, .iload_n 2, 1), (19, .invokevirtual 103, 3), (22, .if_icmp .ge 5, 3),
  (25, .iload_n 3, 1), (26, .istore_n 2, 1), (27, .iinc 3 1, 3), (30, .goto (-26), 3), (33, .iload_n 2, 1), (34, .ireturn, 1)]
def cd_112 : List zSem := [sP (fCon 0), sP (fIst 2), sP (fCon 1), sP (fIst 3), sP (fIld 3), sP (fCon 8),
  sBr (c2 (zcI .ge)) 20, sP (fAld 0), sP (fAld 1), sP (fIld 3), sCI 111 3 (some 6) 5, sP (fAld 0),
  sP (fAld 1), sP (fIld 2), sCI 111 3 (some 6) 5, sBr (c2 (zcI .ge)) 18, sP (fIld 3), sP (fIst 2),
  sP (fInc 3 1), sGo 4, sP (fIld 2), sRet rI]
set_option maxRecDepth 100000 in
theorem ck_112 : in_112.map (fun q => zsem zTb (zlk zPl_6) (ztg in_112 q.1) false q.2.1) = cd_112.map some := rfl
/-- Survey_answersIn -/
def in_113 : List zIns := [(0, .iconst 0, 1), (1, .istore 4, 2), (3, .iconst 0, 1), (4, .istore 5, 2), (6, .iload 5, 2), (8, .bipush 8, 2), (10, .if_icmp .ge 37, 3), (13, .aload_n 1, 1),
  (14, .getfield 106, 3), (17, .iload 5, 2), (19, .iaload, 1), (20, .iload_n 3, 1), (21, .if_icmp .ne 20, 3), (24, .iload 4, 2), (26, .aload_n 0, 1), (27, .getfield 9, 3),
  (30, .iload 5, 2), (32, .iload_n 2, 1), (33, .iadd, 1), (34, .bipush 8, 2), (36, .irem, 1), (37, .iaload, 1), (38, .iadd, 1), (39, .istore 4, 2),
  (41, .iinc 5 1, 3), (44, .goto (-38), 3), (47, .iload 4, 2), (49, .ireturn, 1)]
def cd_113 : List zSem := [sP (fCon 0), sP (fIst 4), sP (fCon 0), sP (fIst 5), sP (fIld 5), sP (fCon 8),
  sBr (c2 (zcI .ge)) 26, sP (fAld 1), sRR (gFR 137), sP (fIld 5), sRI gAI, sP (fIld 3),
  sBr (c2 (zcI .ne)) 24, sP (fIld 4), sP (fAld 0), sRR (gFR 384), sP (fIld 5), sP (fIld 2),
  sP (fII (fun x y => x + y)), sP (fCon 8), sRI (gDiv zrem), sRI gAI, sP (fII (fun x y => x + y)), sP (fIst 4),
  sP (fInc 5 1), sGo 4, sP (fIld 4), sRet rI]
set_option maxRecDepth 100000 in
theorem ck_113 : in_113.map (fun q => zsem zTb (zlk zPl_6) (ztg in_113 q.1) false q.2.1) = cd_113.map some := rfl
/-- Survey_fairestCold -/
def in_114 : List zIns := [(0, .iconst 0, 1), (1, .istore_n 3, 1), (2, .iconst 1, 1), (3, .istore 4, 2), (5, .iload 4, 2), (7, .bipush 10, 2), (9, .if_icmp .ge 30, 3), (12, .aload_n 0, 1),
  (13, .aload_n 1, 1), (14, .iload 4, 2), (16, .iload_n 2, 1), (17, .invokevirtual 109, 3), (20, .aload_n 0, 1), (21, .aload_n 1, 1), (22, .iload_n 3, 1), (23, .iload_n 2, 1),
  (24, .invokevirtual 109, 3), (27, .if_icmp .le 6, 3), (30, .iload 4, 2), (32, .istore_n 3, 1), (33, .iinc 4 1, 3), (36, .goto (-31), 3), (39, .iload_n 3, 1), (40, .ireturn, 1)]
def cd_114 : List zSem := [sP (fCon 0), sP (fIst 3), sP (fCon 1), sP (fIst 4), sP (fIld 4), sP (fCon 10),
  sBr (c2 (zcI .ge)) 22, sP (fAld 0), sP (fAld 1), sP (fIld 4), sP (fIld 2), sCI 113 4 (some 6) 6,
  sP (fAld 0), sP (fAld 1), sP (fIld 3), sP (fIld 2), sCI 113 4 (some 6) 6, sBr (c2 (zcI .le)) 20,
  sP (fIld 4), sP (fIst 3), sP (fInc 4 1), sGo 4, sP (fIld 3), sRet rI]
set_option maxRecDepth 100000 in
theorem ck_114 : in_114.map (fun q => zsem zTb (zlk zPl_6) (ztg in_114 q.1) false q.2.1) = cd_114.map some := rfl
/-- Survey_shareOut -/
def in_115 : List zIns := [(0, .aload_n 0, 1), (1, .getfield 15, 3), (4, .iconst (-1), 1), (5, .invokestatic 34, 3), (8, .iconst 0, 1), (9, .istore_n 2, 1), (10, .iconst 0, 1), (11, .istore_n 3, 1),
  (12, .iconst 0, 1), (13, .istore 4, 2), (15, .iload 4, 2), (17, .aload_n 1, 1), (18, .getfield 21, 3), (21, .if_icmp .ge 62, 3), (24, .aload_n 1, 1), (25, .iload_n 2, 1),
  (26, .invokestatic 112, 3), (29, .istore 5, 2), (31, .aload_n 0, 1), (32, .aload_n 1, 1), (33, .iload_n 3, 1), (34, .iload 5, 2), (36, .invokevirtual 115, 3), (39, .istore 6, 2),
  (41, .iload 5, 2), (43, .iconst (-1), 1), (44, .if_icmp .eq 9, 3), (47, .iload 6, 2), (49, .iconst (-1), 1), (50, .if_icmp .ne 4, 3), (53, .return_, 1), (54, .aload_n 0, 1),
  (55, .getfield 15, 3), (58, .iload 5, 2), (60, .iload 6, 2), (62, .iastore, 1), (63, .iload_n 2, 1), (64, .iconst 1, 1), (65, .iload 5, 2), (67, .ishl, 1),
  (68, .ior, 1), (69, .istore_n 2, 1), (70, .iload_n 3, 1), (71, .iconst 1, 1), (72, .iload 6, 2), (74, .ishl, 1), (75, .ior, 1), (76, .istore_n 3, 1),
  (77, .iinc 4 1, 3), (80, .goto (-65), 3), (83, .return_, 1)]
def cd_115 : List zSem := [sP (fAld 0), sRR (gFR 385), sP (fCon (-1)), sCV 324 2 none 4, sP (fCon 0), sP (fIst 2),
  sP (fCon 0), sP (fIst 3), sP (fCon 0), sP (fIst 4), sP (fIld 4), sP (fAld 1),
  sRI (gFI 129), sBr (c2 (zcI .ge)) 50, sP (fAld 1), sP (fIld 2), sCI 116 2 none 5, sP (fIst 5),
  sP (fAld 0), sP (fAld 1), sP (fIld 3), sP (fIld 5), sCI 117 4 (some 6) 8, sP (fIst 6),
  sP (fIld 5), sP (fCon (-1)), sBr (c2 (zcI .eq)) 30, sP (fIld 6), sP (fCon (-1)), sBr (c2 (zcI .ne)) 31,
  sRet rV, sP (fAld 0), sRR (gFR 385), sP (fIld 5), sP (fIld 6), sWr wAI,
  sP (fIld 2), sP (fCon 1), sP (fIld 5), sP (fII zshl), sP (fII (fun x y => x ||| y)), sP (fIst 2),
  sP (fIld 3), sP (fCon 1), sP (fIld 6), sP (fII zshl), sP (fII (fun x y => x ||| y)), sP (fIst 3),
  sP (fInc 4 1), sGo 10, sRet rV]
set_option maxRecDepth 100000 in
theorem ck_115 : in_115.map (fun q => zsem zTb (zlk zPl_6) (ztg in_115 q.1) false q.2.1) = cd_115.map some := rfl
/-- Survey_strongest -/
def in_116 : List zIns := [(0, .iconst (-1), 1), (1, .istore_n 2, 1), (2, .iconst 0, 1), (3, .istore_n 3, 1), (4, .iload_n 3, 1), (5, .aload_n 0, 1), (6, .getfield 21, 3), (9, .if_icmp .ge 51, 3),
  (12, .iload_n 1, 1), (13, .iload_n 3, 1), (14, .ishr, 1), (15, .iconst 1, 1), (16, .iand, 1), (17, .ifCond .ne 7, 3), (20, .iconst 1, 1), (21, .goto 4, 3),
  (24, .iconst 0, 1), (25, .istore 4, 2), (27, .iload 4, 2), (29, .ifCond .eq 25, 3), (32, .iload_n 2, 1), (33, .iconst (-1), 1), (34, .if_icmp .eq 18, 3), (37, .aload_n 0, 1),
  (38, .getfield 118, 3), (41, .iload_n 3, 1), (42, .iaload, 1), (43, .aload_n 0, 1), (44, .getfield 118, 3), (47, .iload_n 2, 1), (48, .iaload, 1), (49, .if_icmp .le 5, 3),
  (52, .iload_n 3, 1), (53, .istore_n 2, 1), (54, .iinc 3 1, 3), (57, .goto (-53), 3), (60, .iload_n 2, 1), (61, .ireturn, 1)]
def cd_116 : List zSem := [sP (fCon (-1)), sP (fIst 2), sP (fCon 0), sP (fIst 3), sP (fIld 3), sP (fAld 0),
  sRI (gFI 129), sBr (c2 (zcI .ge)) 36, sP (fIld 1), sP (fIld 3), sP (fII zshr), sP (fCon 1),
  sP (fII (fun x y => x &&& y)), sBr (c1 (zc0 .ne)) 16, sP (fCon 1), sGo 17, sP (fCon 0), sP (fIst 4),
  sP (fIld 4), sBr (c1 (zc0 .eq)) 34, sP (fIld 2), sP (fCon (-1)), sBr (c2 (zcI .eq)) 32, sP (fAld 0),
  sRR (gFR 134), sP (fIld 3), sRI gAI, sP (fAld 0), sRR (gFR 134), sP (fIld 2),
  sRI gAI, sBr (c2 (zcI .le)) 34, sP (fIld 3), sP (fIst 2), sP (fInc 3 1), sGo 4,
  sP (fIld 2), sRet rI]
set_option maxRecDepth 100000 in
theorem ck_116 : in_116.map (fun q => zsem zTb (zlk zPl_6) (ztg in_116 q.1) false q.2.1) = cd_116.map some := rfl
/-- Survey_mostHeard -/
def in_117 : List zIns := [(0, .iconst (-1), 1), (1, .istore 4, 2), (3, .iconst (-1), 1), (4, .istore 5, 2), (6, .iconst 0, 1), (7, .istore 6, 2), (9, .iload 6, 2), (11, .aload_n 1, 1),
  (12, .getfield 40, 3), (15, .if_icmp .ge 54, 3), (18, .aload_n 1, 1), (19, .iload_n 3, 1), (20, .invokevirtual 121, 3), (23, .ifCond .eq 46, 3), (26, .aload_n 0, 1), (27, .aload_n 1, 1),
  (28, .iload 6, 2), (30, .iload_n 3, 1), (31, .invokevirtual 80, 3), (34, .invokestatic 75, 3), (37, .istore 7, 2), (39, .iload_n 2, 1), (40, .iload 6, 2), (42, .ishr, 1),
  (43, .iconst 1, 1), (44, .iand, 1), (45, .ifCond .ne 18, 3), (48, .iload 7, 2), (50, .iload 5, 2), (52, .if_icmp .le 11, 3), (55, .iload 7, 2), (57, .istore 5, 2),
  (59, .iload 6, 2), (61, .istore 4, 2), (63, .iinc 6 1, 3), (66, .goto (-57), 3), (69, .iload 4, 2), (71, .ireturn, 1)]
def cd_117 : List zSem := [sP (fCon (-1)), sP (fIst 4), sP (fCon (-1)), sP (fIst 5), sP (fCon 0), sP (fIst 6),
  sP (fIld 6), sP (fAld 1), sRI (gFI 128), sBr (c2 (zcI .ge)) 36, sP (fAld 1), sP (fIld 3),
  sCI 40 2 (some 2) 2, sBr (c1 (zc0 .eq)) 36, sP (fAld 0), sP (fAld 1), sP (fIld 6), sP (fIld 3),
  sCI 102 4 (some 6) 6, sCI 325 1 none 1, sP (fIst 7), sP (fIld 2), sP (fIld 6), sP (fII zshr),
  sP (fCon 1), sP (fII (fun x y => x &&& y)), sBr (c1 (zc0 .ne)) 34, sP (fIld 7), sP (fIld 5), sBr (c2 (zcI .le)) 34,
  sP (fIld 7), sP (fIst 5), sP (fIld 6), sP (fIst 4), sP (fInc 6 1), sGo 6,
  sP (fIld 4), sRet rI]
set_option maxRecDepth 100000 in
theorem ck_117 : in_117.map (fun q => zsem zTb (zlk zPl_6) (ztg in_117 q.1) false q.2.1) = cd_117.map some := rfl
/-- Survey_ownerOf -/
def in_118 : List zIns := [(0, .iconst 0, 1), (1, .istore_n 3, 1), (2, .iload_n 3, 1), (3, .aload_n 1, 1), (4, .getfield 21, 3), (7, .if_icmp .ge 21, 3), (10, .aload_n 0, 1), (11, .getfield 15, 3),
  (14, .iload_n 3, 1), (15, .iaload, 1), (16, .iload_n 2, 1), (17, .if_icmp .ne 5, 3), (20, .iload_n 3, 1), (21, .ireturn, 1), (22, .iinc 3 1, 3), (25, .goto (-23), 3),
  (28, .iconst (-1), 1), (29, .ireturn, 1)]
def cd_118 : List zSem := [sP (fCon 0), sP (fIst 3), sP (fIld 3), sP (fAld 1), sRI (gFI 129), sBr (c2 (zcI .ge)) 16,
  sP (fAld 0), sRR (gFR 385), sP (fIld 3), sRI gAI, sP (fIld 2), sBr (c2 (zcI .ne)) 14,
  sP (fIld 3), sRet rI, sP (fInc 3 1), sGo 2, sP (fCon (-1)), sRet rI]
set_option maxRecDepth 100000 in
theorem ck_118 : in_118.map (fun q => zsem zTb (zlk zPl_6) (ztg in_118 q.1) false q.2.1) = cd_118.map some := rfl
/-- Survey_wettings -/
def in_119 : List zIns := [(0, .aload_n 1, 1), (1, .getfield 43, 3), (4, .iload_n 2, 1), (5, .iaload, 1), (6, .istore_n 3, 1), (7, .iconst 0, 1), (8, .istore 4, 2), (10, .iload 4, 2),
  (12, .iconst 3, 1), (13, .if_icmp .gt 25, 3), (16, .aload_n 1, 1), (17, .iload_n 3, 1), (18, .invokestatic 125, 3), (21, .ifCond .eq 6, 3), (24, .iload 4, 2), (26, .ireturn, 1),
  (27, .iload_n 3, 1), (28, .invokestatic 129, 3), (31, .istore_n 3, 1), (32, .iinc 4 1, 3), (35, .goto (-25), 3), (38, .iconst (-1), 1), (39, .ireturn, 1)]
def cd_119 : List zSem := [sP (fAld 1), sRR (gFR 132), sP (fIld 2), sRI gAI, sP (fIst 3), sP (fCon 0),
  sP (fIst 4), sP (fIld 4), sP (fCon 3), sBr (c2 (zcI .gt)) 21, sP (fAld 1), sP (fIld 3),
  sCI 120 2 none 4, sBr (c1 (zc0 .eq)) 16, sP (fIld 4), sRet rI, sP (fIld 3), sCI 194 1 none 1,
  sP (fIst 3), sP (fInc 4 1), sGo 7, sP (fCon (-1)), sRet rI]
set_option maxRecDepth 100000 in
theorem ck_119 : in_119.map (fun q => zsem zTb (zlk zPl_6) (ztg in_119 q.1) false q.2.1) = cd_119.map some := rfl
/-- Survey_neverCoughs -/
def in_120 : List zIns := [(0, .iconst 0, 1), (1, .istore_n 2, 1), (2, .iload_n 2, 1), (3, .aload_n 0, 1), (4, .getfield 21, 3), (7, .if_icmp .ge 37, 3), (10, .iconst 0, 1), (11, .istore_n 3, 1),
  (12, .iload_n 3, 1), (13, .aload_n 0, 1), (14, .getfield 27, 3), (17, .if_icmp .ge 21, 3), (20, .aload_n 0, 1), (21, .iload_n 1, 1), (22, .iload_n 2, 1), (23, .iload_n 3, 1),
  (24, .invokevirtual 65, 3), (27, .ifCond .eq 5, 3), (30, .iconst 0, 1), (31, .ireturn, 1), (32, .iinc 3 1, 3), (35, .goto (-23), 3), (38, .iinc 2 1, 3), (41, .goto (-39), 3),
  (44, .iconst 1, 1), (45, .ireturn, 1)]
def cd_120 : List zSem := [sP (fCon 0), sP (fIst 2), sP (fIld 2), sP (fAld 0), sRI (gFI 129), sBr (c2 (zcI .ge)) 24,
  sP (fCon 0), sP (fIst 3), sP (fIld 3), sP (fAld 0), sRI (gFI 130), sBr (c2 (zcI .ge)) 22,
  sP (fAld 0), sP (fIld 1), sP (fIld 2), sP (fIld 3), sCI 46 4 (some 2) 4, sBr (c1 (zc0 .eq)) 20,
  sP (fCon 0), sRz, sP (fInc 3 1), sGo 8, sP (fInc 2 1), sGo 2,
  sP (fCon 1), sRz]
set_option maxRecDepth 100000 in
theorem ck_120 : in_120.map (fun q => zsem zTb (zlk zPl_6) (ztg in_120 q.1) true q.2.1) = cd_120.map some := rfl
/-- Survey_agreement -/
def in_121 : List zIns := [(0, .iconst 0, 1), (1, .istore 4, 2), (3, .iconst 0, 1), (4, .istore 5, 2), (6, .iload 5, 2), (8, .iconst 3, 1), (9, .if_icmp .ge 55, 3), (12, .iconst 0, 1),
  (13, .istore 6, 2), (15, .iconst 0, 1), (16, .istore 7, 2), (18, .iload 7, 2), (20, .aload_n 1, 1), (21, .getfield 21, 3), (24, .if_icmp .ge 25, 3), (27, .aload_n 1, 1),
  (28, .iload_n 2, 1), (29, .iload 7, 2), (31, .iload_n 3, 1), (32, .invokevirtual 30, 3), (35, .iload 5, 2), (37, .if_icmp .ne 6, 3), (40, .iinc 6 1, 3), (43, .iinc 7 1, 3),
  (46, .goto (-28), 3), (49, .iload 4, 2), (51, .iload 6, 2), (53, .invokestatic 132, 3), (56, .istore 4, 2), (58, .iinc 5 1, 3), (61, .goto (-55), 3), (64, .iload 4, 2),
  (66, .ireturn, 1)]
def cd_121 : List zSem := [sP (fCon 0), sP (fIst 4), sP (fCon 0), sP (fIst 5), sP (fIld 5), sP (fCon 3),
  sBr (c2 (zcI .ge)) 31, sP (fCon 0), sP (fIst 6), sP (fCon 0), sP (fIst 7), sP (fIld 7),
  sP (fAld 1), sRI (gFI 129), sBr (c2 (zcI .ge)) 25, sP (fAld 1), sP (fIld 2), sP (fIld 7),
  sP (fIld 3), sCI 51 4 (some 2) 4, sP (fIld 5), sBr (c2 (zcI .ne)) 23, sP (fInc 6 1), sP (fInc 7 1),
  sGo 11, sP (fIld 4), sP (fIld 6), sP (fMM zmax), sP (fIst 4), sP (fInc 5 1),
  sGo 4, sP (fIld 4), sRet rI]
set_option maxRecDepth 100000 in
theorem ck_121 : in_121.map (fun q => zsem zTb (zlk zPl_6) (ztg in_121 q.1) false q.2.1) = cd_121.map some := rfl
/-- Survey_clearestReed -/
def in_122 : List zIns := [(0, .iconst (-1), 1), (1, .istore_n 3, 1), (2, .iconst (-1), 1), (3, .istore 4, 2), (5, .iconst 0, 1), (6, .istore 5, 2), (8, .iload 5, 2), (10, .aload_n 1, 1),
  (11, .getfield 40, 3), (14, .if_icmp .ge 33, 3), (17, .aload_n 0, 1), (18, .aload_n 1, 1), (19, .iload 5, 2), (21, .iload_n 2, 1), (22, .invokevirtual 138, 3), (25, .istore 6, 2),
  (27, .iload 6, 2), (29, .iload 4, 2), (31, .if_icmp .le 10, 3), (34, .iload 6, 2), (36, .istore 4, 2), (38, .iload 5, 2), (40, .istore_n 3, 1), (41, .iinc 5 1, 3),
  (44, .goto (-36), 3), (47, .iload_n 3, 1), (48, .ireturn, 1)]
def cd_122 : List zSem := [sP (fCon (-1)), sP (fIst 3), sP (fCon (-1)), sP (fIst 4), sP (fCon 0), sP (fIst 5),
  sP (fIld 5), sP (fAld 1), sRI (gFI 128), sBr (c2 (zcI .ge)) 25, sP (fAld 0), sP (fAld 1),
  sP (fIld 5), sP (fIld 2), sCI 121 4 (some 6) 8, sP (fIst 6), sP (fIld 6), sP (fIld 4),
  sBr (c2 (zcI .le)) 23, sP (fIld 6), sP (fIst 4), sP (fIld 5), sP (fIst 3), sP (fInc 5 1),
  sGo 6, sP (fIld 3), sRet rI]
set_option maxRecDepth 100000 in
theorem ck_122 : in_122.map (fun q => zsem zTb (zlk zPl_6) (ztg in_122 q.1) false q.2.1) = cd_122.map some := rfl
/-- Suspects_init -/
def in_123 : List zIns := [(0, .aload_n 0, 1), (1, .invokespecial 3, 3), (4, .aload_n 0, 1), (5, .bipush 80, 2), (7, .newarray .int, 2), (9, .putfield 9, 3), (12, .aload_n 0, 1), (13, .bipush 9, 2),
  (15, .newarray .int, 2), (17, .putfield 15, 3), (20, .return_, 1)]
def cd_123 : List zSem := [sP (fAld 0), sP fObj, sP (fAld 0), sP (fCon 80), sNA (znA 0), sWr (wFR 449),
  sP (fAld 0), sP (fCon 9), sNA (znA 0), sWr (wFR 450), sRet rV]
set_option maxRecDepth 100000 in
theorem ck_123 : in_123.map (fun q => zsem zTb (zlk zPl_7) (ztg in_123 q.1) false q.2.1) = cd_123.map some := rfl
/-- Suspects_gather -/
def in_124 : List zIns := [(0, .aload_n 0, 1), (1, .iconst 0, 1), (2, .putfield 18, 3), (5, .iconst 0, 1), (6, .istore_n 3, 1), (7, .iload_n 3, 1), (8, .bipush 80, 2), (10, .if_icmp .ge 45, 3),
  (13, .aload_n 1, 1), (14, .aload_n 2, 1), (15, .iload_n 3, 1), (16, .bipush 8, 2), (18, .idiv, 1), (19, .iload_n 3, 1), (20, .bipush 8, 2), (22, .irem, 1),
  (23, .invokestatic 22, 3), (26, .ifCond .eq 23, 3), (29, .aload_n 0, 1), (30, .getfield 9, 3), (33, .aload_n 0, 1), (34, .getfield 18, 3), (37, .iload_n 3, 1), (38, .iastore, 1),
  (39, .aload_n 0, 1), (40, .dup, 1), (41, .getfield 18, 3), (44, .iconst 1, 1), (45, .iadd, 1), (46, .putfield 18, 3), (49, .iinc 3 1, 3), (52, .goto (-45), 3),
  (55, .return_, 1)]
def cd_124 : List zSem := [sP (fAld 0), sP (fCon 0), sWr (wFI 448), sP (fCon 0), sP (fIst 3), sP (fIld 3),
  sP (fCon 80), sBr (c2 (zcI .ge)) 32, sP (fAld 1), sP (fAld 2), sP (fIld 3), sP (fCon 8),
  sRI (gDiv (fun x y => x / y)), sP (fIld 3), sP (fCon 8), sRI (gDiv zrem), sCI 125 4 none 6, sBr (c1 (zc0 .eq)) 30,
  sP (fAld 0), sRR (gFR 449), sP (fAld 0), sRI (gFI 448), sP (fIld 3), sWr wAI,
  sP (fAld 0), sP fDup, sRI (gFI 448), sP (fCon 1), sP (fII (fun x y => x + y)), sWr (wFI 448),
  sP (fInc 3 1), sGo 5, sRet rV]
set_option maxRecDepth 100000 in
theorem ck_124 : in_124.map (fun q => zsem zTb (zlk zPl_7) (ztg in_124 q.1) false q.2.1) = cd_124.map some := rfl
/-- Suspects_agrees -/
def in_125 : List zIns := [(0, .iconst 0, 1), (1, .istore 4, 2), (3, .iload 4, 2), (5, .aload_n 1, 1), (6, .getfield 26, 3), (9, .if_icmp .ge 54, 3), (12, .aload_n 0, 1), (13, .iload_n 2, 1),
  (14, .iload 4, 2), (16, .invokestatic 29, 3), (19, .iload_n 3, 1), (20, .aload_n 0, 1), (21, .getfield 33, 3), (24, .aload_n 1, 1), (25, .getfield 38, 3), (28, .iload 4, 2),
  (30, .iaload, 1), (31, .aload_n 1, 1), (32, .getfield 41, 3), (35, .iload 4, 2), (37, .iaload, 1), (38, .invokevirtual 44, 3), (41, .istore 5, 2), (43, .iload 5, 2),
  (45, .aload_n 1, 1), (46, .getfield 48, 3), (49, .iload 4, 2), (51, .iaload, 1), (52, .if_icmp .eq 5, 3), (55, .iconst 0, 1), (56, .ireturn, 1), (57, .iinc 4 1, 3),
  (60, .goto (-57), 3), (63, .iconst 1, 1), (64, .ireturn, 1)]
def cd_125 : List zSem := [sP (fCon 0), sP (fIst 4), sP (fIld 4), sP (fAld 1), sRI (gFI 192), sBr (c2 (zcI .ge)) 33,
  sP (fAld 0), sP (fIld 2), sP (fIld 4), sCI 193 2 none 2, sP (fIld 3), sP (fAld 0),
  sRI (gFI 131), sP (fAld 1), sRR (gFR 193), sP (fIld 4), sRI gAI, sP (fAld 1),
  sRR (gFR 194), sP (fIld 4), sRI gAI, sCI 47 6 (some 2) 7, sP (fIst 5), sP (fIld 5),
  sP (fAld 1), sRR (gFR 195), sP (fIld 4), sRI gAI, sBr (c2 (zcI .eq)) 31, sP (fCon 0),
  sRz, sP (fInc 4 1), sGo 2, sP (fCon 1), sRz]
set_option maxRecDepth 100000 in
theorem ck_125 : in_125.map (fun q => zsem zTb (zlk zPl_7) (ztg in_125 q.1) true q.2.1) = cd_125.map some := rfl
