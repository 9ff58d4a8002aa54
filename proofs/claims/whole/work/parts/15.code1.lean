/-- Suspects_suspectAt -/
def in_126 : List zIns := [(0, .iload_n 1, 1), (1, .ifCond .lt 20, 3), (4, .iload_n 1, 1), (5, .aload_n 0, 1), (6, .getfield 18, 3), (9, .if_icmp .ge 12, 3), (12, .aload_n 0, 1), (13, .getfield 9, 3),
  (16, .iload_n 1, 1), (17, .iaload, 1), (18, .goto 5, 3), (21, .bipush (-2), 2), (23, .ireturn, 1)]
def cd_126 : List zSem := [sP (fIld 1), sBr (c1 (zc0 .lt)) 11, sP (fIld 1), sP (fAld 0), sRI (gFI 448), sBr (c2 (zcI .ge)) 11,
  sP (fAld 0), sRR (gFR 449), sP (fIld 1), sRI gAI, sGo 12, sP (fCon (-2)),
  sRet rI]
set_option maxRecDepth 100000 in
theorem ck_126 : in_126.map (fun q => zsem zTb (zlk zPl_7) (ztg in_126 q.1) false q.2.1) = cd_126.map some := rfl
/-- Suspects_sureWet -/
def in_127 : List zIns := [(0, .iconst 1, 1), (1, .istore_n 1, 1), (2, .iload_n 1, 1), (3, .aload_n 0, 1), (4, .getfield 18, 3), (7, .if_icmp .ge 32, 3), (10, .aload_n 0, 1), (11, .getfield 9, 3),
  (14, .iload_n 1, 1), (15, .iaload, 1), (16, .bipush 8, 2), (18, .idiv, 1), (19, .aload_n 0, 1), (20, .getfield 9, 3), (23, .iconst 0, 1), (24, .iaload, 1),
  (25, .bipush 8, 2), (27, .idiv, 1), (28, .if_icmp .eq 5, 3), (31, .iconst (-1), 1), (32, .ireturn, 1), (33, .iinc 1 1, 3), (36, .goto (-34), 3), (39, .aload_n 0, 1),
  (40, .getfield 18, 3), (43, .ifCond .ne 7, 3), (46, .iconst (-1), 1), (47, .goto 12, 3), (50, .aload_n 0, 1), (51, .getfield 9, 3), (54, .iconst 0, 1), (55, .iaload, 1),
  (56, .bipush 8, 2), (58, .idiv, 1), (59, .ireturn, 1)]
def cd_127 : List zSem := [sP (fCon 1), sP (fIst 1), sP (fIld 1), sP (fAld 0), sRI (gFI 448), sBr (c2 (zcI .ge)) 23,
  sP (fAld 0), sRR (gFR 449), sP (fIld 1), sRI gAI, sP (fCon 8), sRI (gDiv (fun x y => x / y)),
  sP (fAld 0), sRR (gFR 449), sP (fCon 0), sRI gAI, sP (fCon 8), sRI (gDiv (fun x y => x / y)),
  sBr (c2 (zcI .eq)) 21, sP (fCon (-1)), sRet rI, sP (fInc 1 1), sGo 2, sP (fAld 0),
  sRI (gFI 448), sBr (c1 (zc0 .ne)) 28, sP (fCon (-1)), sGo 34, sP (fAld 0), sRR (gFR 449),
  sP (fCon 0), sRI gAI, sP (fCon 8), sRI (gDiv (fun x y => x / y)), sRet rI]
set_option maxRecDepth 100000 in
theorem ck_127 : in_127.map (fun q => zsem zTb (zlk zPl_7) (ztg in_127 q.1) false q.2.1) = cd_127.map some := rfl
/-- Suspects_sureKey -/
def in_128 : List zIns := [(0, .iconst 1, 1), (1, .istore_n 1, 1), (2, .iload_n 1, 1), (3, .aload_n 0, 1), (4, .getfield 18, 3), (7, .if_icmp .ge 32, 3), (10, .aload_n 0, 1), (11, .getfield 9, 3),
  (14, .iload_n 1, 1), (15, .iaload, 1), (16, .bipush 8, 2), (18, .irem, 1), (19, .aload_n 0, 1), (20, .getfield 9, 3), (23, .iconst 0, 1), (24, .iaload, 1),
  (25, .bipush 8, 2), (27, .irem, 1), (28, .if_icmp .eq 5, 3), (31, .iconst (-1), 1), (32, .ireturn, 1), (33, .iinc 1 1, 3), (36, .goto (-34), 3), (39, .aload_n 0, 1),
  (40, .getfield 18, 3), (43, .ifCond .ne 7, 3), (46, .iconst (-1), 1), (47, .goto 12, 3), (50, .aload_n 0, 1), (51, .getfield 9, 3), (54, .iconst 0, 1), (55, .iaload, 1),
  (56, .bipush 8, 2), (58, .irem, 1), (59, .ireturn, 1)]
def cd_128 : List zSem := [sP (fCon 1), sP (fIst 1), sP (fIld 1), sP (fAld 0), sRI (gFI 448), sBr (c2 (zcI .ge)) 23,
  sP (fAld 0), sRR (gFR 449), sP (fIld 1), sRI gAI, sP (fCon 8), sRI (gDiv zrem),
  sP (fAld 0), sRR (gFR 449), sP (fCon 0), sRI gAI, sP (fCon 8), sRI (gDiv zrem),
  sBr (c2 (zcI .eq)) 21, sP (fCon (-1)), sRet rI, sP (fInc 1 1), sGo 2, sP (fAld 0),
  sRI (gFI 448), sBr (c1 (zc0 .ne)) 28, sP (fCon (-1)), sGo 34, sP (fAld 0), sRR (gFR 449),
  sP (fCon 0), sRI gAI, sP (fCon 8), sRI (gDiv zrem), sRet rI]
set_option maxRecDepth 100000 in
theorem ck_128 : in_128.map (fun q => zsem zTb (zlk zPl_7) (ztg in_128 q.1) false q.2.1) = cd_128.map some := rfl
/-- Suspects_whose -/
def in_129 : List zIns := [(0, .iconst 0, 1), (1, .istore_n 3, 1), (2, .iconst 0, 1), (3, .istore 4, 2), (5, .iload 4, 2), (7, .aload_n 1, 1), (8, .getfield 51, 3), (11, .if_icmp .ge 38, 3),
  (14, .aload_n 1, 1), (15, .aload_n 2, 1), (16, .aload_n 1, 1), (17, .getfield 54, 3), (20, .iload 4, 2), (22, .iaload, 1), (23, .aload_n 1, 1), (24, .getfield 57, 3),
  (27, .iload 4, 2), (29, .iaload, 1), (30, .invokestatic 22, 3), (33, .ifCond .eq 10, 3), (36, .iload_n 3, 1), (37, .iconst 1, 1), (38, .iload 4, 2), (40, .ishl, 1),
  (41, .ior, 1), (42, .istore_n 3, 1), (43, .iinc 4 1, 3), (46, .goto (-41), 3), (49, .iload_n 3, 1), (50, .ireturn, 1)]
def cd_129 : List zSem := [sP (fCon 0), sP (fIst 3), sP (fCon 0), sP (fIst 4), sP (fIld 4), sP (fAld 1),
  sRI (gFI 128), sBr (c2 (zcI .ge)) 28, sP (fAld 1), sP (fAld 2), sP (fAld 1), sRR (gFR 132),
  sP (fIld 4), sRI gAI, sP (fAld 1), sRR (gFR 133), sP (fIld 4), sRI gAI,
  sCI 125 4 none 6, sBr (c1 (zc0 .eq)) 26, sP (fIld 3), sP (fCon 1), sP (fIld 4), sP (fII zshl),
  sP (fII (fun x y => x ||| y)), sP (fIst 3), sP (fInc 4 1), sGo 4, sP (fIld 3), sRet rI]
set_option maxRecDepth 100000 in
theorem ck_129 : in_129.map (fun q => zsem zTb (zlk zPl_7) (ztg in_129 q.1) false q.2.1) = cd_129.map some := rfl
/-- Suspects_nextToAsk -/
def in_130 : List zIns := [(0, .iconst (-1), 1), (1, .istore_n 3, 1), (2, .aload_n 0, 1), (3, .getfield 18, 3), (6, .iconst 1, 1), (7, .iadd, 1), (8, .istore 4, 2), (10, .iconst 0, 1),
  (11, .istore 5, 2), (13, .iload 5, 2), (15, .aload_n 1, 1), (16, .getfield 60, 3), (19, .if_icmp .ge 66, 3), (22, .aload_n 0, 1), (23, .getfield 18, 3), (26, .ifCond .le 59, 3),
  (29, .iconst 0, 1), (30, .istore 6, 2), (32, .iload 6, 2), (34, .aload_n 1, 1), (35, .getfield 63, 3), (38, .if_icmp .ge 41, 3), (41, .aload_n 0, 1), (42, .aload_n 1, 1),
  (43, .iload_n 2, 1), (44, .iload 5, 2), (46, .iload 6, 2), (48, .invokevirtual 66, 3), (51, .istore 7, 2), (53, .iload 7, 2), (55, .iload 4, 2), (57, .if_icmp .ge 16, 3),
  (60, .iload 7, 2), (62, .istore 4, 2), (64, .bipush 10, 2), (66, .iload 5, 2), (68, .imul, 1), (69, .iload 6, 2), (71, .iadd, 1), (72, .istore_n 3, 1),
  (73, .iinc 6 1, 3), (76, .goto (-44), 3), (79, .iinc 5 1, 3), (82, .goto (-69), 3), (85, .iload_n 3, 1), (86, .ireturn, 1)]
def cd_130 : List zSem := [sP (fCon (-1)), sP (fIst 3), sP (fAld 0), sRI (gFI 448), sP (fCon 1), sP (fII (fun x y => x + y)),
  sP (fIst 4), sP (fCon 0), sP (fIst 5), sP (fIld 5), sP (fAld 1), sRI (gFI 129),
  sBr (c2 (zcI .ge)) 44, sP (fAld 0), sRI (gFI 448), sBr (c1 (zc0 .le)) 44, sP (fCon 0), sP (fIst 6),
  sP (fIld 6), sP (fAld 1), sRI (gFI 130), sBr (c2 (zcI .ge)) 42, sP (fAld 0), sP (fAld 1),
  sP (fIld 2), sP (fIld 5), sP (fIld 6), sCI 132 5 (some 7) 9, sP (fIst 7), sP (fIld 7),
  sP (fIld 4), sBr (c2 (zcI .ge)) 40, sP (fIld 7), sP (fIst 4), sP (fCon 10), sP (fIld 5),
  sP (fII (fun x y => x * y)), sP (fIld 6), sP (fII (fun x y => x + y)), sP (fIst 3), sP (fInc 6 1), sGo 18,
  sP (fInc 5 1), sGo 9, sP (fIld 3), sRet rI]
set_option maxRecDepth 100000 in
theorem ck_130 : in_130.map (fun q => zsem zTb (zlk zPl_7) (ztg in_130 q.1) false q.2.1) = cd_130.map some := rfl
/-- Suspects_nextNote -/
def in_131 : List zIns := [(0, .iload_n 2, 1), (1, .bipush 8, 2), (3, .idiv, 1), (4, .iload_n 3, 1), (5, .invokestatic 29, 3), (8, .istore 6, 2), (10, .aload_n 1, 1), (11, .iload 6, 2),
  (13, .iload_n 2, 1), (14, .bipush 8, 2), (16, .irem, 1), (17, .aload_n 1, 1), (18, .getfield 33, 3), (21, .iload 4, 2), (23, .iload 5, 2), (25, .invokevirtual 44, 3),
  (28, .ireturn, 1)]
def cd_131 : List zSem := [sP (fIld 2), sP (fCon 8), sRI (gDiv (fun x y => x / y)), sP (fIld 3), sCI 193 2 none 2, sP (fIst 6),
  sP (fAld 1), sP (fIld 6), sP (fIld 2), sP (fCon 8), sRI (gDiv zrem), sP (fAld 1),
  sRI (gFI 131), sP (fIld 4), sP (fIld 5), sCI 47 6 (some 2) 7, sRet rI]
set_option maxRecDepth 100000 in
theorem ck_131 : in_131.map (fun q => zsem zTb (zlk zPl_7) (ztg in_131 q.1) false q.2.1) = cd_131.map some := rfl
/-- Suspects_greatestHeap -/
def in_132 : List zIns := [(0, .aload_n 0, 1), (1, .getfield 15, 3), (4, .iconst 0, 1), (5, .invokestatic 70, 3), (8, .iconst 0, 1), (9, .istore 5, 2), (11, .iconst 0, 1), (12, .istore 6, 2),
  (14, .iload 6, 2), (16, .aload_n 0, 1), (17, .getfield 18, 3), (20, .if_icmp .ge 67, 3), (23, .aload_n 0, 1), (24, .aload_n 1, 1), (25, .aload_n 0, 1), (26, .getfield 9, 3),
  (29, .iload 6, 2), (31, .iaload, 1), (32, .iload_n 2, 1), (33, .iload_n 3, 1), (34, .iload 4, 2), (36, .invokevirtual 76, 3), (39, .istore 7, 2), (41, .iload 7, 2),
  (43, .iconst (-1), 1), (44, .if_icmp .ne 8, 3), (47, .bipush 8, 2), (49, .goto 5, 3), (52, .iload 7, 2), (54, .istore 8, 2), (56, .aload_n 0, 1), (57, .getfield 15, 3),
  (60, .iload 8, 2), (62, .dup2, 1), (63, .iaload, 1), (64, .iconst 1, 1), (65, .iadd, 1), (66, .iastore, 1), (67, .iload 5, 2), (69, .aload_n 0, 1),
  (70, .getfield 15, 3), (73, .iload 8, 2), (75, .iaload, 1), (76, .invokestatic 80, 3), (79, .istore 5, 2), (81, .iinc 6 1, 3), (84, .goto (-70), 3), (87, .iload 5, 2),
  (89, .ireturn, 1)]
def cd_132 : List zSem := [sP (fAld 0), sRR (gFR 450), sP (fCon 0), sCV 324 2 none 4, sP (fCon 0), sP (fIst 5),
  sP (fCon 0), sP (fIst 6), sP (fIld 6), sP (fAld 0), sRI (gFI 448), sBr (c2 (zcI .ge)) 47,
  sP (fAld 0), sP (fAld 1), sP (fAld 0), sRR (gFR 449), sP (fIld 6), sRI gAI,
  sP (fIld 2), sP (fIld 3), sP (fIld 4), sCI 131 6 (some 7) 7, sP (fIst 7), sP (fIld 7),
  sP (fCon (-1)), sBr (c2 (zcI .ne)) 28, sP (fCon 8), sGo 29, sP (fIld 7), sP (fIst 8),
  sP (fAld 0), sRR (gFR 450), sP (fIld 8), sP fDup2, sRI gAI, sP (fCon 1),
  sP (fII (fun x y => x + y)), sWr wAI, sP (fIld 5), sP (fAld 0), sRR (gFR 450), sP (fIld 8),
  sRI gAI, sP (fMM zmax), sP (fIst 5), sP (fInc 6 1), sGo 8, sP (fIld 5),
  sRet rI]
set_option maxRecDepth 100000 in
theorem ck_132 : in_132.map (fun q => zsem zTb (zlk zPl_7) (ztg in_132 q.1) false q.2.1) = cd_132.map some := rfl
/-- Suspects_answering -/
def in_133 : List zIns := [(0, .iconst 0, 1), (1, .istore 6, 2), (3, .iconst 0, 1), (4, .istore 7, 2), (6, .iload 7, 2), (8, .aload_n 0, 1), (9, .getfield 18, 3), (12, .if_icmp .ge 37, 3),
  (15, .aload_n 1, 1), (16, .aload_n 0, 1), (17, .aload_n 1, 1), (18, .aload_n 0, 1), (19, .getfield 9, 3), (22, .iload 7, 2), (24, .iaload, 1), (25, .iload_n 2, 1),
  (26, .iload_n 3, 1), (27, .iload 4, 2), (29, .invokevirtual 76, 3), (32, .invokevirtual 85, 3), (35, .iload 5, 2), (37, .if_icmp .ne 6, 3), (40, .iinc 6 1, 3), (43, .iinc 7 1, 3),
  (46, .goto (-40), 3), (49, .iload 6, 2), (51, .ireturn, 1)]
def cd_133 : List zSem := [sP (fCon 0), sP (fIst 6), sP (fCon 0), sP (fIst 7), sP (fIld 7), sP (fAld 0),
  sRI (gFI 448), sBr (c2 (zcI .ge)) 25, sP (fAld 1), sP (fAld 0), sP (fAld 1), sP (fAld 0),
  sRR (gFR 449), sP (fIld 7), sRI gAI, sP (fIld 2), sP (fIld 3), sP (fIld 4),
  sCI 131 6 (some 7) 7, sCI 50 2 (some 2) 2, sP (fIld 5), sBr (c2 (zcI .ne)) 23, sP (fInc 6 1), sP (fInc 7 1),
  sGo 4, sP (fIld 6), sRet rI]
set_option maxRecDepth 100000 in
theorem ck_133 : in_133.map (fun q => zsem zTb (zlk zPl_7) (ztg in_133 q.1) false q.2.1) = cd_133.map some := rfl
/-- Tape_init -/
def in_134 : List zIns := [(0, .aload_n 0, 1), (1, .invokespecial 3, 3), (4, .aload_n 0, 1), (5, .sipush 600, 3), (8, .newarray .byte, 2), (10, .putfield 9, 3), (13, .return_, 1)]
def cd_134 : List zSem := [sP (fAld 0), sP fObj, sP (fAld 0), sP (fCon 600), sNA (znA 1), sWr (wFR 512),
  sRet rV]
set_option maxRecDepth 100000 in
theorem ck_134 : in_134.map (fun q => zsem zTb (zlk zPl_8) (ztg in_134 q.1) false q.2.1) = cd_134.map some := rfl
/-- Tape_append -/
def in_135 : List zIns := [(0, .bipush 24, 2), (2, .istore_n 2, 1), (3, .iload_n 2, 1), (4, .ifCond .lt 42, 3), (7, .aload_n 0, 1), (8, .getfield 15, 3), (11, .sipush 600, 3), (14, .if_icmp .ge 32, 3),
  (17, .aload_n 0, 1), (18, .getfield 9, 3), (21, .aload_n 0, 1), (22, .getfield 15, 3), (25, .iload_n 1, 1), (26, .iload_n 2, 1), (27, .iushr, 1), (28, .i2b, 1),
  (29, .bastore, 1), (30, .aload_n 0, 1), (31, .dup, 1), (32, .getfield 15, 3), (35, .iconst 1, 1), (36, .iadd, 1), (37, .putfield 15, 3), (40, .iinc 2 (-8), 3),
  (43, .goto (-40), 3), (46, .return_, 1)]
def cd_135 : List zSem := [sP (fCon 24), sP (fIst 2), sP (fIld 2), sBr (c1 (zc0 .lt)) 25, sP (fAld 0), sRI (gFI 513),
  sP (fCon 600), sBr (c2 (zcI .ge)) 25, sP (fAld 0), sRR (gFR 512), sP (fAld 0), sRI (gFI 513),
  sP (fIld 1), sP (fIld 2), sP (fII zushr), sP (fI1 zi2b), sWr wAB, sP (fAld 0),
  sP fDup, sRI (gFI 513), sP (fCon 1), sP (fII (fun x y => x + y)), sWr (wFI 513), sP (fInc 2 (-8)),
  sGo 2, sRet rV]
set_option maxRecDepth 100000 in
theorem ck_135 : in_135.map (fun q => zsem zTb (zlk zPl_8) (ztg in_135 q.1) false q.2.1) = cd_135.map some := rfl
/-- Tape_copy -/
def in_136 : List zIns := [(0, .aload_n 1, 1), (1, .getfield 9, 3), (4, .iconst 0, 1), (5, .aload_n 0, 1), (6, .getfield 9, 3), (9, .iconst 0, 1), (10, .aload_n 1, 1), (11, .getfield 15, 3),
  (14, .invokestatic 19, 3), (17, .aload_n 0, 1), (18, .aload_n 1, 1), (19, .getfield 15, 3), (22, .putfield 15, 3), (25, .return_, 1)]
def cd_136 : List zSem := [sP (fAld 1), sRR (gFR 512), sP (fCon 0), sP (fAld 0), sRR (gFR 512), sP (fCon 0),
  sP (fAld 1), sRI (gFI 513), sWr wCp, sP (fAld 0), sP (fAld 1), sRI (gFI 513),
  sWr (wFI 513), sRet rV]
set_option maxRecDepth 100000 in
theorem ck_136 : in_136.map (fun q => zsem zTb (zlk zPl_8) (ztg in_136 q.1) false q.2.1) = cd_136.map some := rfl
/-- Told_init -/
def in_137 : List zIns := [(0, .aload_n 0, 1), (1, .invokespecial 3, 3), (4, .aload_n 0, 1), (5, .new 9, 3), (8, .dup, 1), (9, .invokespecial 11, 3), (12, .putfield 12, 3), (15, .aload_n 0, 1),
  (16, .iconst 3, 1), (17, .newarray .int, 2), (19, .putfield 18, 3), (22, .aload_n 0, 1), (23, .iconst 2, 1), (24, .anewarray 22, 3), (27, .putfield 24, 3), (30, .aload_n 0, 1),
  (31, .iconst 2, 1), (32, .anewarray 28, 3), (35, .putfield 30, 3), (38, .aload_n 0, 1), (39, .iconst 2, 1), (40, .anewarray 34, 3), (43, .putfield 36, 3), (46, .iconst 0, 1),
  (47, .istore_n 1, 1), (48, .iload_n 1, 1), (49, .iconst 2, 1), (50, .if_icmp .ge 48, 3), (53, .aload_n 0, 1), (54, .getfield 24, 3), (57, .iload_n 1, 1), (58, .new 22, 3),
  (61, .dup, 1), (62, .invokespecial 40, 3), (65, .aastore, 1), (66, .aload_n 0, 1), (67, .getfield 30, 3), (70, .iload_n 1, 1), (71, .new 28, 3), (74, .dup, 1),
  (75, .invokespecial 41, 3), (78, .aastore, 1), (79, .aload_n 0, 1), (80, .getfield 36, 3), (83, .iload_n 1, 1), (84, .new 34, 3), (87, .dup, 1), (88, .invokespecial 42, 3),
  (91, .aastore, 1), (92, .iinc 1 1, 3), (95, .goto (-47), 3), (98, .aload_n 0, 1), (99, .iconst 0, 1), (100, .putfield 43, 3), (103, .aload_n 0, 1), (104, .iconst (-1), 1),
  (105, .putfield 47, 3), (108, .return_, 1)]
def cd_137 : List zSem := [sP (fAld 0), sP fObj, sP (fAld 0), sNw (nO zTb 8), sP fDup, sCV 134 1 (some 8) 1,
  sWr (wFR 576), sP (fAld 0), sP (fCon 3), sNA (znA 0), sWr (wFR 577), sP (fAld 0),
  sP (fCon 2), sNA (znQ 2), sWr (wFR 578), sP (fAld 0), sP (fCon 2), sNA (znQ 10),
  sWr (wFR 579), sP (fAld 0), sP (fCon 2), sNA (znQ 3), sWr (wFR 580), sP (fCon 0),
  sP (fIst 1), sP (fIld 1), sP (fCon 2), sBr (c2 (zcI .ge)) 51, sP (fAld 0), sRR (gFR 578),
  sP (fIld 1), sNw (nO zTb 2), sP fDup, sCV 33 1 (some 2) 1, sWr wAR, sP (fAld 0),
  sRR (gFR 579), sP (fIld 1), sNw (nO zTb 10), sP fDup, sCV 144 1 (some 10) 1, sWr wAR,
  sP (fAld 0), sRR (gFR 580), sP (fIld 1), sNw (nO zTb 3), sP fDup, sCV 52 1 (some 3) 1,
  sWr wAR, sP (fInc 1 1), sGo 25, sP (fAld 0), sP (fCon 0), sWr (wFI 581),
  sP (fAld 0), sP (fCon (-1)), sWr (wFI 582), sRet rV]
set_option maxRecDepth 100000 in
theorem ck_137 : in_137.map (fun q => zsem zTb (zlk zPl_9) (ztg in_137 q.1) false q.2.1) = cd_137.map some := rfl
/-- Told_copy -/
def in_138 : List zIns := [(0, .aload_n 0, 1), (1, .getfield 12, 3), (4, .aload_n 1, 1), (5, .getfield 12, 3), (8, .invokevirtual 50, 3), (11, .iconst 0, 1), (12, .istore_n 2, 1), (13, .iload_n 2, 1),
  (14, .iconst 2, 1), (15, .if_icmp .ge 54, 3), (18, .aload_n 0, 1), (19, .getfield 24, 3), (22, .iload_n 2, 1), (23, .aaload, 1), (24, .aload_n 1, 1), (25, .getfield 24, 3),
  (28, .iload_n 2, 1), (29, .aaload, 1), (30, .invokevirtual 54, 3), (33, .aload_n 0, 1), (34, .getfield 30, 3), (37, .iload_n 2, 1), (38, .aaload, 1), (39, .aload_n 1, 1),
  (40, .getfield 30, 3), (43, .iload_n 2, 1), (44, .aaload, 1), (45, .invokevirtual 57, 3), (48, .aload_n 0, 1), (49, .getfield 36, 3), (52, .iload_n 2, 1), (53, .aaload, 1),
  (54, .aload_n 1, 1), (55, .getfield 36, 3), (58, .iload_n 2, 1), (59, .aaload, 1), (60, .invokevirtual 60, 3), (63, .iinc 2 1, 3), (66, .goto (-53), 3), (69, .aload_n 1, 1),
  (70, .getfield 18, 3), (73, .iconst 0, 1), (74, .aload_n 0, 1), (75, .getfield 18, 3), (78, .iconst 0, 1), (79, .iconst 3, 1), (80, .invokestatic 63, 3), (83, .aload_n 0, 1),
  (84, .aload_n 1, 1), (85, .getfield 43, 3), (88, .putfield 43, 3), (91, .aload_n 0, 1), (92, .aload_n 1, 1), (93, .getfield 47, 3), (96, .putfield 47, 3), (99, .return_, 1)]
def cd_138 : List zSem := [sP (fAld 0), sRR (gFR 576), sP (fAld 1), sRR (gFR 576), sCV 136 2 (some 8) 2, sP (fCon 0),
  sP (fIst 2), sP (fIld 2), sP (fCon 2), sBr (c2 (zcI .ge)) 39, sP (fAld 0), sRR (gFR 578),
  sP (fIld 2), sRR gAR, sP (fAld 1), sRR (gFR 578), sP (fIld 2), sRR gAR,
  sCV 35 2 (some 2) 2, sP (fAld 0), sRR (gFR 579), sP (fIld 2), sRR gAR, sP (fAld 1),
  sRR (gFR 579), sP (fIld 2), sRR gAR, sCV 145 2 (some 10) 2, sP (fAld 0), sRR (gFR 580),
  sP (fIld 2), sRR gAR, sP (fAld 1), sRR (gFR 580), sP (fIld 2), sRR gAR,
  sCV 53 2 (some 3) 2, sP (fInc 2 1), sGo 7, sP (fAld 1), sRR (gFR 577), sP (fCon 0),
  sP (fAld 0), sRR (gFR 577), sP (fCon 0), sP (fCon 3), sWr wCp, sP (fAld 0),
  sP (fAld 1), sRI (gFI 581), sWr (wFI 581), sP (fAld 0), sP (fAld 1), sRI (gFI 582),
  sWr (wFI 582), sRet rV]
set_option maxRecDepth 100000 in
theorem ck_138 : in_138.map (fun q => zsem zTb (zlk zPl_9) (ztg in_138 q.1) false q.2.1) = cd_138.map some := rfl
/-- Told_endTape -/
def in_139 : List zIns := [(0, .aload_n 0, 1), (1, .getfield 12, 3), (4, .iconst 0, 1), (5, .putfield 69, 3), (8, .aload_n 0, 1), (9, .iload_n 1, 1), (10, .putfield 43, 3), (13, .aload_n 0, 1),
  (14, .iload_n 2, 1), (15, .putfield 47, 3), (18, .return_, 1)]
def cd_139 : List zSem := [sP (fAld 0), sRR (gFR 576), sP (fCon 0), sWr (wFI 513), sP (fAld 0), sP (fIld 1),
  sWr (wFI 581), sP (fAld 0), sP (fIld 2), sWr (wFI 582), sRet rV]
set_option maxRecDepth 100000 in
theorem ck_139 : in_139.map (fun q => zsem zTb (zlk zPl_9) (ztg in_139 q.1) false q.2.1) = cd_139.map some := rfl
/-- Told_put -/
def in_140 : List zIns := [(0, .iload_n 2, 1), (1, .ifCond .lt 8, 3), (4, .iload_n 2, 1), (5, .iconst 2, 1), (6, .if_icmp .lt 4, 3), (9, .return_, 1), (10, .iload_n 1, 1), (11, .tableswitch 73 0 2 #[25, 41, 57], 25),
  (36, .aload_n 0, 1), (37, .getfield 24, 3), (40, .iload_n 2, 1), (41, .aaload, 1), (42, .aload_n 3, 1), (43, .getfield 72, 3), (46, .invokevirtual 54, 3), (49, .goto 36, 3),
  (52, .aload_n 0, 1), (53, .getfield 30, 3), (56, .iload_n 2, 1), (57, .aaload, 1), (58, .aload_n 3, 1), (59, .getfield 78, 3), (62, .invokevirtual 57, 3), (65, .goto 20, 3),
  (68, .aload_n 0, 1), (69, .getfield 36, 3), (72, .iload_n 2, 1), (73, .aaload, 1), (74, .aload_n 3, 1), (75, .getfield 82, 3), (78, .invokevirtual 60, 3), (81, .goto 4, 3),
  (84, .return_, 1), (85, .aload_n 0, 1), (86, .getfield 18, 3), (89, .iload_n 1, 1), (90, .aload_n 0, 1), (91, .getfield 18, 3), (94, .iload_n 1, 1), (95, .iaload, 1),
  (96, .iload_n 2, 1), (97, .iconst 1, 1), (98, .iadd, 1), (99, .invokestatic 86, 3), (102, .iastore, 1), (103, .return_, 1)]
def cd_140 : List zSem := [sP (fIld 2), sBr (c1 (zc0 .lt)) 5, sP (fIld 2), sP (fCon 2), sBr (c2 (zcI .lt)) 6, sRet rV,
  sP (fIld 1), sSw [(0, 8), (1, 16), (2, 24)] 32, sP (fAld 0), sRR (gFR 578), sP (fIld 2), sRR gAR,
  sP (fAld 3), sRR (gFR 320), sCV 35 2 (some 2) 2, sGo 33, sP (fAld 0), sRR (gFR 579),
  sP (fIld 2), sRR gAR, sP (fAld 3), sRR (gFR 321), sCV 145 2 (some 10) 2, sGo 33,
  sP (fAld 0), sRR (gFR 580), sP (fIld 2), sRR gAR, sP (fAld 3), sRR (gFR 322),
  sCV 53 2 (some 3) 2, sGo 33, sRet rV, sP (fAld 0), sRR (gFR 577), sP (fIld 1),
  sP (fAld 0), sRR (gFR 577), sP (fIld 1), sRI gAI, sP (fIld 2), sP (fCon 1),
  sP (fII (fun x y => x + y)), sP (fMM zmax), sWr wAI, sRet rV]
set_option maxRecDepth 100000 in
theorem ck_140 : in_140.map (fun q => zsem zTb (zlk zPl_9) (ztg in_140 q.1) false q.2.1) = cd_140.map some := rfl
/-- Told_duchyAt -/
def in_141 : List zIns := [(0, .iload_n 1, 1), (1, .ifCond .lt 22, 3), (4, .iload_n 1, 1), (5, .aload_n 0, 1), (6, .getfield 18, 3), (9, .iconst 0, 1), (10, .iaload, 1), (11, .if_icmp .ge 12, 3),
  (14, .aload_n 0, 1), (15, .getfield 24, 3), (18, .iload_n 1, 1), (19, .aaload, 1), (20, .goto 4, 3), (23, .aconst_null, 1), (24, .areturn, 1)]
def cd_141 : List zSem := [sP (fIld 1), sBr (c1 (zc0 .lt)) 13, sP (fIld 1), sP (fAld 0), sRR (gFR 577), sP (fCon 0),
  sRI gAI, sBr (c2 (zcI .ge)) 13, sP (fAld 0), sRR (gFR 578), sP (fIld 1), sRR gAR,
  sGo 14, sP (fRef none), sRet rR]
set_option maxRecDepth 100000 in
theorem ck_141 : in_141.map (fun q => zsem zTb (zlk zPl_9) (ztg in_141 q.1) false q.2.1) = cd_141.map some := rfl
/-- Told_yearAt -/
def in_142 : List zIns := [(0, .iload_n 1, 1), (1, .ifCond .lt 22, 3), (4, .iload_n 1, 1), (5, .aload_n 0, 1), (6, .getfield 18, 3), (9, .iconst 1, 1), (10, .iaload, 1), (11, .if_icmp .ge 12, 3),
  (14, .aload_n 0, 1), (15, .getfield 30, 3), (18, .iload_n 1, 1), (19, .aaload, 1), (20, .goto 4, 3), (23, .aconst_null, 1), (24, .areturn, 1)]
def cd_142 : List zSem := [sP (fIld 1), sBr (c1 (zc0 .lt)) 13, sP (fIld 1), sP (fAld 0), sRR (gFR 577), sP (fCon 1),
  sRI gAI, sBr (c2 (zcI .ge)) 13, sP (fAld 0), sRR (gFR 579), sP (fIld 1), sRR gAR,
  sGo 14, sP (fRef none), sRet rR]
set_option maxRecDepth 100000 in
theorem ck_142 : in_142.map (fun q => zsem zTb (zlk zPl_9) (ztg in_142 q.1) false q.2.1) = cd_142.map some := rfl
/-- Told_logAt -/
def in_143 : List zIns := [(0, .iload_n 1, 1), (1, .ifCond .lt 22, 3), (4, .iload_n 1, 1), (5, .aload_n 0, 1), (6, .getfield 18, 3), (9, .iconst 2, 1), (10, .iaload, 1), (11, .if_icmp .ge 12, 3),
  (14, .aload_n 0, 1), (15, .getfield 36, 3), (18, .iload_n 1, 1), (19, .aaload, 1), (20, .goto 4, 3), (23, .aconst_null, 1), (24, .areturn, 1)]
def cd_143 : List zSem := [sP (fIld 1), sBr (c1 (zc0 .lt)) 13, sP (fIld 1), sP (fAld 0), sRR (gFR 577), sP (fCon 2),
  sRI gAI, sBr (c2 (zcI .ge)) 13, sP (fAld 0), sRR (gFR 580), sP (fIld 1), sRR gAR,
  sGo 14, sP (fRef none), sRet rR]
set_option maxRecDepth 100000 in
theorem ck_143 : in_143.map (fun q => zsem zTb (zlk zPl_9) (ztg in_143 q.1) false q.2.1) = cd_143.map some := rfl
/-- Year_init -/
def in_144 : List zIns := [(0, .aload_n 0, 1), (1, .invokespecial 3, 3), (4, .aload_n 0, 1), (5, .sipush 240, 3), (8, .newarray .int, 2), (10, .putfield 11, 3), (13, .return_, 1)]
def cd_144 : List zSem := [sP (fAld 0), sP fObj, sP (fAld 0), sP (fCon 240), sNA (znA 0), sWr (wFR 641),
  sRet rV]
set_option maxRecDepth 100000 in
theorem ck_144 : in_144.map (fun q => zsem zTb (zlk zPl_10) (ztg in_144 q.1) false q.2.1) = cd_144.map some := rfl
/-- Year_copy -/
def in_145 : List zIns := [(0, .aload_n 1, 1), (1, .getfield 11, 3), (4, .iconst 0, 1), (5, .aload_n 0, 1), (6, .getfield 11, 3), (9, .iconst 0, 1), (10, .aload_n 1, 1), (11, .getfield 15, 3),
  (14, .bipush 6, 2), (16, .imul, 1), (17, .invokestatic 19, 3), (20, .aload_n 0, 1), (21, .aload_n 1, 1), (22, .getfield 15, 3), (25, .putfield 15, 3), (28, .return_, 1)]
def cd_145 : List zSem := [sP (fAld 1), sRR (gFR 641), sP (fCon 0), sP (fAld 0), sRR (gFR 641), sP (fCon 0),
  sP (fAld 1), sRI (gFI 640), sP (fCon 6), sP (fII (fun x y => x * y)), sWr wCp, sP (fAld 0),
  sP (fAld 1), sRI (gFI 640), sWr (wFI 640), sRet rV]
set_option maxRecDepth 100000 in
theorem ck_145 : in_145.map (fun q => zsem zTb (zlk zPl_10) (ztg in_145 q.1) false q.2.1) = cd_145.map some := rfl
/-- Year_add -/
def in_146 : List zIns := [(0, .aload_n 0, 1), (1, .getfield 15, 3), (4, .bipush 40, 2), (6, .if_icmp .ge 78, 3), (9, .aload_n 0, 1), (10, .getfield 15, 3), (13, .bipush 6, 2), (15, .imul, 1),
  (16, .istore 4, 2), (18, .aload_n 0, 1), (19, .getfield 11, 3), (22, .iload 4, 2), (24, .iload_n 1, 1), (25, .iastore, 1), (26, .iconst 0, 1), (27, .istore 5, 2),
  (29, .iload 5, 2), (31, .iconst 5, 1), (32, .if_icmp .ge 42, 3), (35, .aload_n 0, 1), (36, .getfield 11, 3), (39, .iload 4, 2), (41, .iconst 1, 1), (42, .iadd, 1),
  (43, .iload 5, 2), (45, .iadd, 1), (46, .iload 5, 2), (48, .iload_n 3, 1), (49, .if_icmp .ge 17, 3), (52, .iload 5, 2), (54, .aload_n 2, 1), (55, .arraylength, 1),
  (56, .if_icmp .ge 10, 3), (59, .aload_n 2, 1), (60, .iload 5, 2), (62, .iaload, 1), (63, .goto 4, 3), (66, .iconst (-1), 1), (67, .iastore, 1), (68, .iinc 5 1, 3),
  (71, .goto (-42), 3), (74, .aload_n 0, 1), (75, .dup, 1), (76, .getfield 15, 3), (79, .iconst 1, 1), (80, .iadd, 1), (81, .putfield 15, 3), (84, .return_, 1)]
def cd_146 : List zSem := [sP (fAld 0), sRI (gFI 640), sP (fCon 40), sBr (c2 (zcI .ge)) 47, sP (fAld 0), sRI (gFI 640),
  sP (fCon 6), sP (fII (fun x y => x * y)), sP (fIst 4), sP (fAld 0), sRR (gFR 641), sP (fIld 4),
  sP (fIld 1), sWr wAI, sP (fCon 0), sP (fIst 5), sP (fIld 5), sP (fCon 5),
  sBr (c2 (zcI .ge)) 41, sP (fAld 0), sRR (gFR 641), sP (fIld 4), sP (fCon 1), sP (fII (fun x y => x + y)),
  sP (fIld 5), sP (fII (fun x y => x + y)), sP (fIld 5), sP (fIld 3), sBr (c2 (zcI .ge)) 37, sP (fIld 5),
  sP (fAld 2), sRI gAN, sBr (c2 (zcI .ge)) 37, sP (fAld 2), sP (fIld 5), sRI gAI,
  sGo 38, sP (fCon (-1)), sWr wAI, sP (fInc 5 1), sGo 16, sP (fAld 0),
  sP fDup, sRI (gFI 640), sP (fCon 1), sP (fII (fun x y => x + y)), sWr (wFI 640), sRet rV]
set_option maxRecDepth 100000 in
theorem ck_146 : in_146.map (fun q => zsem zTb (zlk zPl_10) (ztg in_146 q.1) false q.2.1) = cd_146.map some := rfl
/-- Year_cell -/
def in_147 : List zIns := [(0, .aload_n 0, 1), (1, .getfield 11, 3), (4, .iload_n 1, 1), (5, .bipush 6, 2), (7, .imul, 1), (8, .iload_n 2, 1), (9, .iadd, 1), (10, .iaload, 1),
  (11, .ireturn, 1)]
def cd_147 : List zSem := [sP (fAld 0), sRR (gFR 641), sP (fIld 1), sP (fCon 6), sP (fII (fun x y => x * y)), sP (fIld 2),
  sP (fII (fun x y => x + y)), sRI gAI, sRet rI]
set_option maxRecDepth 100000 in
theorem ck_147 : in_147.map (fun q => zsem zTb (zlk zPl_10) (ztg in_147 q.1) false q.2.1) = cd_147.map some := rfl
/-- Year_detail -/
def in_148 : List zIns := [(0, .iload_n 1, 1), (1, .iconst (-1), 1), (2, .if_icmp .ne 12, 3), (5, .iload_n 2, 1), (6, .ifCond .ne 8, 3), (9, .aload_n 0, 1), (10, .getfield 15, 3), (13, .ireturn, 1),
  (14, .iload_n 1, 1), (15, .ifCond .lt 21, 3), (18, .iload_n 1, 1), (19, .aload_n 0, 1), (20, .getfield 15, 3), (23, .if_icmp .ge 13, 3), (26, .iload_n 2, 1), (27, .ifCond .lt 9, 3),
  (30, .iload_n 2, 1), (31, .bipush 6, 2), (33, .if_icmp .lt 6, 3), (36, .bipush (-2), 2), (38, .ireturn, 1), (39, .aload_n 0, 1), (40, .iload_n 1, 1), (41, .iload_n 2, 1),
  (42, .invokevirtual 25, 3), (45, .ireturn, 1)]
def cd_148 : List zSem := [sP (fIld 1), sP (fCon (-1)), sBr (c2 (zcI .ne)) 8, sP (fIld 2), sBr (c1 (zc0 .ne)) 8, sP (fAld 0),
  sRI (gFI 640), sRet rI, sP (fIld 1), sBr (c1 (zc0 .lt)) 19, sP (fIld 1), sP (fAld 0),
  sRI (gFI 640), sBr (c2 (zcI .ge)) 19, sP (fIld 2), sBr (c1 (zc0 .lt)) 19, sP (fIld 2), sP (fCon 6),
  sBr (c2 (zcI .lt)) 21, sP (fCon (-2)), sRet rI, sP (fAld 0), sP (fIld 1), sP (fIld 2),
  sCI 147 3 (some 10) 3, sRet rI]
set_option maxRecDepth 100000 in
theorem ck_148 : in_148.map (fun q => zsem zTb (zlk zPl_10) (ztg in_148 q.1) false q.2.1) = cd_148.map some := rfl
/-- Main_init -/
def in_149 : List zIns := [(0, .aload_n 0, 1), (1, .invokespecial 1, 3), (4, .aload_n 0, 1), (5, .new 7, 3), (8, .dup, 1), (9, .invokespecial 9, 3), (12, .putfield 10, 3), (15, .aload_n 0, 1),
  (16, .iconst 3, 1), (17, .anewarray 7, 3), (20, .putfield 16, 3), (23, .aload_n 0, 1), (24, .new 20, 3), (27, .dup, 1), (28, .aload_n 0, 1), (29, .getfield 10, 3),
  (32, .getfield 22, 3), (35, .invokespecial 26, 3), (38, .putfield 29, 3), (41, .aload_n 0, 1), (42, .new 33, 3), (45, .dup, 1), (46, .invokespecial 35, 3), (49, .putfield 36, 3),
  (52, .aload_n 0, 1), (53, .new 40, 3), (56, .dup, 1), (57, .invokespecial 42, 3), (60, .putfield 43, 3), (63, .aload_n 0, 1), (64, .new 47, 3), (67, .dup, 1),
  (68, .invokespecial 49, 3), (71, .putfield 50, 3), (74, .aload_n 0, 1), (75, .new 54, 3), (78, .dup, 1), (79, .invokespecial 56, 3), (82, .putfield 57, 3), (85, .aload_n 0, 1),
  (86, .new 61, 3), (89, .dup, 1), (90, .invokespecial 63, 3), (93, .putfield 64, 3), (96, .return_, 1)]
def cd_149 : List zSem := [sP (fAld 0), sP fObj, sP (fAld 0), sNw (nO zTb 9), sP fDup, sCV 137 1 (some 9) 2,
  sWr (wFR 704), sP (fAld 0), sP (fCon 3), sNA (znQ 9), sWr (wFR 705), sP (fAld 0),
  sNw (nO zTb 5), sP fDup, sP (fAld 0), sRR (gFR 704), sRR (gFR 576), sCV 74 2 (some 5) 2,
  sWr (wFR 706), sP (fAld 0), sNw (nO zTb 1), sP fDup, sCV 11 1 (some 1) 1, sWr (wFR 707),
  sP (fAld 0), sNw (nO zTb 0), sP fDup, sCV 0 1 (some 0) 1, sWr (wFR 708), sP (fAld 0),
  sNw (nO zTb 4), sP fDup, sCV 56 1 (some 4) 1, sWr (wFR 709), sP (fAld 0), sNw (nO zTb 7),
  sP fDup, sCV 123 1 (some 7) 1, sWr (wFR 710), sP (fAld 0), sNw (nO zTb 6), sP fDup,
  sCV 92 1 (some 6) 1, sWr (wFR 711), sRet rV]
set_option maxRecDepth 100000 in
theorem ck_149 : in_149.map (fun q => zsem zTb (zlk zPl_11) (ztg in_149 q.1) false q.2.1) = cd_149.map some := rfl
/-- Main_feed -/
def in_150 : List zIns := [(0, .aload_n 0, 1), (1, .getfield 10, 3), (4, .getfield 22, 3), (7, .astore 6, 2), (9, .aload 6, 2), (11, .getfield 68, 3), (14, .sipush 580, 3), (17, .if_icmp .le 5, 3),
  (20, .iconst (-1), 1), (21, .ireturn, 1), (22, .aload 6, 2), (24, .iload_n 1, 1), (25, .invokevirtual 74, 3), (28, .aload 6, 2), (30, .iload_n 2, 1), (31, .invokevirtual 74, 3),
  (34, .aload 6, 2), (36, .iload_n 3, 1), (37, .invokevirtual 74, 3), (40, .aload 6, 2), (42, .iload 4, 2), (44, .invokevirtual 74, 3), (47, .aload 6, 2), (49, .iload 5, 2),
  (51, .invokevirtual 74, 3), (54, .aload 6, 2), (56, .getfield 68, 3), (59, .ireturn, 1)]
def cd_150 : List zSem := [sP (fAld 0), sRR (gFR 704), sRR (gFR 576), sP (fAst 6), sP (fAld 6), sRI (gFI 513),
  sP (fCon 580), sBr (c2 (zcI .le)) 10, sP (fCon (-1)), sRet rI, sP (fAld 6), sP (fIld 1),
  sCV 135 2 (some 8) 3, sP (fAld 6), sP (fIld 2), sCV 135 2 (some 8) 3, sP (fAld 6), sP (fIld 3),
  sCV 135 2 (some 8) 3, sP (fAld 6), sP (fIld 4), sCV 135 2 (some 8) 3, sP (fAld 6), sP (fIld 5),
  sCV 135 2 (some 8) 3, sP (fAld 6), sRI (gFI 513), sRet rI]
set_option maxRecDepth 100000 in
theorem ck_150 : in_150.map (fun q => zsem zTb (zlk zPl_11) (ztg in_150 q.1) false q.2.1) = cd_150.map some := rfl
/-- Main_end -/
def in_151 : List zIns := [(0, .iload_n 1, 1), (1, .ifCond .lt 17, 3), (4, .iload_n 1, 1), (5, .aload_n 0, 1), (6, .getfield 10, 3), (9, .getfield 22, 3), (12, .getfield 68, 3), (15, .if_icmp .le 5, 3),
  (18, .iconst (-1), 1), (19, .ireturn, 1), (20, .aload_n 0, 1), (21, .getfield 10, 3), (24, .getfield 22, 3), (27, .iload_n 1, 1), (28, .putfield 68, 3), (31, .iload_n 1, 1),
  (32, .ireturn, 1)]
def cd_151 : List zSem := [sP (fIld 1), sBr (c1 (zc0 .lt)) 8, sP (fIld 1), sP (fAld 0), sRR (gFR 704), sRR (gFR 576),
  sRI (gFI 513), sBr (c2 (zcI .le)) 10, sP (fCon (-1)), sRet rI, sP (fAld 0), sRR (gFR 704),
  sRR (gFR 576), sP (fIld 1), sWr (wFI 513), sP (fIld 1), sRet rI]
set_option maxRecDepth 100000 in
theorem ck_151 : in_151.map (fun q => zsem zTb (zlk zPl_11) (ztg in_151 q.1) false q.2.1) = cd_151.map some := rfl
/-- Main_text -/
def in_152 : List zIns := [(0, .aload_n 0, 1), (1, .iload_n 1, 1), (2, .iload_n 2, 1), (3, .invokevirtual 78, 3), (6, .istore_n 3, 1), (7, .iload_n 3, 1), (8, .bipush (-2), 2), (10, .if_icmp .ne 15, 3),
  (13, .aload_n 0, 1), (14, .getfield 10, 3), (17, .iconst 0, 1), (18, .iconst (-1), 1), (19, .invokevirtual 82, 3), (22, .bipush (-2), 2), (24, .ireturn, 1), (25, .aload_n 0, 1),
  (26, .getfield 29, 3), (29, .iload_n 1, 1), (30, .invokevirtual 86, 3), (33, .aload_n 0, 1), (34, .getfield 10, 3), (37, .aload_n 0, 1), (38, .getfield 29, 3), (41, .getfield 89, 3),
  (44, .aload_n 0, 1), (45, .getfield 29, 3), (48, .getfield 92, 3), (51, .invokevirtual 82, 3), (54, .aload_n 0, 1), (55, .getfield 29, 3), (58, .getfield 89, 3), (61, .ifCond .eq 5, 3),
  (64, .iconst (-1), 1), (65, .ireturn, 1), (66, .aload_n 0, 1), (67, .getfield 10, 3), (70, .iload_n 1, 1), (71, .iload_n 3, 1), (72, .aload_n 0, 1), (73, .getfield 29, 3),
  (76, .invokevirtual 95, 3), (79, .iload_n 3, 1), (80, .ireturn, 1)]
def cd_152 : List zSem := [sP (fAld 0), sP (fIld 1), sP (fIld 2), sCI 189 3 (some 11) 5, sP (fIst 3), sP (fIld 3),
  sP (fCon (-2)), sBr (c2 (zcI .ne)) 15, sP (fAld 0), sRR (gFR 704), sP (fCon 0), sP (fCon (-1)),
  sCV 139 3 (some 9) 3, sP (fCon (-2)), sRet rI, sP (fAld 0), sRR (gFR 706), sP (fIld 1),
  sCV 75 2 (some 5) 3, sP (fAld 0), sRR (gFR 704), sP (fAld 0), sRR (gFR 706), sRI (gFI 323),
  sP (fAld 0), sRR (gFR 706), sRI (gFI 324), sCV 139 3 (some 9) 3, sP (fAld 0), sRR (gFR 706),
  sRI (gFI 323), sBr (c1 (zc0 .eq)) 34, sP (fCon (-1)), sRet rI, sP (fAld 0), sRR (gFR 704),
  sP (fIld 1), sP (fIld 3), sP (fAld 0), sRR (gFR 706), sCV 140 4 (some 9) 4, sP (fIld 3),
  sRet rI]
set_option maxRecDepth 100000 in
theorem ck_152 : in_152.map (fun q => zsem zTb (zlk zPl_11) (ztg in_152 q.1) false q.2.1) = cd_152.map some := rfl
/-- Main_fault -/
def in_153 : List zIns := [(0, .iload_n 1, 1), (1, .lookupswitch 43 #[(0, 27), (1, 35)], 27), (28, .aload_n 0, 1), (29, .getfield 10, 3), (32, .getfield 99, 3), (35, .ireturn, 1), (36, .aload_n 0, 1), (37, .getfield 10, 3),
  (40, .getfield 100, 3), (43, .ireturn, 1), (44, .iconst (-1), 1), (45, .ireturn, 1)]
def cd_153 : List zSem := [sP (fIld 1), sSw [(0, 2), (1, 6)] 10, sP (fAld 0), sRR (gFR 704), sRI (gFI 581), sRet rI,
  sP (fAld 0), sRR (gFR 704), sRI (gFI 582), sRet rI, sP (fCon (-1)), sRet rI]
set_option maxRecDepth 100000 in
theorem ck_153 : in_153.map (fun q => zsem zTb (zlk zPl_11) (ztg in_153 q.1) false q.2.1) = cd_153.map some := rfl
/-- Main_duchy -/
def in_154 : List zIns := [(0, .aload_n 0, 1), (1, .getfield 10, 3), (4, .iload_n 1, 1), (5, .invokevirtual 101, 3), (8, .astore_n 3, 1), (9, .aload_n 3, 1), (10, .ifnonnull 7, 3), (13, .iconst (-1), 1),
  (14, .goto 8, 3), (17, .aload_n 3, 1), (18, .iload_n 2, 1), (19, .invokevirtual 105, 3), (22, .ireturn, 1)]
def cd_154 : List zSem := [sP (fAld 0), sRR (gFR 704), sP (fIld 1), sCR 141 2 (some 9) 2, sP (fAst 3), sP (fAld 3),
  sBr (cN (fun r => r.isSome)) 9, sP (fCon (-1)), sGo 12, sP (fAld 3), sP (fIld 2), sCI 44 2 (some 2) 3,
  sRet rI]
set_option maxRecDepth 100000 in
theorem ck_154 : in_154.map (fun q => zsem zTb (zlk zPl_11) (ztg in_154 q.1) false q.2.1) = cd_154.map some := rfl
/-- Main_note -/
def in_155 : List zIns := [(0, .aload_n 0, 1), (1, .getfield 10, 3), (4, .iload_n 1, 1), (5, .invokevirtual 101, 3), (8, .astore 6, 2), (10, .aload 6, 2), (12, .ifnull 15, 3), (15, .aload 6, 2),
  (17, .iload_n 2, 1), (18, .iload_n 3, 1), (19, .iload 4, 2), (21, .invokevirtual 111, 3), (24, .ifCond .ne 6, 3), (27, .bipush (-2), 2), (29, .ireturn, 1), (30, .aload 6, 2),
  (32, .iload_n 2, 1), (33, .iload_n 3, 1), (34, .iload 4, 2), (36, .invokevirtual 115, 3), (39, .istore 7, 2), (41, .iload 5, 2), (43, .ifCond .eq 13, 3), (46, .aload 6, 2),
  (48, .iload 7, 2), (50, .invokevirtual 119, 3), (53, .goto 5, 3), (56, .iload 7, 2), (58, .ireturn, 1)]
def cd_155 : List zSem := [sP (fAld 0), sRR (gFR 704), sP (fIld 1), sCR 141 2 (some 9) 2, sP (fAst 6), sP (fAld 6),
  sBr (cN (fun r => r.isNone)) 13, sP (fAld 6), sP (fIld 2), sP (fIld 3), sP (fIld 4), sCI 42 4 (some 2) 4,
  sBr (c1 (zc0 .ne)) 15, sP (fCon (-2)), sRet rI, sP (fAld 6), sP (fIld 2), sP (fIld 3),
  sP (fIld 4), sCI 48 4 (some 2) 4, sP (fIst 7), sP (fIld 5), sBr (c1 (zc0 .eq)) 27, sP (fAld 6),
  sP (fIld 7), sCI 50 2 (some 2) 2, sGo 28, sP (fIld 7), sRet rI]
set_option maxRecDepth 100000 in
theorem ck_155 : in_155.map (fun q => zsem zTb (zlk zPl_11) (ztg in_155 q.1) false q.2.1) = cd_155.map some := rfl
/-- Main_deed -/
def in_156 : List zIns := [(0, .aload_n 0, 1), (1, .getfield 10, 3), (4, .iload_n 1, 1), (5, .invokevirtual 122, 3), (8, .astore 4, 2), (10, .aload 4, 2), (12, .ifnonnull 8, 3), (15, .bipush (-2), 2),
  (17, .goto 10, 3), (20, .aload 4, 2), (22, .iload_n 2, 1), (23, .iload_n 3, 1), (24, .invokevirtual 126, 3), (27, .ireturn, 1)]
def cd_156 : List zSem := [sP (fAld 0), sRR (gFR 704), sP (fIld 1), sCR 142 2 (some 9) 2, sP (fAst 4), sP (fAld 4),
  sBr (cN (fun r => r.isSome)) 9, sP (fCon (-2)), sGo 13, sP (fAld 4), sP (fIld 2), sP (fIld 3),
  sCI 148 3 (some 10) 3, sRet rI]
set_option maxRecDepth 100000 in
theorem ck_156 : in_156.map (fun q => zsem zTb (zlk zPl_11) (ztg in_156 q.1) false q.2.1) = cd_156.map some := rfl
/-- Main_stop -/
def in_157 : List zIns := [(0, .aload_n 0, 1), (1, .getfield 10, 3), (4, .iload_n 1, 1), (5, .invokevirtual 101, 3), (8, .astore_n 3, 1), (9, .aload_n 0, 1), (10, .getfield 10, 3), (13, .iload_n 2, 1),
  (14, .invokevirtual 122, 3), (17, .astore 4, 2), (19, .aload_n 3, 1), (20, .ifnull 8, 3), (23, .aload 4, 2), (25, .ifnonnull 5, 3), (28, .iconst (-1), 1), (29, .ireturn, 1),
  (30, .aload_n 0, 1), (31, .getfield 36, 3), (34, .aload_n 3, 1), (35, .aload 4, 2), (37, .aload 4, 2), (39, .getfield 130, 3), (42, .invokevirtual 131, 3), (45, .aload_n 0, 1),
  (46, .getfield 36, 3), (49, .getfield 135, 3), (52, .ireturn, 1)]
def cd_157 : List zSem := [sP (fAld 0), sRR (gFR 704), sP (fIld 1), sCR 141 2 (some 9) 2, sP (fAst 3), sP (fAld 0),
  sRR (gFR 704), sP (fIld 2), sCR 142 2 (some 9) 2, sP (fAst 4), sP (fAld 3), sBr (cN (fun r => r.isNone)) 14,
  sP (fAld 4), sBr (cN (fun r => r.isSome)) 16, sP (fCon (-1)), sRet rI, sP (fAld 0), sRR (gFR 707),
  sP (fAld 3), sP (fAld 4), sP (fAld 4), sRI (gFI 640), sCV 13 4 (some 1) 5, sP (fAld 0),
  sRR (gFR 707), sRI (gFI 64), sRet rI]
set_option maxRecDepth 100000 in
theorem ck_157 : in_157.map (fun q => zsem zTb (zlk zPl_11) (ztg in_157 q.1) false q.2.1) = cd_157.map some := rfl
/-- Main_state -/
def in_158 : List zIns := [(0, .aload_n 0, 1), (1, .getfield 10, 3), (4, .iload_n 1, 1), (5, .invokevirtual 101, 3), (8, .astore 5, 2), (10, .aload_n 0, 1), (11, .getfield 10, 3), (14, .iload_n 2, 1),
  (15, .invokevirtual 122, 3), (18, .astore 6, 2), (20, .aload 5, 2), (22, .ifnull 21, 3), (25, .aload 6, 2), (27, .ifnull 16, 3), (30, .iload_n 3, 1), (31, .ifCond .lt 12, 3),
  (34, .iload_n 3, 1), (35, .aload 6, 2), (37, .getfield 130, 3), (40, .if_icmp .le 6, 3), (43, .bipush (-2), 2), (45, .ireturn, 1), (46, .aload_n 0, 1), (47, .getfield 36, 3),
  (50, .aload 5, 2), (52, .aload 6, 2), (54, .iload_n 3, 1), (55, .invokevirtual 131, 3), (58, .aload_n 0, 1), (59, .getfield 36, 3), (62, .getfield 135, 3), (65, .iload_n 3, 1),
  (66, .if_icmp .ge 8, 3), (69, .bipush (-2), 2), (71, .goto 14, 3), (74, .aload_n 0, 1), (75, .getfield 36, 3), (78, .aload 5, 2), (80, .iload 4, 2), (82, .invokevirtual 138, 3),
  (85, .ireturn, 1)]
def cd_158 : List zSem := [sP (fAld 0), sRR (gFR 704), sP (fIld 1), sCR 141 2 (some 9) 2, sP (fAst 5), sP (fAld 0),
  sRR (gFR 704), sP (fIld 2), sCR 142 2 (some 9) 2, sP (fAst 6), sP (fAld 5), sBr (cN (fun r => r.isNone)) 20,
  sP (fAld 6), sBr (cN (fun r => r.isNone)) 20, sP (fIld 3), sBr (c1 (zc0 .lt)) 20, sP (fIld 3), sP (fAld 6),
  sRI (gFI 640), sBr (c2 (zcI .le)) 22, sP (fCon (-2)), sRet rI, sP (fAld 0), sRR (gFR 707),
  sP (fAld 5), sP (fAld 6), sP (fIld 3), sCV 13 4 (some 1) 5, sP (fAld 0), sRR (gFR 707),
  sRI (gFI 64), sP (fIld 3), sBr (c2 (zcI .ge)) 35, sP (fCon (-2)), sGo 40, sP (fAld 0),
  sRR (gFR 707), sP (fAld 5), sP (fIld 4), sCI 27 3 (some 1) 4, sRet rI]
set_option maxRecDepth 100000 in
theorem ck_158 : in_158.map (fun q => zsem zTb (zlk zPl_11) (ztg in_158 q.1) false q.2.1) = cd_158.map some := rfl
/-- Main_ready -/
def in_159 : List zIns := [(0, .aload_n 0, 1), (1, .getfield 10, 3), (4, .iload_n 1, 1), (5, .invokevirtual 101, 3), (8, .astore 7, 2), (10, .aload 7, 2), (12, .ifnull 23, 3), (15, .aload 7, 2),
  (17, .iload_n 2, 1), (18, .iload_n 3, 1), (19, .iload 4, 2), (21, .invokevirtual 111, 3), (24, .ifCond .eq 11, 3), (27, .iload 5, 2), (29, .invokestatic 141, 3), (32, .ifCond .ne 5, 3),
  (35, .iconst (-1), 1), (36, .ireturn, 1), (37, .aload_n 0, 1), (38, .getfield 43, 3), (41, .aload 7, 2), (43, .iload_n 2, 1), (44, .iload_n 3, 1), (45, .iload 4, 2),
  (47, .iload 5, 2), (49, .invokevirtual 145, 3), (52, .iload 6, 2), (54, .iconst (-1), 1), (55, .if_icmp .ne 13, 3), (58, .aload_n 0, 1), (59, .getfield 43, 3), (62, .getfield 149, 3),
  (65, .goto 12, 3), (68, .aload_n 0, 1), (69, .getfield 43, 3), (72, .iload 6, 2), (74, .invokevirtual 152, 3), (77, .ireturn, 1)]
def cd_159 : List zSem := [sP (fAld 0), sRR (gFR 704), sP (fIld 1), sCR 141 2 (some 9) 2, sP (fAst 7), sP (fAld 7),
  sBr (cN (fun r => r.isNone)) 16, sP (fAld 7), sP (fIld 2), sP (fIld 3), sP (fIld 4), sCI 42 4 (some 2) 4,
  sBr (c1 (zc0 .eq)) 16, sP (fIld 5), sCI 191 1 none 1, sBr (c1 (zc0 .ne)) 18, sP (fCon (-1)), sRet rI,
  sP (fAld 0), sRR (gFR 708), sP (fAld 7), sP (fIld 2), sP (fIld 3), sP (fIld 4),
  sP (fIld 5), sCV 1 6 (some 0) 11, sP (fIld 6), sP (fCon (-1)), sBr (c2 (zcI .ne)) 33, sP (fAld 0),
  sRR (gFR 708), sRI (gFI 0), sGo 37, sP (fAld 0), sRR (gFR 708), sP (fIld 6),
  sCI 6 2 (some 0) 4, sRet rI]
set_option maxRecDepth 100000 in
theorem ck_159 : in_159.map (fun q => zsem zTb (zlk zPl_11) (ztg in_159 q.1) false q.2.1) = cd_159.map some := rfl
/-- Main_favour -/
def in_160 : List zIns := [(0, .aload_n 0, 1), (1, .getfield 10, 3), (4, .iload_n 1, 1), (5, .invokevirtual 101, 3), (8, .astore 5, 2), (10, .aload 5, 2), (12, .ifnull 19, 3), (15, .aload 5, 2),
  (17, .iload_n 2, 1), (18, .invokevirtual 155, 3), (21, .ifCond .eq 10, 3), (24, .iload_n 3, 1), (25, .invokestatic 141, 3), (28, .ifCond .ne 5, 3), (31, .iconst (-1), 1), (32, .ireturn, 1),
  (33, .iload 4, 2), (35, .iconst (-1), 1), (36, .if_icmp .eq 15, 3), (39, .aload 5, 2), (41, .iload 4, 2), (43, .invokevirtual 158, 3), (46, .ifCond .ne 5, 3), (49, .iconst (-1), 1),
  (50, .ireturn, 1), (51, .aload_n 0, 1), (52, .getfield 50, 3), (55, .aload 5, 2), (57, .iload_n 2, 1), (58, .iload_n 3, 1), (59, .invokevirtual 161, 3), (62, .iload 4, 2),
  (64, .iconst (-1), 1), (65, .if_icmp .ne 13, 3), (68, .aload_n 0, 1), (69, .getfield 50, 3), (72, .invokevirtual 165, 3), (75, .goto 14, 3), (78, .aload_n 0, 1), (79, .getfield 50, 3),
  (82, .aload 5, 2), (84, .iload 4, 2), (86, .invokevirtual 169, 3), (89, .ireturn, 1)]
def cd_160 : List zSem := [sP (fAld 0), sRR (gFR 704), sP (fIld 1), sCR 141 2 (some 9) 2, sP (fAst 5), sP (fAld 5),
  sBr (cN (fun r => r.isNone)) 14, sP (fAld 5), sP (fIld 2), sCI 40 2 (some 2) 2, sBr (c1 (zc0 .eq)) 14, sP (fIld 3),
  sCI 191 1 none 1, sBr (c1 (zc0 .ne)) 16, sP (fCon (-1)), sRet rI, sP (fIld 4), sP (fCon (-1)),
  sBr (c2 (zcI .eq)) 25, sP (fAld 5), sP (fIld 4), sCI 41 2 (some 2) 2, sBr (c1 (zc0 .ne)) 25, sP (fCon (-1)),
  sRet rI, sP (fAld 0), sRR (gFR 709), sP (fAld 5), sP (fIld 2), sP (fIld 3),
  sCV 57 4 (some 4) 7, sP (fIld 4), sP (fCon (-1)), sBr (c2 (zcI .ne)) 38, sP (fAld 0), sRR (gFR 709),
  sCI 60 1 (some 4) 1, sGo 43, sP (fAld 0), sRR (gFR 709), sP (fAld 5), sP (fIld 4),
  sCI 61 3 (some 4) 6, sRet rI]
set_option maxRecDepth 100000 in
theorem ck_160 : in_160.map (fun q => zsem zTb (zlk zPl_11) (ztg in_160 q.1) false q.2.1) = cd_160.map some := rfl
/-- Main_dare -/
def in_161 : List zIns := [(0, .aload_n 0, 1), (1, .getfield 10, 3), (4, .iload_n 1, 1), (5, .invokevirtual 101, 3), (8, .astore 5, 2), (10, .aload 5, 2), (12, .ifnull 21, 3), (15, .aload 5, 2),
  (17, .iload_n 2, 1), (18, .invokevirtual 172, 3), (21, .ifCond .eq 12, 3), (24, .aload 5, 2), (26, .iload_n 3, 1), (27, .invokevirtual 155, 3), (30, .ifCond .ne 6, 3), (33, .bipush (-2), 2),
  (35, .ireturn, 1), (36, .aload_n 0, 1), (37, .getfield 50, 3), (40, .aload 5, 2), (42, .iload_n 2, 1), (43, .iload_n 3, 1), (44, .invokevirtual 175, 3), (47, .iload 4, 2),
  (49, .ifCond .eq 15, 3), (52, .aload_n 0, 1), (53, .getfield 50, 3), (56, .aload 5, 2), (58, .invokevirtual 178, 3), (61, .goto 10, 3), (64, .aload_n 0, 1), (65, .getfield 50, 3),
  (68, .invokevirtual 182, 3), (71, .ireturn, 1)]
def cd_161 : List zSem := [sP (fAld 0), sRR (gFR 704), sP (fIld 1), sCR 141 2 (some 9) 2, sP (fAst 5), sP (fAld 5),
  sBr (cN (fun r => r.isNone)) 15, sP (fAld 5), sP (fIld 2), sCI 39 2 (some 2) 2, sBr (c1 (zc0 .eq)) 15, sP (fAld 5),
  sP (fIld 3), sCI 40 2 (some 2) 2, sBr (c1 (zc0 .ne)) 17, sP (fCon (-2)), sRet rI, sP (fAld 0),
  sRR (gFR 709), sP (fAld 5), sP (fIld 2), sP (fIld 3), sCV 65 4 (some 4) 8, sP (fIld 4),
  sBr (c1 (zc0 .eq)) 30, sP (fAld 0), sRR (gFR 709), sP (fAld 5), sCI 68 2 (some 4) 3, sGo 33,
  sP (fAld 0), sRR (gFR 709), sCI 67 1 (some 4) 1, sRet rI]
set_option maxRecDepth 100000 in
theorem ck_161 : in_161.map (fun q => zsem zTb (zlk zPl_11) (ztg in_161 q.1) false q.2.1) = cd_161.map some := rfl
/-- Main_alike -/
def in_162 : List zIns := [(0, .aload_n 0, 1), (1, .getfield 10, 3), (4, .iload_n 1, 1), (5, .invokevirtual 101, 3), (8, .astore 4, 2), (10, .aload 4, 2), (12, .ifnull 21, 3), (15, .aload 4, 2),
  (17, .iload_n 2, 1), (18, .invokevirtual 172, 3), (21, .ifCond .eq 12, 3), (24, .aload 4, 2), (26, .iload_n 3, 1), (27, .invokevirtual 172, 3), (30, .ifCond .ne 5, 3), (33, .iconst (-1), 1),
  (34, .ireturn, 1), (35, .aload_n 0, 1), (36, .getfield 64, 3), (39, .aload 4, 2), (41, .iload_n 2, 1), (42, .iload_n 3, 1), (43, .invokevirtual 185, 3), (46, .ireturn, 1)]
def cd_162 : List zSem := [sP (fAld 0), sRR (gFR 704), sP (fIld 1), sCR 141 2 (some 9) 2, sP (fAst 4), sP (fAld 4),
  sBr (cN (fun r => r.isNone)) 15, sP (fAld 4), sP (fIld 2), sCI 39 2 (some 2) 2, sBr (c1 (zc0 .eq)) 15, sP (fAld 4),
  sP (fIld 3), sCI 39 2 (some 2) 2, sBr (c1 (zc0 .ne)) 17, sP (fCon (-1)), sRet rI, sP (fAld 0),
  sRR (gFR 711), sP (fAld 4), sP (fIld 2), sP (fIld 3), sCI 93 4 (some 6) 7, sRet rI]
set_option maxRecDepth 100000 in
theorem ck_162 : in_162.map (fun q => zsem zTb (zlk zPl_11) (ztg in_162 q.1) false q.2.1) = cd_162.map some := rfl
/-- Main_lows -/
def in_163 : List zIns := [(0, .aload_n 0, 1), (1, .getfield 10, 3), (4, .iload_n 1, 1), (5, .invokevirtual 101, 3), (8, .astore_n 2, 1), (9, .aload_n 2, 1), (10, .ifnonnull 5, 3), (13, .iconst (-1), 1),
  (14, .ireturn, 1), (15, .aload_n 0, 1), (16, .getfield 64, 3), (19, .aload_n 2, 1), (20, .aload_n 2, 1), (21, .getfield 189, 3), (24, .invokevirtual 192, 3), (27, .aload_n 0, 1),
  (28, .getfield 64, 3), (31, .getfield 196, 3), (34, .iconst 0, 1), (35, .iaload, 1), (36, .ireturn, 1)]
def cd_163 : List zSem := [sP (fAld 0), sRR (gFR 704), sP (fIld 1), sCR 141 2 (some 9) 2, sP (fAst 2), sP (fAld 2),
  sBr (cN (fun r => r.isSome)) 9, sP (fCon (-1)), sRet rI, sP (fAld 0), sRR (gFR 711), sP (fAld 2),
  sP (fAld 2), sRI (gFI 131), sCV 94 3 (some 6) 6, sP (fAld 0), sRR (gFR 711), sRR (gFR 384),
  sP (fCon 0), sRI gAI, sRet rI]
set_option maxRecDepth 100000 in
theorem ck_163 : in_163.map (fun q => zsem zTb (zlk zPl_11) (ztg in_163 q.1) false q.2.1) = cd_163.map some := rfl
/-- Main_told -/
def in_164 : List zIns := [(0, .aload_n 0, 1), (1, .getfield 10, 3), (4, .iload_n 1, 1), (5, .invokevirtual 101, 3), (8, .astore 4, 2), (10, .aload 4, 2), (12, .ifnull 21, 3), (15, .aload 4, 2),
  (17, .iload_n 2, 1), (18, .invokevirtual 158, 3), (21, .ifCond .eq 12, 3), (24, .iload_n 3, 1), (25, .ifCond .lt 8, 3), (28, .iload_n 3, 1), (29, .iconst 3, 1), (30, .if_icmp .le 5, 3),
  (33, .iconst (-1), 1), (34, .ireturn, 1), (35, .aload_n 0, 1), (36, .getfield 64, 3), (39, .aload 4, 2), (41, .iload_n 2, 1), (42, .iload_n 3, 1), (43, .iconst 3, 1),
  (44, .if_icmp .ne 7, 3), (47, .iconst (-1), 1), (48, .goto 4, 3), (51, .iload_n 3, 1), (52, .invokevirtual 200, 3), (55, .ireturn, 1)]
def cd_164 : List zSem := [sP (fAld 0), sRR (gFR 704), sP (fIld 1), sCR 141 2 (some 9) 2, sP (fAst 4), sP (fAld 4),
  sBr (cN (fun r => r.isNone)) 16, sP (fAld 4), sP (fIld 2), sCI 41 2 (some 2) 2, sBr (c1 (zc0 .eq)) 16, sP (fIld 3),
  sBr (c1 (zc0 .lt)) 16, sP (fIld 3), sP (fCon 3), sBr (c2 (zcI .le)) 18, sP (fCon (-1)), sRet rI,
  sP (fAld 0), sRR (gFR 711), sP (fAld 4), sP (fIld 2), sP (fIld 3), sP (fCon 3),
  sBr (c2 (zcI .ne)) 27, sP (fCon (-1)), sGo 28, sP (fIld 3), sCI 96 4 (some 6) 7, sRet rI]
set_option maxRecDepth 100000 in
theorem ck_164 : in_164.map (fun q => zsem zTb (zlk zPl_11) (ztg in_164 q.1) false q.2.1) = cd_164.map some := rfl
/-- Main_weather -/
def in_165 : List zIns := [(0, .aload_n 0, 1), (1, .getfield 10, 3), (4, .iload_n 1, 1), (5, .invokevirtual 101, 3), (8, .astore 6, 2), (10, .aload 6, 2), (12, .ifnull 23, 3), (15, .aload 6, 2),
  (17, .iload_n 2, 1), (18, .iload_n 3, 1), (19, .iload 4, 2), (21, .invokevirtual 111, 3), (24, .ifCond .eq 11, 3), (27, .iload 5, 2), (29, .invokestatic 141, 3), (32, .ifCond .ne 5, 3),
  (35, .iconst (-1), 1), (36, .ireturn, 1), (37, .aload_n 0, 1), (38, .getfield 64, 3), (41, .aload 6, 2), (43, .iload_n 2, 1), (44, .iload_n 3, 1), (45, .iload 4, 2),
  (47, .iload 5, 2), (49, .invokevirtual 203, 3), (52, .ireturn, 1)]
def cd_165 : List zSem := [sP (fAld 0), sRR (gFR 704), sP (fIld 1), sCR 141 2 (some 9) 2, sP (fAst 6), sP (fAld 6),
  sBr (cN (fun r => r.isNone)) 16, sP (fAld 6), sP (fIld 2), sP (fIld 3), sP (fIld 4), sCI 42 4 (some 2) 4,
  sBr (c1 (zc0 .eq)) 16, sP (fIld 5), sCI 191 1 none 1, sBr (c1 (zc0 .ne)) 18, sP (fCon (-1)), sRet rI,
  sP (fAld 0), sRR (gFR 711), sP (fAld 6), sP (fIld 2), sP (fIld 3), sP (fIld 4),
  sP (fIld 5), sCI 97 6 (some 6) 9, sRet rI]
set_option maxRecDepth 100000 in
theorem ck_165 : in_165.map (fun q => zsem zTb (zlk zPl_11) (ztg in_165 q.1) false q.2.1) = cd_165.map some := rfl
/-- Main_fact -/
def in_166 : List zIns := [(0, .aload_n 0, 1), (1, .getfield 10, 3), (4, .iload_n 1, 1), (5, .invokevirtual 207, 3), (8, .astore 4, 2), (10, .aload 4, 2), (12, .ifnonnull 8, 3), (15, .bipush (-2), 2),
  (17, .goto 10, 3), (20, .aload 4, 2), (22, .iload_n 2, 1), (23, .iload_n 3, 1), (24, .invokevirtual 211, 3), (27, .ireturn, 1)]
def cd_166 : List zSem := [sP (fAld 0), sRR (gFR 704), sP (fIld 1), sCR 143 2 (some 9) 2, sP (fAst 4), sP (fAld 4),
  sBr (cN (fun r => r.isSome)) 9, sP (fCon (-2)), sGo 13, sP (fAld 4), sP (fIld 2), sP (fIld 3),
  sCI 55 3 (some 3) 3, sRet rI]
set_option maxRecDepth 100000 in
theorem ck_166 : in_166.map (fun q => zsem zTb (zlk zPl_11) (ztg in_166 q.1) false q.2.1) = cd_166.map some := rfl
/-- Main_fits -/
def in_167 : List zIns := [(0, .aload_n 0, 1), (1, .getfield 10, 3), (4, .iload_n 1, 1), (5, .invokevirtual 101, 3), (8, .astore 4, 2), (10, .aload_n 0, 1), (11, .getfield 10, 3), (14, .iload_n 2, 1),
  (15, .invokevirtual 207, 3), (18, .astore 5, 2), (20, .aload 4, 2), (22, .ifnull 18, 3), (25, .aload 5, 2), (27, .ifnull 13, 3), (30, .aload 4, 2), (32, .aload 5, 2),
  (34, .invokevirtual 214, 3), (37, .ifCond .ne 6, 3), (40, .bipush (-2), 2), (42, .ireturn, 1), (43, .aload_n 0, 1), (44, .getfield 57, 3), (47, .aload 4, 2), (49, .aload 5, 2),
  (51, .invokevirtual 218, 3), (54, .iload_n 3, 1), (55, .tableswitch 84 0 4 #[33, 41, 49, 57, 69], 33), (88, .aload_n 0, 1), (89, .getfield 57, 3), (92, .getfield 222, 3), (95, .ireturn, 1), (96, .aload_n 0, 1),
  (97, .getfield 57, 3), (100, .invokevirtual 223, 3), (103, .ireturn, 1), (104, .aload_n 0, 1), (105, .getfield 57, 3), (108, .invokevirtual 226, 3), (111, .ireturn, 1), (112, .aload_n 0, 1),
  (113, .getfield 57, 3), (116, .aload 4, 2), (118, .aload 5, 2), (120, .invokevirtual 229, 3), (123, .ireturn, 1), (124, .aload_n 0, 1), (125, .getfield 57, 3), (128, .aload 4, 2),
  (130, .aload 5, 2), (132, .getfield 233, 3), (135, .invokevirtual 234, 3), (138, .ireturn, 1), (139, .iload_n 3, 1), (140, .bipush 10, 2), (142, .if_icmp .ge 8, 3), (145, .bipush (-2), 2),
  (147, .goto 14, 3), (150, .aload_n 0, 1), (151, .getfield 57, 3), (154, .iload_n 3, 1), (155, .bipush 10, 2), (157, .isub, 1), (158, .invokevirtual 237, 3), (161, .ireturn, 1)]
def cd_167 : List zSem := [sP (fAld 0), sRR (gFR 704), sP (fIld 1), sCR 141 2 (some 9) 2, sP (fAst 4), sP (fAld 0),
  sRR (gFR 704), sP (fIld 2), sCR 143 2 (some 9) 2, sP (fAst 5), sP (fAld 4), sBr (cN (fun r => r.isNone)) 18,
  sP (fAld 5), sBr (cN (fun r => r.isNone)) 18, sP (fAld 4), sP (fAld 5), sCI 43 2 (some 2) 3, sBr (c1 (zc0 .ne)) 20,
  sP (fCon (-2)), sRet rI, sP (fAld 0), sRR (gFR 710), sP (fAld 4), sP (fAld 5),
  sCV 124 3 (some 7) 4, sP (fIld 3), sSw [(0, 27), (1, 31), (2, 35), (3, 39), (4, 45)] 52, sP (fAld 0), sRR (gFR 710), sRI (gFI 448),
  sRet rI, sP (fAld 0), sRR (gFR 710), sCI 127 1 (some 7) 2, sRet rI, sP (fAld 0),
  sRR (gFR 710), sCI 128 1 (some 7) 2, sRet rI, sP (fAld 0), sRR (gFR 710), sP (fAld 4),
  sP (fAld 5), sCI 129 3 (some 7) 5, sRet rI, sP (fAld 0), sRR (gFR 710), sP (fAld 4),
  sP (fAld 5), sRI (gFI 192), sCI 130 3 (some 7) 8, sRet rI, sP (fIld 3), sP (fCon 10),
  sBr (c2 (zcI .ge)) 57, sP (fCon (-2)), sGo 63, sP (fAld 0), sRR (gFR 710), sP (fIld 3),
  sP (fCon 10), sP (fII (fun x y => x - y)), sCI 126 2 (some 7) 2, sRet rI]
set_option maxRecDepth 100000 in
theorem ck_167 : in_167.map (fun q => zsem zTb (zlk zPl_11) (ztg in_167 q.1) false q.2.1) = cd_167.map some := rfl
/-- Main_left -/
def in_168 : List zIns := [(0, .iload_n 1, 1), (1, .bipush 6, 2), (3, .invokestatic 240, 3), (6, .ifCond .eq 30, 3), (9, .iload_n 2, 1), (10, .bipush 6, 2), (12, .invokestatic 240, 3), (15, .ifCond .eq 21, 3),
  (18, .iload_n 3, 1), (19, .iconst 3, 1), (20, .invokestatic 240, 3), (23, .ifCond .eq 13, 3), (26, .iload 4, 2), (28, .bipush 10, 2), (30, .invokestatic 240, 3), (33, .ifCond .ne 7, 3),
  (36, .ldc2_w 244, 3), (39, .lreturn, 1), (40, .ldc2_w 246, 3), (43, .iload_n 3, 1), (44, .invokestatic 248, 3), (47, .lstore 6, 2), (49, .bipush 10, 2), (51, .iload 4, 2),
  (53, .isub, 1), (54, .i2l, 1), (55, .iload_n 3, 1), (56, .invokestatic 248, 3), (59, .lstore 8, 2), (61, .lconst 0, 1), (62, .lstore 10, 2), (64, .iload_n 2, 1),
  (65, .istore 12, 2), (67, .iload 12, 2), (69, .iload_n 1, 1), (70, .if_icmp .gt 41, 3), (73, .lload 10, 2), (75, .iload_n 1, 1), (76, .iload 12, 2), (78, .invokestatic 252, 3),
  (81, .lload 8, 2), (83, .iload 12, 2), (85, .invokestatic 248, 3), (88, .lmul, 1), (89, .lload 6, 2), (91, .lload 8, 2), (93, .lsub, 1), (94, .iload_n 1, 1),
  (95, .iload 12, 2), (97, .isub, 1), (98, .invokestatic 248, 3), (101, .lmul, 1), (102, .ladd, 1), (103, .lstore 10, 2), (105, .iinc 12 1, 3), (108, .goto (-41), 3),
  (111, .lload 10, 2), (113, .lload 6, 2), (115, .iload_n 1, 1), (116, .invokestatic 248, 3), (119, .iload 5, 2), (121, .invokestatic 256, 3), (124, .lreturn, 1)]
def cd_168 : List zSem := [sP (fIld 1), sP (fCon 6), sCI 192 2 none 2, sBr (c1 (zc0 .eq)) 16, sP (fIld 2), sP (fCon 6),
  sCI 192 2 none 2, sBr (c1 (zc0 .eq)) 16, sP (fIld 3), sP (fCon 3), sCI 192 2 none 2, sBr (c1 (zc0 .eq)) 16,
  sP (fIld 4), sP (fCon 10), sCI 192 2 none 2, sBr (c1 (zc0 .ne)) 18, sP (fLon (-1)), sRet rL,
  sP (fLon 10), sP (fIld 3), sCL 196 2 none 6, sP (fLst 6), sP (fCon 10), sP (fIld 4),
  sP (fII (fun x y => x - y)), sP fIL, sP (fIld 3), sCL 196 2 none 6, sP (fLst 8), sP (fLon 0),
  sP (fLst 10), sP (fIld 2), sP (fIst 12), sP (fIld 12), sP (fIld 1), sBr (c2 (zcI .gt)) 56,
  sP (fLld 10), sP (fIld 1), sP (fIld 12), sCL 197 2 none 5, sP (fLld 8), sP (fIld 12),
  sCL 196 2 none 6, sP (fLL (fun x y => x * y)), sP (fLld 6), sP (fLld 8), sP (fLL (fun x y => x - y)), sP (fIld 1),
  sP (fIld 12), sP (fII (fun x y => x - y)), sCL 196 2 none 6, sP (fLL (fun x y => x * y)), sP (fLL (fun x y => x + y)), sP (fLst 10),
  sP (fInc 12 1), sGo 33, sP (fLld 10), sP (fLld 6), sP (fIld 1), sCL 196 2 none 6,
  sP (fIld 5), sCL 198 3 none 12, sRet rL]
set_option maxRecDepth 100000 in
theorem ck_168 : in_168.map (fun q => zsem zTb (zlk zPl_11) (ztg in_168 q.1) false q.2.1) = cd_168.map some := rfl
/-- Main_drawn -/
def in_169 : List zIns := [(0, .aload_n 0, 1), (1, .getfield 10, 3), (4, .iload_n 1, 1), (5, .invokevirtual 101, 3), (8, .astore 5, 2), (10, .aload 5, 2), (12, .ifnull 12, 3), (15, .iload_n 3, 1),
  (16, .bipush 60, 2), (18, .invokestatic 240, 3), (21, .ifCond .ne 6, 3), (24, .bipush (-2), 2), (26, .ireturn, 1), (27, .aload_n 0, 1), (28, .getfield 36, 3), (31, .aload 5, 2),
  (33, .iload_n 2, 1), (34, .iload_n 3, 1), (35, .invokevirtual 260, 3), (38, .aload_n 0, 1), (39, .getfield 36, 3), (42, .aload 5, 2), (44, .iload 4, 2), (46, .invokevirtual 138, 3),
  (49, .ireturn, 1)]
def cd_169 : List zSem := [sP (fAld 0), sRR (gFR 704), sP (fIld 1), sCR 141 2 (some 9) 2, sP (fAst 5), sP (fAld 5),
  sBr (cN (fun r => r.isNone)) 11, sP (fIld 3), sP (fCon 60), sCI 192 2 none 2, sBr (c1 (zc0 .ne)) 13, sP (fCon (-2)),
  sRet rI, sP (fAld 0), sRR (gFR 707), sP (fAld 5), sP (fIld 2), sP (fIld 3),
  sCV 24 4 (some 1) 5, sP (fAld 0), sRR (gFR 707), sP (fAld 5), sP (fIld 4), sCI 27 3 (some 1) 4,
  sRet rI]
set_option maxRecDepth 100000 in
theorem ck_169 : in_169.map (fun q => zsem zTb (zlk zPl_11) (ztg in_169 q.1) false q.2.1) = cd_169.map some := rfl
/-- Main_chant -/
def in_170 : List zIns := [(0, .aload_n 0, 1), (1, .getfield 10, 3), (4, .iload_n 1, 1), (5, .invokevirtual 101, 3), (8, .astore 6, 2), (10, .aload 6, 2), (12, .ifnull 25, 3), (15, .aload 6, 2),
  (17, .iload_n 2, 1), (18, .iload_n 3, 1), (19, .iload 4, 2), (21, .invokevirtual 111, 3), (24, .ifCond .eq 13, 3), (27, .iload 5, 2), (29, .bipush 20, 2), (31, .invokestatic 240, 3),
  (34, .ifCond .ne 6, 3), (37, .bipush (-2), 2), (39, .ireturn, 1), (40, .aload 6, 2), (42, .iload_n 2, 1), (43, .iload 5, 2), (45, .iload_n 3, 1), (46, .iload 4, 2),
  (48, .invokevirtual 263, 3), (51, .ireturn, 1)]
def cd_170 : List zSem := [sP (fAld 0), sRR (gFR 704), sP (fIld 1), sCR 141 2 (some 9) 2, sP (fAst 6), sP (fAld 6),
  sBr (cN (fun r => r.isNone)) 17, sP (fAld 6), sP (fIld 2), sP (fIld 3), sP (fIld 4), sCI 42 4 (some 2) 4,
  sBr (c1 (zc0 .eq)) 17, sP (fIld 5), sP (fCon 20), sCI 192 2 none 2, sBr (c1 (zc0 .ne)) 19, sP (fCon (-2)),
  sRet rI, sP (fAld 6), sP (fIld 2), sP (fIld 5), sP (fIld 3), sP (fIld 4),
  sCI 49 5 (some 2) 5, sRet rI]
set_option maxRecDepth 100000 in
theorem ck_170 : in_170.map (fun q => zsem zTb (zlk zPl_11) (ztg in_170 q.1) false q.2.1) = cd_170.map some := rfl
/-- Main_ripe -/
def in_171 : List zIns := [(0, .aload_n 0, 1), (1, .getfield 10, 3), (4, .iload_n 1, 1), (5, .invokevirtual 101, 3), (8, .astore 6, 2), (10, .aload 6, 2), (12, .ifnull 23, 3), (15, .aload 6, 2),
  (17, .iload_n 2, 1), (18, .iload_n 3, 1), (19, .iload 4, 2), (21, .invokevirtual 111, 3), (24, .ifCond .eq 11, 3), (27, .iload 5, 2), (29, .invokestatic 141, 3), (32, .ifCond .ne 5, 3),
  (35, .iconst (-1), 1), (36, .ireturn, 1), (37, .aload_n 0, 1), (38, .getfield 64, 3), (41, .aload 6, 2), (43, .iload_n 2, 1), (44, .iload_n 3, 1), (45, .iload 4, 2),
  (47, .iload 5, 2), (49, .invokevirtual 267, 3), (52, .ireturn, 1)]
def cd_171 : List zSem := [sP (fAld 0), sRR (gFR 704), sP (fIld 1), sCR 141 2 (some 9) 2, sP (fAst 6), sP (fAld 6),
  sBr (cN (fun r => r.isNone)) 16, sP (fAld 6), sP (fIld 2), sP (fIld 3), sP (fIld 4), sCI 42 4 (some 2) 4,
  sBr (c1 (zc0 .eq)) 16, sP (fIld 5), sCI 191 1 none 1, sBr (c1 (zc0 .ne)) 18, sP (fCon (-1)), sRet rI,
  sP (fAld 0), sRR (gFR 711), sP (fAld 6), sP (fIld 2), sP (fIld 3), sP (fIld 4),
  sP (fIld 5), sCI 98 6 (some 6) 7, sRet rI]
set_option maxRecDepth 100000 in
theorem ck_171 : in_171.map (fun q => zsem zTb (zlk zPl_11) (ztg in_171 q.1) false q.2.1) = cd_171.map some := rfl
/-- Main_deepest -/
def in_172 : List zIns := [(0, .aload_n 0, 1), (1, .getfield 10, 3), (4, .iload_n 1, 1), (5, .invokevirtual 101, 3), (8, .astore 4, 2), (10, .aload 4, 2), (12, .ifnull 21, 3), (15, .aload 4, 2),
  (17, .iload_n 2, 1), (18, .invokevirtual 172, 3), (21, .ifCond .eq 12, 3), (24, .aload 4, 2), (26, .iload_n 3, 1), (27, .invokevirtual 155, 3), (30, .ifCond .ne 5, 3), (33, .iconst (-1), 1),
  (34, .ireturn, 1), (35, .aload_n 0, 1), (36, .getfield 64, 3), (39, .aload 4, 2), (41, .iload_n 2, 1), (42, .iload_n 3, 1), (43, .invokevirtual 270, 3), (46, .ireturn, 1)]
def cd_172 : List zSem := [sP (fAld 0), sRR (gFR 704), sP (fIld 1), sCR 141 2 (some 9) 2, sP (fAst 4), sP (fAld 4),
  sBr (cN (fun r => r.isNone)) 15, sP (fAld 4), sP (fIld 2), sCI 39 2 (some 2) 2, sBr (c1 (zc0 .eq)) 15, sP (fAld 4),
  sP (fIld 3), sCI 40 2 (some 2) 2, sBr (c1 (zc0 .ne)) 17, sP (fCon (-1)), sRet rI, sP (fAld 0),
  sRR (gFR 711), sP (fAld 4), sP (fIld 2), sP (fIld 3), sCI 99 4 (some 6) 7, sRet rI]
set_option maxRecDepth 100000 in
theorem ck_172 : in_172.map (fun q => zsem zTb (zlk zPl_11) (ztg in_172 q.1) false q.2.1) = cd_172.map some := rfl
/-- Main_program -/
def in_173 : List zIns := [(0, .aload_n 0, 1), (1, .getfield 10, 3), (4, .iload_n 1, 1), (5, .invokevirtual 101, 3), (8, .astore 5, 2), (10, .aload 5, 2), (12, .ifnull 21, 3), (15, .aload 5, 2),
  (17, .iload_n 2, 1), (18, .invokevirtual 172, 3), (21, .ifCond .eq 12, 3), (24, .aload 5, 2), (26, .iload_n 3, 1), (27, .invokevirtual 155, 3), (30, .ifCond .ne 5, 3), (33, .iconst (-1), 1),
  (34, .ireturn, 1), (35, .aload_n 0, 1), (36, .getfield 50, 3), (39, .aload 5, 2), (41, .iload_n 2, 1), (42, .iload_n 3, 1), (43, .invokevirtual 273, 3), (46, .iload 4, 2),
  (48, .iconst (-1), 1), (49, .if_icmp .ne 13, 3), (52, .aload_n 0, 1), (53, .getfield 50, 3), (56, .invokevirtual 276, 3), (59, .goto 14, 3), (62, .aload_n 0, 1), (63, .getfield 50, 3),
  (66, .aload 5, 2), (68, .iload 4, 2), (70, .invokevirtual 279, 3), (73, .ireturn, 1)]
def cd_173 : List zSem := [sP (fAld 0), sRR (gFR 704), sP (fIld 1), sCR 141 2 (some 9) 2, sP (fAst 5), sP (fAld 5),
  sBr (cN (fun r => r.isNone)) 15, sP (fAld 5), sP (fIld 2), sCI 39 2 (some 2) 2, sBr (c1 (zc0 .eq)) 15, sP (fAld 5),
  sP (fIld 3), sCI 40 2 (some 2) 2, sBr (c1 (zc0 .ne)) 17, sP (fCon (-1)), sRet rI, sP (fAld 0),
  sRR (gFR 709), sP (fAld 5), sP (fIld 2), sP (fIld 3), sCV 69 4 (some 4) 8, sP (fIld 4),
  sP (fCon (-1)), sBr (c2 (zcI .ne)) 30, sP (fAld 0), sRR (gFR 709), sCI 71 1 (some 4) 1, sGo 35,
  sP (fAld 0), sRR (gFR 709), sP (fAld 5), sP (fIld 4), sCI 72 3 (some 4) 6, sRet rI]
set_option maxRecDepth 100000 in
theorem ck_173 : in_173.map (fun q => zsem zTb (zlk zPl_11) (ztg in_173 q.1) false q.2.1) = cd_173.map some := rfl
/-- Main_edit -/
def in_174 : List zIns := [(0, .aload_n 0, 1), (1, .getfield 10, 3), (4, .iload_n 1, 1), (5, .invokevirtual 101, 3), (8, .astore 5, 2), (10, .aload 5, 2), (12, .ifnull 29, 3), (15, .aload 5, 2),
  (17, .iload_n 2, 1), (18, .invokevirtual 172, 3), (21, .ifCond .eq 20, 3), (24, .aload 5, 2), (26, .iload_n 3, 1), (27, .invokevirtual 155, 3), (30, .ifCond .eq 11, 3), (33, .iload 4, 2),
  (35, .invokestatic 141, 3), (38, .ifCond .ne 5, 3), (41, .iconst (-1), 1), (42, .ireturn, 1), (43, .aload_n 0, 1), (44, .getfield 64, 3), (47, .aload 5, 2), (49, .iload_n 2, 1),
  (50, .iload_n 3, 1), (51, .iload 4, 2), (53, .invokevirtual 282, 3), (56, .ireturn, 1)]
def cd_174 : List zSem := [sP (fAld 0), sRR (gFR 704), sP (fIld 1), sCR 141 2 (some 9) 2, sP (fAst 5), sP (fAld 5),
  sBr (cN (fun r => r.isNone)) 18, sP (fAld 5), sP (fIld 2), sCI 39 2 (some 2) 2, sBr (c1 (zc0 .eq)) 18, sP (fAld 5),
  sP (fIld 3), sCI 40 2 (some 2) 2, sBr (c1 (zc0 .eq)) 18, sP (fIld 4), sCI 191 1 none 1, sBr (c1 (zc0 .ne)) 20,
  sP (fCon (-1)), sRet rI, sP (fAld 0), sRR (gFR 711), sP (fAld 5), sP (fIld 2),
  sP (fIld 3), sP (fIld 4), sCI 100 5 (some 6) 8, sRet rI]
set_option maxRecDepth 100000 in
theorem ck_174 : in_174.map (fun q => zsem zTb (zlk zPl_11) (ztg in_174 q.1) false q.2.1) = cd_174.map some := rfl
/-- Main_choir -/
def in_175 : List zIns := [(0, .aload_n 0, 1), (1, .getfield 10, 3), (4, .iload_n 1, 1), (5, .invokevirtual 101, 3), (8, .astore 4, 2), (10, .aload 4, 2), (12, .ifnull 12, 3), (15, .aload 4, 2),
  (17, .iload_n 2, 1), (18, .invokevirtual 155, 3), (21, .ifCond .ne 5, 3), (24, .iconst (-1), 1), (25, .ireturn, 1), (26, .aload_n 0, 1), (27, .getfield 64, 3), (30, .aload 4, 2),
  (32, .iload_n 2, 1), (33, .invokevirtual 286, 3), (36, .istore 5, 2), (38, .iload 5, 2), (40, .iconst (-1), 1), (41, .if_icmp .eq 7, 3), (44, .iload_n 3, 1), (45, .ifCond .eq 8, 3),
  (48, .iload 5, 2), (50, .goto 8, 3), (53, .iload 5, 2), (55, .invokestatic 289, 3), (58, .ireturn, 1)]
def cd_175 : List zSem := [sP (fAld 0), sRR (gFR 704), sP (fIld 1), sCR 141 2 (some 9) 2, sP (fAst 4), sP (fAld 4),
  sBr (cN (fun r => r.isNone)) 11, sP (fAld 4), sP (fIld 2), sCI 40 2 (some 2) 2, sBr (c1 (zc0 .ne)) 13, sP (fCon (-1)),
  sRet rI, sP (fAld 0), sRR (gFR 711), sP (fAld 4), sP (fIld 2), sCI 101 3 (some 6) 7,
  sP (fIst 5), sP (fIld 5), sP (fCon (-1)), sBr (c2 (zcI .eq)) 24, sP (fIld 3), sBr (c1 (zc0 .eq)) 26,
  sP (fIld 5), sGo 28, sP (fIld 5), sCI 325 1 none 1, sRet rI]
set_option maxRecDepth 100000 in
theorem ck_175 : in_175.map (fun q => zsem zTb (zlk zPl_11) (ztg in_175 q.1) false q.2.1) = cd_175.map some := rfl
/-- Main_peace -/
def in_176 : List zIns := [(0, .aload_n 0, 1), (1, .getfield 10, 3), (4, .iload_n 1, 1), (5, .invokevirtual 101, 3), (8, .astore 4, 2), (10, .aload 4, 2), (12, .ifnull 12, 3), (15, .aload 4, 2),
  (17, .iload_n 2, 1), (18, .invokevirtual 155, 3), (21, .ifCond .ne 5, 3), (24, .iconst (-1), 1), (25, .ireturn, 1), (26, .aload_n 0, 1), (27, .getfield 64, 3), (30, .aload 4, 2),
  (32, .iload_n 2, 1), (33, .invokevirtual 294, 3), (36, .istore 5, 2), (38, .iload_n 3, 1), (39, .ifCond .eq 8, 3), (42, .iload 5, 2), (44, .goto 8, 3), (47, .iload 5, 2),
  (49, .invokestatic 289, 3), (52, .ireturn, 1)]
def cd_176 : List zSem := [sP (fAld 0), sRR (gFR 704), sP (fIld 1), sCR 141 2 (some 9) 2, sP (fAst 4), sP (fAld 4),
  sBr (cN (fun r => r.isNone)) 11, sP (fAld 4), sP (fIld 2), sCI 40 2 (some 2) 2, sBr (c1 (zc0 .ne)) 13, sP (fCon (-1)),
  sRet rI, sP (fAld 0), sRR (gFR 711), sP (fAld 4), sP (fIld 2), sCI 104 3 (some 6) 6,
  sP (fIst 5), sP (fIld 3), sBr (c1 (zc0 .eq)) 23, sP (fIld 5), sGo 25, sP (fIld 5),
  sCI 325 1 none 1, sRet rI]
set_option maxRecDepth 100000 in
theorem ck_176 : in_176.map (fun q => zsem zTb (zlk zPl_11) (ztg in_176 q.1) false q.2.1) = cd_176.map some := rfl
/-- Main_marched -/
def in_177 : List zIns := [(0, .aload_n 0, 1), (1, .getfield 10, 3), (4, .iload_n 1, 1), (5, .invokevirtual 101, 3), (8, .astore_n 3, 1), (9, .aload_n 3, 1), (10, .ifnull 11, 3), (13, .aload_n 3, 1),
  (14, .iload_n 2, 1), (15, .invokevirtual 158, 3), (18, .ifCond .ne 5, 3), (21, .iconst (-1), 1), (22, .ireturn, 1), (23, .aload_n 0, 1), (24, .getfield 64, 3), (27, .aload_n 3, 1),
  (28, .iload_n 2, 1), (29, .invokevirtual 297, 3), (32, .ireturn, 1)]
def cd_177 : List zSem := [sP (fAld 0), sRR (gFR 704), sP (fIld 1), sCR 141 2 (some 9) 2, sP (fAst 3), sP (fAld 3),
  sBr (cN (fun r => r.isNone)) 11, sP (fAld 3), sP (fIld 2), sCI 41 2 (some 2) 2, sBr (c1 (zc0 .ne)) 13, sP (fCon (-1)),
  sRet rI, sP (fAld 0), sRR (gFR 711), sP (fAld 3), sP (fIld 2), sCI 106 3 (some 6) 7,
  sRet rI]
set_option maxRecDepth 100000 in
theorem ck_177 : in_177.map (fun q => zsem zTb (zlk zPl_11) (ztg in_177 q.1) false q.2.1) = cd_177.map some := rfl
/-- Main_chords -/
def in_178 : List zIns := [(0, .aload_n 0, 1), (1, .getfield 10, 3), (4, .iload_n 1, 1), (5, .invokevirtual 101, 3), (8, .astore 4, 2), (10, .aload 4, 2), (12, .ifnull 21, 3), (15, .aload 4, 2),
  (17, .iload_n 2, 1), (18, .invokevirtual 155, 3), (21, .ifCond .eq 12, 3), (24, .aload 4, 2), (26, .iload_n 3, 1), (27, .invokevirtual 158, 3), (30, .ifCond .ne 5, 3), (33, .iconst (-1), 1),
  (34, .ireturn, 1), (35, .aload_n 0, 1), (36, .getfield 64, 3), (39, .aload 4, 2), (41, .iload_n 2, 1), (42, .iload_n 3, 1), (43, .invokevirtual 300, 3), (46, .ireturn, 1)]
def cd_178 : List zSem := [sP (fAld 0), sRR (gFR 704), sP (fIld 1), sCR 141 2 (some 9) 2, sP (fAst 4), sP (fAld 4),
  sBr (cN (fun r => r.isNone)) 15, sP (fAld 4), sP (fIld 2), sCI 40 2 (some 2) 2, sBr (c1 (zc0 .eq)) 15, sP (fAld 4),
  sP (fIld 3), sCI 41 2 (some 2) 2, sBr (c1 (zc0 .ne)) 17, sP (fCon (-1)), sRet rI, sP (fAld 0),
  sRR (gFR 711), sP (fAld 4), sP (fIld 2), sP (fIld 3), sCI 108 4 (some 6) 6, sRet rI]
set_option maxRecDepth 100000 in
theorem ck_178 : in_178.map (fun q => zsem zTb (zlk zPl_11) (ztg in_178 q.1) false q.2.1) = cd_178.map some := rfl
/-- Main_twins -/
def in_179 : List zIns := [(0, .aload_n 0, 1), (1, .getfield 10, 3), (4, .iload_n 1, 1), (5, .invokevirtual 101, 3), (8, .astore_n 3, 1), (9, .aload_n 3, 1), (10, .ifnull 12, 3), (13, .iload_n 2, 1),
  (14, .ifCond .lt 8, 3), (17, .iload_n 2, 1), (18, .iconst 2, 1), (19, .if_icmp .le 5, 3), (22, .iconst (-1), 1), (23, .ireturn, 1), (24, .iload_n 2, 1), (25, .ifCond .ne 12, 3),
  (28, .aload_n 0, 1), (29, .getfield 64, 3), (32, .aload_n 3, 1), (33, .invokevirtual 303, 3), (36, .ireturn, 1), (37, .aload_n 0, 1), (38, .getfield 64, 3), (41, .aload_n 3, 1),
  (42, .invokevirtual 306, 3), (45, .istore 4, 2), (47, .iload_n 2, 1), (48, .iconst 1, 1), (49, .if_icmp .ne 16, 3), (52, .aload_n 0, 1), (53, .getfield 64, 3), (56, .aload_n 3, 1),
  (57, .iload 4, 2), (59, .invokevirtual 309, 3), (62, .goto 5, 3), (65, .iload 4, 2), (67, .ireturn, 1)]
def cd_179 : List zSem := [sP (fAld 0), sRR (gFR 704), sP (fIld 1), sCR 141 2 (some 9) 2, sP (fAst 3), sP (fAld 3),
  sBr (cN (fun r => r.isNone)) 12, sP (fIld 2), sBr (c1 (zc0 .lt)) 12, sP (fIld 2), sP (fCon 2), sBr (c2 (zcI .le)) 14,
  sP (fCon (-1)), sRet rI, sP (fIld 2), sBr (c1 (zc0 .ne)) 21, sP (fAld 0), sRR (gFR 711),
  sP (fAld 3), sCI 109 2 (some 6) 5, sRet rI, sP (fAld 0), sRR (gFR 711), sP (fAld 3),
  sCI 112 2 (some 6) 4, sP (fIst 4), sP (fIld 2), sP (fCon 1), sBr (c2 (zcI .ne)) 35, sP (fAld 0),
  sRR (gFR 711), sP (fAld 3), sP (fIld 4), sCI 111 3 (some 6) 5, sGo 36, sP (fIld 4),
  sRet rI]
set_option maxRecDepth 100000 in
theorem ck_179 : in_179.map (fun q => zsem zTb (zlk zPl_11) (ztg in_179 q.1) false q.2.1) = cd_179.map some := rfl
/-- Main_fairest -/
def in_180 : List zIns := [(0, .aload_n 0, 1), (1, .getfield 10, 3), (4, .iload_n 1, 1), (5, .invokevirtual 101, 3), (8, .astore 4, 2), (10, .aload 4, 2), (12, .ifnull 10, 3), (15, .iload_n 2, 1),
  (16, .invokestatic 141, 3), (19, .ifCond .ne 5, 3), (22, .iconst (-1), 1), (23, .ireturn, 1), (24, .aload_n 0, 1), (25, .getfield 64, 3), (28, .aload 4, 2), (30, .iconst 0, 1),
  (31, .invokevirtual 192, 3), (34, .aload_n 0, 1), (35, .getfield 64, 3), (38, .aload 4, 2), (40, .iload_n 2, 1), (41, .invokevirtual 312, 3), (44, .istore 5, 2), (46, .iload_n 3, 1),
  (47, .ifCond .eq 18, 3), (50, .aload_n 0, 1), (51, .getfield 64, 3), (54, .aload 4, 2), (56, .iload 5, 2), (58, .iload_n 2, 1), (59, .invokevirtual 315, 3), (62, .goto 5, 3),
  (65, .iload 5, 2), (67, .ireturn, 1)]
def cd_180 : List zSem := [sP (fAld 0), sRR (gFR 704), sP (fIld 1), sCR 141 2 (some 9) 2, sP (fAst 4), sP (fAld 4),
  sBr (cN (fun r => r.isNone)) 10, sP (fIld 2), sCI 191 1 none 1, sBr (c1 (zc0 .ne)) 12, sP (fCon (-1)), sRet rI,
  sP (fAld 0), sRR (gFR 711), sP (fAld 4), sP (fCon 0), sCV 94 3 (some 6) 6, sP (fAld 0),
  sRR (gFR 711), sP (fAld 4), sP (fIld 2), sCI 114 3 (some 6) 5, sP (fIst 5), sP (fIld 3),
  sBr (c1 (zc0 .eq)) 32, sP (fAld 0), sRR (gFR 711), sP (fAld 4), sP (fIld 5), sP (fIld 2),
  sCI 113 4 (some 6) 6, sGo 33, sP (fIld 5), sRet rI]
set_option maxRecDepth 100000 in
theorem ck_180 : in_180.map (fun q => zsem zTb (zlk zPl_11) (ztg in_180 q.1) false q.2.1) = cd_180.map some := rfl
/-- Main_after -/
def in_181 : List zIns := [(0, .aload_n 0, 1), (1, .getfield 10, 3), (4, .iload_n 1, 1), (5, .invokevirtual 101, 3), (8, .astore 4, 2), (10, .aload_n 0, 1), (11, .getfield 10, 3), (14, .iload_n 2, 1),
  (15, .invokevirtual 122, 3), (18, .astore 5, 2), (20, .aload 4, 2), (22, .ifnull 8, 3), (25, .aload 5, 2), (27, .ifnonnull 6, 3), (30, .bipush (-2), 2), (32, .ireturn, 1),
  (33, .aload_n 0, 1), (34, .getfield 36, 3), (37, .aload 4, 2), (39, .aload 5, 2), (41, .aload 5, 2), (43, .getfield 130, 3), (46, .invokevirtual 131, 3), (49, .iload_n 3, 1),
  (50, .tableswitch 64 0 3 #[30, 38, 46, 54], 30), (80, .aload_n 0, 1), (81, .getfield 36, 3), (84, .getfield 318, 3), (87, .ireturn, 1), (88, .aload_n 0, 1), (89, .getfield 36, 3), (92, .invokevirtual 321, 3),
  (95, .ireturn, 1), (96, .aload_n 0, 1), (97, .getfield 36, 3), (100, .invokevirtual 324, 3), (103, .ireturn, 1), (104, .aload_n 0, 1), (105, .getfield 36, 3), (108, .aload 4, 2),
  (110, .invokevirtual 327, 3), (113, .ireturn, 1), (114, .bipush (-2), 2), (116, .ireturn, 1)]
def cd_181 : List zSem := [sP (fAld 0), sRR (gFR 704), sP (fIld 1), sCR 141 2 (some 9) 2, sP (fAst 4), sP (fAld 0),
  sRR (gFR 704), sP (fIld 2), sCR 142 2 (some 9) 2, sP (fAst 5), sP (fAld 4), sBr (cN (fun r => r.isNone)) 14,
  sP (fAld 5), sBr (cN (fun r => r.isSome)) 16, sP (fCon (-2)), sRet rI, sP (fAld 0), sRR (gFR 707),
  sP (fAld 4), sP (fAld 5), sP (fAld 5), sRI (gFI 640), sCV 13 4 (some 1) 5, sP (fIld 3),
  sSw [(0, 25), (1, 29), (2, 33), (3, 37)] 42, sP (fAld 0), sRR (gFR 707), sRI (gFI 65), sRet rI, sP (fAld 0),
  sRR (gFR 707), sCI 29 1 (some 1) 1, sRet rI, sP (fAld 0), sRR (gFR 707), sCI 30 1 (some 1) 1,
  sRet rI, sP (fAld 0), sRR (gFR 707), sP (fAld 4), sCI 32 2 (some 1) 4, sRet rI,
  sP (fCon (-2)), sRet rI]
set_option maxRecDepth 100000 in
theorem ck_181 : in_181.map (fun q => zsem zTb (zlk zPl_11) (ztg in_181 q.1) false q.2.1) = cd_181.map some := rfl
/-- Main_odds -/
def in_182 : List zIns := [(0, .aload_n 0, 1), (1, .getfield 10, 3), (4, .iload_n 1, 1), (5, .invokevirtual 101, 3), (8, .astore 7, 2), (10, .aload_n 0, 1), (11, .getfield 10, 3), (14, .iload_n 2, 1),
  (15, .invokevirtual 207, 3), (18, .astore 8, 2), (20, .aload 7, 2), (22, .ifnull 18, 3), (25, .aload 8, 2), (27, .ifnull 13, 3), (30, .aload 7, 2), (32, .aload 8, 2),
  (34, .invokevirtual 214, 3), (37, .ifCond .ne 7, 3), (40, .ldc2_w 244, 3), (43, .lreturn, 1), (44, .aload 7, 2), (46, .iload_n 3, 1), (47, .invokevirtual 155, 3), (50, .ifCond .eq 21, 3),
  (53, .aload 7, 2), (55, .iload 4, 2), (57, .invokevirtual 158, 3), (60, .ifCond .eq 11, 3), (63, .iload 5, 2), (65, .invokestatic 141, 3), (68, .ifCond .ne 7, 3), (71, .ldc2_w 244, 3),
  (74, .lreturn, 1), (75, .aload_n 0, 1), (76, .getfield 57, 3), (79, .aload 7, 2), (81, .aload 8, 2), (83, .invokevirtual 218, 3), (86, .aload_n 0, 1), (87, .getfield 57, 3),
  (90, .aload 7, 2), (92, .aload 8, 2), (94, .getfield 233, 3), (97, .iload_n 3, 1), (98, .iload 4, 2), (100, .iload 5, 2), (102, .invokevirtual 330, 3), (105, .istore 9, 2),
  (107, .iload 9, 2), (109, .i2l, 1), (110, .aload_n 0, 1), (111, .getfield 57, 3), (114, .getfield 222, 3), (117, .i2l, 1), (118, .iload 6, 2), (120, .invokestatic 256, 3),
  (123, .lreturn, 1)]
def cd_182 : List zSem := [sP (fAld 0), sRR (gFR 704), sP (fIld 1), sCR 141 2 (some 9) 2, sP (fAst 7), sP (fAld 0),
  sRR (gFR 704), sP (fIld 2), sCR 143 2 (some 9) 2, sP (fAst 8), sP (fAld 7), sBr (cN (fun r => r.isNone)) 18,
  sP (fAld 8), sBr (cN (fun r => r.isNone)) 18, sP (fAld 7), sP (fAld 8), sCI 43 2 (some 2) 3, sBr (c1 (zc0 .ne)) 20,
  sP (fLon (-1)), sRet rL, sP (fAld 7), sP (fIld 3), sCI 40 2 (some 2) 2, sBr (c1 (zc0 .eq)) 31,
  sP (fAld 7), sP (fIld 4), sCI 41 2 (some 2) 2, sBr (c1 (zc0 .eq)) 31, sP (fIld 5), sCI 191 1 none 1,
  sBr (c1 (zc0 .ne)) 33, sP (fLon (-1)), sRet rL, sP (fAld 0), sRR (gFR 710), sP (fAld 7),
  sP (fAld 8), sCV 124 3 (some 7) 4, sP (fAld 0), sRR (gFR 710), sP (fAld 7), sP (fAld 8),
  sRI (gFI 192), sP (fIld 3), sP (fIld 4), sP (fIld 5), sCI 133 6 (some 7) 8, sP (fIst 9),
  sP (fIld 9), sP fIL, sP (fAld 0), sRR (gFR 710), sRI (gFI 448), sP fIL,
  sP (fIld 6), sCL 198 3 none 12, sRet rL]
set_option maxRecDepth 100000 in
theorem ck_182 : in_182.map (fun q => zsem zTb (zlk zPl_11) (ztg in_182 q.1) false q.2.1) = cd_182.map some := rfl
/-- Main_owns -/
def in_183 : List zIns := [(0, .aload_n 0, 1), (1, .getfield 10, 3), (4, .iload_n 1, 1), (5, .invokevirtual 101, 3), (8, .astore 4, 2), (10, .aload 4, 2), (12, .ifnull 28, 3), (15, .iload_n 3, 1),
  (16, .ifCond .eq 15, 3), (19, .aload 4, 2), (21, .iload_n 2, 1), (22, .invokevirtual 172, 3), (25, .ifCond .eq 15, 3), (28, .goto 15, 3), (31, .aload 4, 2), (33, .iload_n 2, 1),
  (34, .invokevirtual 155, 3), (37, .ifCond .ne 6, 3), (40, .bipush (-2), 2), (42, .ireturn, 1), (43, .aload_n 0, 1), (44, .getfield 64, 3), (47, .aload 4, 2), (49, .invokevirtual 333, 3),
  (52, .iload_n 3, 1), (53, .ifCond .eq 16, 3), (56, .aload_n 0, 1), (57, .getfield 64, 3), (60, .aload 4, 2), (62, .iload_n 2, 1), (63, .invokevirtual 337, 3), (66, .goto 12, 3),
  (69, .aload_n 0, 1), (70, .getfield 64, 3), (73, .getfield 340, 3), (76, .iload_n 2, 1), (77, .iaload, 1), (78, .ireturn, 1)]
def cd_183 : List zSem := [sP (fAld 0), sRR (gFR 704), sP (fIld 1), sCR 141 2 (some 9) 2, sP (fAst 4), sP (fAld 4),
  sBr (cN (fun r => r.isNone)) 18, sP (fIld 3), sBr (c1 (zc0 .eq)) 14, sP (fAld 4), sP (fIld 2), sCI 39 2 (some 2) 2,
  sBr (c1 (zc0 .eq)) 18, sGo 20, sP (fAld 4), sP (fIld 2), sCI 40 2 (some 2) 2, sBr (c1 (zc0 .ne)) 20,
  sP (fCon (-2)), sRet rI, sP (fAld 0), sRR (gFR 711), sP (fAld 4), sCV 115 2 (some 6) 7,
  sP (fIld 3), sBr (c1 (zc0 .eq)) 32, sP (fAld 0), sRR (gFR 711), sP (fAld 4), sP (fIld 2),
  sCI 118 3 (some 6) 4, sGo 37, sP (fAld 0), sRR (gFR 711), sRR (gFR 385), sP (fIld 2),
  sRI gAI, sRet rI]
set_option maxRecDepth 100000 in
theorem ck_183 : in_183.map (fun q => zsem zTb (zlk zPl_11) (ztg in_183 q.1) false q.2.1) = cd_183.map some := rfl
/-- Main_wets -/
def in_184 : List zIns := [(0, .aload_n 0, 1), (1, .getfield 10, 3), (4, .iload_n 1, 1), (5, .invokevirtual 101, 3), (8, .astore_n 3, 1), (9, .aload_n 3, 1), (10, .ifnull 11, 3), (13, .aload_n 3, 1),
  (14, .iload_n 2, 1), (15, .invokevirtual 172, 3), (18, .ifCond .ne 5, 3), (21, .iconst (-1), 1), (22, .ireturn, 1), (23, .aload_n 0, 1), (24, .getfield 64, 3), (27, .aload_n 3, 1),
  (28, .iload_n 2, 1), (29, .invokevirtual 343, 3), (32, .ireturn, 1)]
def cd_184 : List zSem := [sP (fAld 0), sRR (gFR 704), sP (fIld 1), sCR 141 2 (some 9) 2, sP (fAst 3), sP (fAld 3),
  sBr (cN (fun r => r.isNone)) 11, sP (fAld 3), sP (fIld 2), sCI 39 2 (some 2) 2, sBr (c1 (zc0 .ne)) 13, sP (fCon (-1)),
  sRet rI, sP (fAld 0), sRR (gFR 711), sP (fAld 3), sP (fIld 2), sCI 119 3 (some 6) 5,
  sRet rI]
set_option maxRecDepth 100000 in
theorem ck_184 : in_184.map (fun q => zsem zTb (zlk zPl_11) (ztg in_184 q.1) false q.2.1) = cd_184.map some := rfl
/-- Main_clearest -/
def in_185 : List zIns := [(0, .aload_n 0, 1), (1, .getfield 10, 3), (4, .iload_n 1, 1), (5, .invokevirtual 101, 3), (8, .astore 4, 2), (10, .aload 4, 2), (12, .ifnull 12, 3), (15, .aload 4, 2),
  (17, .iload_n 2, 1), (18, .invokevirtual 158, 3), (21, .ifCond .ne 6, 3), (24, .bipush (-2), 2), (26, .ireturn, 1), (27, .aload_n 0, 1), (28, .getfield 64, 3), (31, .aload 4, 2),
  (33, .iload_n 2, 1), (34, .invokevirtual 346, 3), (37, .istore 5, 2), (39, .iload_n 3, 1), (40, .ifCond .ne 6, 3), (43, .iload 5, 2), (45, .ireturn, 1), (46, .iload 5, 2),
  (48, .iconst (-1), 1), (49, .if_icmp .ne 7, 3), (52, .iconst 0, 1), (53, .goto 15, 3), (56, .aload_n 0, 1), (57, .getfield 64, 3), (60, .aload 4, 2), (62, .iload 5, 2),
  (64, .iload_n 2, 1), (65, .invokevirtual 349, 3), (68, .ireturn, 1)]
def cd_185 : List zSem := [sP (fAld 0), sRR (gFR 704), sP (fIld 1), sCR 141 2 (some 9) 2, sP (fAst 4), sP (fAld 4),
  sBr (cN (fun r => r.isNone)) 11, sP (fAld 4), sP (fIld 2), sCI 41 2 (some 2) 2, sBr (c1 (zc0 .ne)) 13, sP (fCon (-2)),
  sRet rI, sP (fAld 0), sRR (gFR 711), sP (fAld 4), sP (fIld 2), sCI 122 3 (some 6) 7,
  sP (fIst 5), sP (fIld 3), sBr (c1 (zc0 .ne)) 23, sP (fIld 5), sRet rI, sP (fIld 5),
  sP (fCon (-1)), sBr (c2 (zcI .ne)) 28, sP (fCon 0), sGo 34, sP (fAld 0), sRR (gFR 711),
  sP (fAld 4), sP (fIld 5), sP (fIld 2), sCI 121 4 (some 6) 8, sRet rI]
set_option maxRecDepth 100000 in
theorem ck_185 : in_185.map (fun q => zsem zTb (zlk zPl_11) (ztg in_185 q.1) false q.2.1) = cd_185.map some := rfl
/-- Main_count -/
def in_186 : List zIns := [(0, .iload_n 1, 1), (1, .invokestatic 352, 3), (4, .ifCond .eq 15, 3), (7, .aload_n 0, 1), (8, .getfield 10, 3), (11, .getfield 355, 3), (14, .iload_n 1, 1), (15, .iaload, 1),
  (16, .goto 5, 3), (19, .bipush (-2), 2), (21, .ireturn, 1)]
def cd_186 : List zSem := [sP (fIld 1), sCI 190 1 none 1, sBr (c1 (zc0 .eq)) 9, sP (fAld 0), sRR (gFR 704), sRR (gFR 577),
  sP (fIld 1), sRI gAI, sGo 10, sP (fCon (-2)), sRet rI]
set_option maxRecDepth 100000 in
theorem ck_186 : in_186.map (fun q => zsem zTb (zlk zPl_11) (ztg in_186 q.1) false q.2.1) = cd_186.map some := rfl
/-- Main_image -/
def in_187 : List zIns := [(0, .iload_n 1, 1), (1, .ifCond .lt 8, 3), (4, .iload_n 1, 1), (5, .iconst 3, 1), (6, .if_icmp .lt 5, 3), (9, .iconst 0, 1), (10, .ireturn, 1), (11, .aload_n 0, 1),
  (12, .getfield 16, 3), (15, .iload_n 1, 1), (16, .aaload, 1), (17, .ifnonnull 16, 3), (20, .aload_n 0, 1), (21, .getfield 16, 3), (24, .iload_n 1, 1), (25, .new 7, 3),
  (28, .dup, 1), (29, .invokespecial 9, 3), (32, .aastore, 1), (33, .aload_n 0, 1), (34, .getfield 16, 3), (37, .iload_n 1, 1), (38, .aaload, 1), (39, .aload_n 0, 1),
  (40, .getfield 10, 3), (43, .invokevirtual 358, 3), (46, .iconst 1, 1), (47, .ireturn, 1)]
def cd_187 : List zSem := [sP (fIld 1), sBr (c1 (zc0 .lt)) 5, sP (fIld 1), sP (fCon 3), sBr (c2 (zcI .lt)) 7, sP (fCon 0),
  sRz, sP (fAld 0), sRR (gFR 705), sP (fIld 1), sRR gAR, sBr (cN (fun r => r.isSome)) 19,
  sP (fAld 0), sRR (gFR 705), sP (fIld 1), sNw (nO zTb 9), sP fDup, sCV 137 1 (some 9) 2,
  sWr wAR, sP (fAld 0), sRR (gFR 705), sP (fIld 1), sRR gAR, sP (fAld 0),
  sRR (gFR 704), sCV 138 2 (some 9) 3, sP (fCon 1), sRz]
set_option maxRecDepth 100000 in
theorem ck_187 : in_187.map (fun q => zsem zTb (zlk zPl_11) (ztg in_187 q.1) true q.2.1) = cd_187.map some := rfl
/-- Main_again -/
def in_188 : List zIns := [(0, .iload_n 1, 1), (1, .ifCond .lt 17, 3), (4, .iload_n 1, 1), (5, .iconst 3, 1), (6, .if_icmp .ge 12, 3), (9, .aload_n 0, 1), (10, .getfield 16, 3), (13, .iload_n 1, 1),
  (14, .aaload, 1), (15, .ifnonnull 5, 3), (18, .iconst 0, 1), (19, .ireturn, 1), (20, .aload_n 0, 1), (21, .getfield 10, 3), (24, .aload_n 0, 1), (25, .getfield 16, 3),
  (28, .iload_n 1, 1), (29, .aaload, 1), (30, .invokevirtual 358, 3), (33, .iconst 1, 1), (34, .ireturn, 1)]
def cd_188 : List zSem := [sP (fIld 1), sBr (c1 (zc0 .lt)) 10, sP (fIld 1), sP (fCon 3), sBr (c2 (zcI .ge)) 10, sP (fAld 0),
  sRR (gFR 705), sP (fIld 1), sRR gAR, sBr (cN (fun r => r.isSome)) 12, sP (fCon 0), sRz,
  sP (fAld 0), sRR (gFR 704), sP (fAld 0), sRR (gFR 705), sP (fIld 1), sRR gAR,
  sCV 138 2 (some 9) 3, sP (fCon 1), sRz]
set_option maxRecDepth 100000 in
theorem ck_188 : in_188.map (fun q => zsem zTb (zlk zPl_11) (ztg in_188 q.1) true q.2.1) = cd_188.map some := rfl
/-- Main_numberFor -/
def in_189 : List zIns := [(0, .iload_n 1, 1), (1, .invokestatic 352, 3), (4, .ifCond .ne 6, 3), (7, .bipush (-2), 2), (9, .ireturn, 1), (10, .iload_n 2, 1), (11, .iconst (-1), 1), (12, .if_icmp .ne 15, 3),
  (15, .aload_n 0, 1), (16, .getfield 10, 3), (19, .getfield 355, 3), (22, .iload_n 1, 1), (23, .iaload, 1), (24, .goto 4, 3), (27, .iload_n 2, 1), (28, .istore_n 3, 1),
  (29, .iload_n 2, 1), (30, .iconst (-1), 1), (31, .if_icmp .ne 7, 3), (34, .iconst 2, 1), (35, .goto 12, 3), (38, .aload_n 0, 1), (39, .getfield 10, 3), (42, .getfield 355, 3),
  (45, .iload_n 1, 1), (46, .iaload, 1), (47, .istore 4, 2), (49, .iload_n 3, 1), (50, .ifCond .lt 13, 3), (53, .iload_n 3, 1), (54, .iload 4, 2), (56, .if_icmp .ge 7, 3),
  (59, .iload_n 3, 1), (60, .goto 5, 3), (63, .bipush (-2), 2), (65, .ireturn, 1)]
def cd_189 : List zSem := [sP (fIld 1), sCI 190 1 none 1, sBr (c1 (zc0 .ne)) 5, sP (fCon (-2)), sRet rI, sP (fIld 2),
  sP (fCon (-1)), sBr (c2 (zcI .ne)) 14, sP (fAld 0), sRR (gFR 704), sRR (gFR 577), sP (fIld 1),
  sRI gAI, sGo 15, sP (fIld 2), sP (fIst 3), sP (fIld 2), sP (fCon (-1)),
  sBr (c2 (zcI .ne)) 21, sP (fCon 2), sGo 26, sP (fAld 0), sRR (gFR 704), sRR (gFR 577),
  sP (fIld 1), sRI gAI, sP (fIst 4), sP (fIld 3), sBr (c1 (zc0 .lt)) 34, sP (fIld 3),
  sP (fIld 4), sBr (c2 (zcI .ge)) 34, sP (fIld 3), sGo 35, sP (fCon (-2)), sRet rI]
set_option maxRecDepth 100000 in
theorem ck_189 : in_189.map (fun q => zsem zTb (zlk zPl_11) (ztg in_189 q.1) false q.2.1) = cd_189.map some := rfl
/-- Main_isSort -/
def in_190 : List zIns := [(0, .iload_n 0, 1), (1, .ifCond .lt 12, 3), (4, .iload_n 0, 1), (5, .iconst 3, 1), (6, .if_icmp .ge 7, 3), (9, .iconst 1, 1), (10, .goto 4, 3), (13, .iconst 0, 1),
  (14, .ireturn, 1)]
def cd_190 : List zSem := [sP (fIld 0), sBr (c1 (zc0 .lt)) 7, sP (fIld 0), sP (fCon 3), sBr (c2 (zcI .ge)) 7, sP (fCon 1),
  sGo 8, sP (fCon 0), sRz]
set_option maxRecDepth 100000 in
theorem ck_190 : in_190.map (fun q => zsem zTb (zlk zPl_11) (ztg in_190 q.1) true q.2.1) = cd_190.map some := rfl
/-- Main_isAnswer -/
def in_191 : List zIns := [(0, .iload_n 0, 1), (1, .ifCond .lt 12, 3), (4, .iload_n 0, 1), (5, .iconst 3, 1), (6, .if_icmp .ge 7, 3), (9, .iconst 1, 1), (10, .goto 4, 3), (13, .iconst 0, 1),
  (14, .ireturn, 1)]
def cd_191 : List zSem := [sP (fIld 0), sBr (c1 (zc0 .lt)) 7, sP (fIld 0), sP (fCon 3), sBr (c2 (zcI .ge)) 7, sP (fCon 1),
  sGo 8, sP (fCon 0), sRz]
set_option maxRecDepth 100000 in
theorem ck_191 : in_191.map (fun q => zsem zTb (zlk zPl_11) (ztg in_191 q.1) true q.2.1) = cd_191.map some := rfl
/-- Main_within -/
def in_192 : List zIns := [(0, .iload_n 0, 1), (1, .ifCond .lt 12, 3), (4, .iload_n 0, 1), (5, .iload_n 1, 1), (6, .if_icmp .gt 7, 3), (9, .iconst 1, 1), (10, .goto 4, 3), (13, .iconst 0, 1),
  (14, .ireturn, 1)]
def cd_192 : List zSem := [sP (fIld 0), sBr (c1 (zc0 .lt)) 7, sP (fIld 0), sP (fIld 1), sBr (c2 (zcI .gt)) 7, sP (fCon 1),
  sGo 8, sP (fCon 0), sRz]
set_option maxRecDepth 100000 in
theorem ck_192 : in_192.map (fun q => zsem zTb (zlk zPl_11) (ztg in_192 q.1) true q.2.1) = cd_192.map some := rfl
/-- Main_dried -/
def in_193 : List zIns := [(0, .iconst 0, 1), (1, .iload_n 0, 1), (2, .iload_n 1, 1), (3, .isub, 1), (4, .invokestatic 362, 3), (7, .ireturn, 1)]
def cd_193 : List zSem := [sP (fCon 0), sP (fIld 0), sP (fIld 1), sP (fII (fun x y => x - y)), sP (fMM zmax), sRet rI]
set_option maxRecDepth 100000 in
theorem ck_193 : in_193.map (fun q => zsem zTb (zlk zPl_11) (ztg in_193 q.1) false q.2.1) = cd_193.map some := rfl
/-- Main_wetted -/
def in_194 : List zIns := [(0, .bipush 9, 2), (2, .iload_n 0, 1), (3, .iconst 3, 1), (4, .iadd, 1), (5, .invokestatic 367, 3), (8, .ireturn, 1)]
def cd_194 : List zSem := [sP (fCon 9), sP (fIld 0), sP (fCon 3), sP (fII (fun x y => x + y)), sP (fMM zmin), sRet rI]
set_option maxRecDepth 100000 in
theorem ck_194 : in_194.map (fun q => zsem zTb (zlk zPl_11) (ztg in_194 q.1) false q.2.1) = cd_194.map some := rfl
/-- Main_areOpposed -/
def in_195 : List zIns := [(0, .iload_n 0, 1), (1, .iconst 1, 1), (2, .if_icmp .ne 7, 3), (5, .iload_n 1, 1), (6, .ifCond .eq 12, 3), (9, .iload_n 0, 1), (10, .ifCond .ne 12, 3), (13, .iload_n 1, 1),
  (14, .iconst 1, 1), (15, .if_icmp .ne 7, 3), (18, .iconst 1, 1), (19, .goto 4, 3), (22, .iconst 0, 1), (23, .ireturn, 1)]
def cd_195 : List zSem := [sP (fIld 0), sP (fCon 1), sBr (c2 (zcI .ne)) 5, sP (fIld 1), sBr (c1 (zc0 .eq)) 10, sP (fIld 0),
  sBr (c1 (zc0 .ne)) 12, sP (fIld 1), sP (fCon 1), sBr (c2 (zcI .ne)) 12, sP (fCon 1), sGo 13,
  sP (fCon 0), sRz]
set_option maxRecDepth 100000 in
theorem ck_195 : in_195.map (fun q => zsem zTb (zlk zPl_11) (ztg in_195 q.1) true q.2.1) = cd_195.map some := rfl
/-- Main_power -/
def in_196 : List zIns := [(0, .lconst 1, 1), (1, .lstore_n 3, 1), (2, .iconst 0, 1), (3, .istore 5, 2), (5, .iload 5, 2), (7, .iload_n 2, 1), (8, .if_icmp .ge 13, 3), (11, .lload_n 3, 1),
  (12, .lload_n 0, 1), (13, .lmul, 1), (14, .lstore_n 3, 1), (15, .iinc 5 1, 3), (18, .goto (-13), 3), (21, .lload_n 3, 1), (22, .lreturn, 1)]
def cd_196 : List zSem := [sP (fLon 1), sP (fLst 3), sP (fCon 0), sP (fIst 5), sP (fIld 5), sP (fIld 2),
  sBr (c2 (zcI .ge)) 13, sP (fLld 3), sP (fLld 0), sP (fLL (fun x y => x * y)), sP (fLst 3), sP (fInc 5 1),
  sGo 4, sP (fLld 3), sRet rL]
set_option maxRecDepth 100000 in
theorem ck_196 : in_196.map (fun q => zsem zTb (zlk zPl_11) (ztg in_196 q.1) false q.2.1) = cd_196.map some := rfl
/-- Main_choose -/
def in_197 : List zIns := [(0, .lconst 1, 1), (1, .lstore_n 2, 1), (2, .iconst 0, 1), (3, .istore 4, 2), (5, .iload 4, 2), (7, .iload_n 1, 1), (8, .if_icmp .ge 23, 3), (11, .lload_n 2, 1),
  (12, .iload_n 0, 1), (13, .iload 4, 2), (15, .isub, 1), (16, .i2l, 1), (17, .lmul, 1), (18, .iload 4, 2), (20, .iconst 1, 1), (21, .iadd, 1),
  (22, .i2l, 1), (23, .ldiv, 1), (24, .lstore_n 2, 1), (25, .iinc 4 1, 3), (28, .goto (-23), 3), (31, .lload_n 2, 1), (32, .lreturn, 1)]
def cd_197 : List zSem := [sP (fLon 1), sP (fLst 2), sP (fCon 0), sP (fIst 4), sP (fIld 4), sP (fIld 1),
  sBr (c2 (zcI .ge)) 21, sP (fLld 2), sP (fIld 0), sP (fIld 4), sP (fII (fun x y => x - y)), sP fIL,
  sP (fLL (fun x y => x * y)), sP (fIld 4), sP (fCon 1), sP (fII (fun x y => x + y)), sP fIL, sDL (fun x y => x / y),
  sP (fLst 2), sP (fInc 4 1), sGo 4, sP (fLld 2), sRet rL]
set_option maxRecDepth 100000 in
theorem ck_197 : in_197.map (fun q => zsem zTb (zlk zPl_11) (ztg in_197 q.1) false q.2.1) = cd_197.map some := rfl
/-- Main_leastTerm -/
def in_198 : List zIns := [(0, .lload_n 2, 1), (1, .lconst 0, 1), (2, .lcmp, 1), (3, .ifCond .gt 7, 3), (6, .ldc2_w 244, 3), (9, .lreturn, 1), (10, .lload_n 2, 1), (11, .lstore 5, 2),
  (13, .lload_n 0, 1), (14, .lstore 7, 2), (16, .iconst 0, 1), (17, .istore 9, 2), (19, .iload 9, 2), (21, .bipush 100, 2), (23, .if_icmp .ge 31, 3), (26, .lload 7, 2),
  (28, .lconst 0, 1), (29, .lcmp, 1), (30, .ifCond .eq 24, 3), (33, .lload 5, 2), (35, .lload 7, 2), (37, .lrem, 1), (38, .lstore 10, 2), (40, .lload 7, 2),
  (42, .lstore 5, 2), (44, .lload 10, 2), (46, .lstore 7, 2), (48, .iinc 9 1, 3), (51, .goto (-32), 3), (54, .lload 5, 2), (56, .lconst 0, 1), (57, .lcmp, 1),
  (58, .ifCond .ne 9, 3), (61, .ldc2_w 244, 3), (64, .goto 16, 3), (67, .iload 4, 2), (69, .ifCond .eq 7, 3), (72, .lload_n 2, 1), (73, .goto 4, 3), (76, .lload_n 0, 1),
  (77, .lload 5, 2), (79, .ldiv, 1), (80, .lreturn, 1)]
def cd_198 : List zSem := [sP (fLld 2), sP (fLon 0), sP fLc, sBr (c1 (zc0 .gt)) 6, sP (fLon (-1)), sRet rL,
  sP (fLld 2), sP (fLst 5), sP (fLld 0), sP (fLst 7), sP (fCon 0), sP (fIst 9),
  sP (fIld 9), sP (fCon 100), sBr (c2 (zcI .ge)) 29, sP (fLld 7), sP (fLon 0), sP fLc,
  sBr (c1 (zc0 .eq)) 29, sP (fLld 5), sP (fLld 7), sDL zremL, sP (fLst 10), sP (fLld 7),
  sP (fLst 5), sP (fLld 10), sP (fLst 7), sP (fInc 9 1), sGo 12, sP (fLld 5),
  sP (fLon 0), sP fLc, sBr (c1 (zc0 .ne)) 35, sP (fLon (-1)), sGo 42, sP (fIld 4),
  sBr (c1 (zc0 .eq)) 39, sP (fLld 2), sGo 40, sP (fLld 0), sP (fLld 5), sDL (fun x y => x / y),
  sRet rL]
set_option maxRecDepth 100000 in
theorem ck_198 : in_198.map (fun q => zsem zTb (zlk zPl_11) (ztg in_198 q.1) false q.2.1) = cd_198.map some := rfl
/-- Model_init -/
def in_199 : List zIns := [(0, .aload_n 0, 1), (1, .invokespecial 1, 3), (4, .aload_n 0, 1), (5, .sipush 4920, 3), (8, .newarray .int, 2), (10, .putfield 7, 3), (13, .aload_n 0, 1), (14, .iconst 3, 1),
  (15, .newarray .boolean, 2), (17, .putfield 13, 3), (20, .aload_n 0, 1), (21, .sipush 241, 3), (24, .newarray .int, 2), (26, .putfield 17, 3), (29, .aload_n 0, 1), (30, .sipush 800, 3),
  (33, .newarray .int, 2), (35, .putfield 20, 3), (38, .aload_n 0, 1), (39, .sipush 576, 3), (42, .newarray .int, 2), (44, .putfield 23, 3), (47, .aload_n 0, 1), (48, .sipush 256, 3),
  (51, .newarray .int, 2), (53, .putfield 26, 3), (56, .aload_n 0, 1), (57, .sipush 256, 3), (60, .newarray .int, 2), (62, .putfield 29, 3), (65, .aload_n 0, 1), (66, .bipush 6, 2),
  (68, .newarray .int, 2), (70, .putfield 32, 3), (73, .aload_n 0, 1), (74, .iconst 4, 1), (75, .newarray .int, 2), (77, .putfield 35, 3), (80, .aload_n 0, 1), (81, .bipush 6, 2),
  (83, .newarray .int, 2), (85, .putfield 38, 3), (88, .aload_n 0, 1), (89, .bipush 6, 2), (91, .newarray .int, 2), (93, .putfield 41, 3), (96, .aload_n 0, 1), (97, .iconst 4, 1),
  (98, .newarray .int, 2), (100, .putfield 44, 3), (103, .aload_n 0, 1), (104, .bipush 8, 2), (106, .newarray .int, 2), (108, .putfield 47, 3), (111, .aload_n 0, 1), (112, .bipush 8, 2),
  (114, .newarray .int, 2), (116, .putfield 50, 3), (119, .aload_n 0, 1), (120, .bipush 8, 2), (122, .newarray .int, 2), (124, .putfield 53, 3), (127, .aload_n 0, 1), (128, .bipush 9, 2),
  (130, .newarray .int, 2), (132, .putfield 56, 3), (135, .aload_n 0, 1), (136, .getfield 7, 3), (139, .bipush 6, 2), (141, .iconst (-1), 1), (142, .iastore, 1), (143, .return_, 1)]
def cd_199 : List zSem := [sP (fAld 0), sP fObj, sP (fAld 0), sP (fCon 4920), sNA (znA 0), sWr (wFR 768),
  sP (fAld 0), sP (fCon 3), sNA (znA 2), sWr (wFR 769), sP (fAld 0), sP (fCon 241),
  sNA (znA 0), sWr (wFR 777), sP (fAld 0), sP (fCon 800), sNA (znA 0), sWr (wFR 785),
  sP (fAld 0), sP (fCon 576), sNA (znA 0), sWr (wFR 786), sP (fAld 0), sP (fCon 256),
  sNA (znA 0), sWr (wFR 787), sP (fAld 0), sP (fCon 256), sNA (znA 0), sWr (wFR 789),
  sP (fAld 0), sP (fCon 6), sNA (znA 0), sWr (wFR 790), sP (fAld 0), sP (fCon 4),
  sNA (znA 0), sWr (wFR 791), sP (fAld 0), sP (fCon 6), sNA (znA 0), sWr (wFR 802),
  sP (fAld 0), sP (fCon 6), sNA (znA 0), sWr (wFR 803), sP (fAld 0), sP (fCon 4),
  sNA (znA 0), sWr (wFR 804), sP (fAld 0), sP (fCon 8), sNA (znA 0), sWr (wFR 805),
  sP (fAld 0), sP (fCon 8), sNA (znA 0), sWr (wFR 806), sP (fAld 0), sP (fCon 8),
  sNA (znA 0), sWr (wFR 807), sP (fAld 0), sP (fCon 9), sNA (znA 0), sWr (wFR 809),
  sP (fAld 0), sRR (gFR 768), sP (fCon 6), sP (fCon (-1)), sWr wAI, sRet rV]
set_option maxRecDepth 100000 in
theorem ck_199 : in_199.map (fun q => zsem zTb (zlk zPl_12) (ztg in_199 q.1) false q.2.1) = cd_199.map some := rfl
/-- Model_isIn -/
def in_200 : List zIns := [(0, .iload_n 0, 1), (1, .iload_n 1, 1), (2, .if_icmp .lt 12, 3), (5, .iload_n 0, 1), (6, .iload_n 2, 1), (7, .if_icmp .gt 7, 3), (10, .iconst 1, 1), (11, .goto 4, 3),
  (14, .iconst 0, 1), (15, .ireturn, 1)]
def cd_200 : List zSem := [sP (fIld 0), sP (fIld 1), sBr (c2 (zcI .lt)) 8, sP (fIld 0), sP (fIld 2), sBr (c2 (zcI .gt)) 8,
  sP (fCon 1), sGo 9, sP (fCon 0), sRz]
set_option maxRecDepth 100000 in
theorem ck_200 : in_200.map (fun q => zsem zTb (zlk zPl_12) (ztg in_200 q.1) true q.2.1) = cd_200.map some := rfl
/-- Model_feed -/
def in_201 : List zIns := [(0, .aload_n 0, 1), (1, .getfield 7, 3), (4, .iconst 4, 1), (5, .iaload, 1), (6, .bipush 20, 2), (8, .iadd, 1), (9, .sipush 600, 3), (12, .if_icmp .le 5, 3),
  (15, .iconst (-1), 1), (16, .ireturn, 1), (17, .iconst 0, 1), (18, .istore 6, 2), (20, .iload 6, 2), (22, .bipush 20, 2), (24, .if_icmp .ge 98, 3), (27, .iload 6, 2),
  (29, .iconst 4, 1), (30, .if_icmp .ge 7, 3), (33, .iload_n 1, 1), (34, .goto 39, 3), (37, .iload 6, 2), (39, .bipush 8, 2), (41, .if_icmp .ge 7, 3), (44, .iload_n 2, 1),
  (45, .goto 28, 3), (48, .iload 6, 2), (50, .bipush 12, 2), (52, .if_icmp .ge 7, 3), (55, .iload_n 3, 1), (56, .goto 17, 3), (59, .iload 6, 2), (61, .bipush 16, 2),
  (63, .if_icmp .ge 8, 3), (66, .iload 4, 2), (68, .goto 5, 3), (71, .iload 5, 2), (73, .istore 7, 2), (75, .aload_n 0, 1), (76, .getfield 7, 3), (79, .bipush 10, 2),
  (81, .aload_n 0, 1), (82, .getfield 7, 3), (85, .iconst 4, 1), (86, .iaload, 1), (87, .iadd, 1), (88, .iload 7, 2), (90, .bipush 24, 2), (92, .bipush 8, 2),
  (94, .iload 6, 2), (96, .iconst 4, 1), (97, .irem, 1), (98, .imul, 1), (99, .isub, 1), (100, .ishr, 1), (101, .sipush 255, 3), (104, .iand, 1),
  (105, .iastore, 1), (106, .aload_n 0, 1), (107, .getfield 7, 3), (110, .iconst 4, 1), (111, .dup2, 1), (112, .iaload, 1), (113, .iconst 1, 1), (114, .iadd, 1),
  (115, .iastore, 1), (116, .iinc 6 1, 3), (119, .goto (-99), 3), (122, .aload_n 0, 1), (123, .getfield 7, 3), (126, .iconst 4, 1), (127, .iaload, 1), (128, .ireturn, 1)]
def cd_201 : List zSem := [sP (fAld 0), sRR (gFR 768), sP (fCon 4), sRI gAI, sP (fCon 20), sP (fII (fun x y => x + y)),
  sP (fCon 600), sBr (c2 (zcI .le)) 10, sP (fCon (-1)), sRet rI, sP (fCon 0), sP (fIst 6),
  sP (fIld 6), sP (fCon 20), sBr (c2 (zcI .ge)) 67, sP (fIld 6), sP (fCon 4), sBr (c2 (zcI .ge)) 20,
  sP (fIld 1), sGo 36, sP (fIld 6), sP (fCon 8), sBr (c2 (zcI .ge)) 25, sP (fIld 2),
  sGo 36, sP (fIld 6), sP (fCon 12), sBr (c2 (zcI .ge)) 30, sP (fIld 3), sGo 36,
  sP (fIld 6), sP (fCon 16), sBr (c2 (zcI .ge)) 35, sP (fIld 4), sGo 36, sP (fIld 5),
  sP (fIst 7), sP (fAld 0), sRR (gFR 768), sP (fCon 10), sP (fAld 0), sRR (gFR 768),
  sP (fCon 4), sRI gAI, sP (fII (fun x y => x + y)), sP (fIld 7), sP (fCon 24), sP (fCon 8),
  sP (fIld 6), sP (fCon 4), sRI (gDiv zrem), sP (fII (fun x y => x * y)), sP (fII (fun x y => x - y)), sP (fII zshr),
  sP (fCon 255), sP (fII (fun x y => x &&& y)), sWr wAI, sP (fAld 0), sRR (gFR 768), sP (fCon 4),
  sP fDup2, sRI gAI, sP (fCon 1), sP (fII (fun x y => x + y)), sWr wAI, sP (fInc 6 1),
  sGo 12, sP (fAld 0), sRR (gFR 768), sP (fCon 4), sRI gAI, sRet rI]
set_option maxRecDepth 100000 in
theorem ck_201 : in_201.map (fun q => zsem zTb (zlk zPl_12) (ztg in_201 q.1) false q.2.1) = cd_201.map some := rfl
/-- Model_end -/
def in_202 : List zIns := [(0, .iload_n 1, 1), (1, .ifCond .lt 13, 3), (4, .iload_n 1, 1), (5, .aload_n 0, 1), (6, .getfield 7, 3), (9, .iconst 4, 1), (10, .iaload, 1), (11, .if_icmp .le 5, 3),
  (14, .iconst (-1), 1), (15, .ireturn, 1), (16, .aload_n 0, 1), (17, .getfield 7, 3), (20, .iconst 4, 1), (21, .iload_n 1, 1), (22, .iastore, 1), (23, .iload_n 1, 1),
  (24, .ireturn, 1)]
def cd_202 : List zSem := [sP (fIld 1), sBr (c1 (zc0 .lt)) 8, sP (fIld 1), sP (fAld 0), sRR (gFR 768), sP (fCon 4),
  sRI gAI, sBr (c2 (zcI .le)) 10, sP (fCon (-1)), sRet rI, sP (fAld 0), sRR (gFR 768),
  sP (fCon 4), sP (fIld 1), sWr wAI, sP (fIld 1), sRet rI]
set_option maxRecDepth 100000 in
theorem ck_202 : in_202.map (fun q => zsem zTb (zlk zPl_12) (ztg in_202 q.1) false q.2.1) = cd_202.map some := rfl
/-- Model_byteAt -/
def in_203 : List zIns := [(0, .iload_n 1, 1), (1, .aload_n 0, 1), (2, .getfield 59, 3), (5, .if_icmp .ge 15, 3), (8, .aload_n 0, 1), (9, .getfield 7, 3), (12, .bipush 10, 2), (14, .iload_n 1, 1),
  (15, .iadd, 1), (16, .iaload, 1), (17, .goto 4, 3), (20, .iconst (-1), 1), (21, .ireturn, 1)]
def cd_203 : List zSem := [sP (fIld 1), sP (fAld 0), sRI (gFI 770), sBr (c2 (zcI .ge)) 11, sP (fAld 0), sRR (gFR 768),
  sP (fCon 10), sP (fIld 1), sP (fII (fun x y => x + y)), sRI gAI, sGo 12, sP (fCon (-1)),
  sRet rI]
set_option maxRecDepth 100000 in
theorem ck_203 : in_203.map (fun q => zsem zTb (zlk zPl_12) (ztg in_203 q.1) false q.2.1) = cd_203.map some := rfl
/-- Model_isLetter -/
def in_204 : List zIns := [(0, .iload_n 0, 1), (1, .bipush 97, 2), (3, .if_icmp .lt 13, 3), (6, .iload_n 0, 1), (7, .bipush 122, 2), (9, .if_icmp .gt 7, 3), (12, .iconst 1, 1), (13, .goto 4, 3),
  (16, .iconst 0, 1), (17, .ireturn, 1)]
def cd_204 : List zSem := [sP (fIld 0), sP (fCon 97), sBr (c2 (zcI .lt)) 8, sP (fIld 0), sP (fCon 122), sBr (c2 (zcI .gt)) 8,
  sP (fCon 1), sGo 9, sP (fCon 0), sRz]
set_option maxRecDepth 100000 in
theorem ck_204 : in_204.map (fun q => zsem zTb (zlk zPl_12) (ztg in_204 q.1) true q.2.1) = cd_204.map some := rfl
/-- Model_isDigit -/
def in_205 : List zIns := [(0, .iload_n 0, 1), (1, .bipush 48, 2), (3, .if_icmp .lt 13, 3), (6, .iload_n 0, 1), (7, .bipush 57, 2), (9, .if_icmp .gt 7, 3), (12, .iconst 1, 1), (13, .goto 4, 3),
  (16, .iconst 0, 1), (17, .ireturn, 1)]
def cd_205 : List zSem := [sP (fIld 0), sP (fCon 48), sBr (c2 (zcI .lt)) 8, sP (fIld 0), sP (fCon 57), sBr (c2 (zcI .gt)) 8,
  sP (fCon 1), sGo 9, sP (fCon 0), sRz]
set_option maxRecDepth 100000 in
theorem ck_205 : in_205.map (fun q => zsem zTb (zlk zPl_12) (ztg in_205 q.1) true q.2.1) = cd_205.map some := rfl
/-- Model_four -/
def in_206 : List zIns := [(0, .iload_n 0, 1), (1, .bipush 32, 2), (3, .imul, 1), (4, .iload_n 1, 1), (5, .iadd, 1), (6, .bipush 32, 2), (8, .imul, 1), (9, .iload_n 2, 1),
  (10, .iadd, 1), (11, .bipush 32, 2), (13, .imul, 1), (14, .iload_n 3, 1), (15, .iadd, 1), (16, .i2l, 1), (17, .lreturn, 1)]
def cd_206 : List zSem := [sP (fIld 0), sP (fCon 32), sP (fII (fun x y => x * y)), sP (fIld 1), sP (fII (fun x y => x + y)), sP (fCon 32),
  sP (fII (fun x y => x * y)), sP (fIld 2), sP (fII (fun x y => x + y)), sP (fCon 32), sP (fII (fun x y => x * y)), sP (fIld 3),
  sP (fII (fun x y => x + y)), sP fIL, sRet rL]
set_option maxRecDepth 100000 in
theorem ck_206 : in_206.map (fun q => zsem zTb (zlk zPl_12) (ztg in_206 q.1) false q.2.1) = cd_206.map some := rfl
/-- Model_eight -/
def in_207 : List zIns := [(0, .iload_n 0, 1), (1, .iload_n 1, 1), (2, .iload_n 2, 1), (3, .iload_n 3, 1), (4, .invokestatic 63, 3), (7, .ldc2_w 67, 3), (10, .lmul, 1), (11, .iload 4, 2),
  (13, .iload 5, 2), (15, .iload 6, 2), (17, .iload 7, 2), (19, .invokestatic 63, 3), (22, .ladd, 1), (23, .lreturn, 1)]
def cd_207 : List zSem := [sP (fIld 0), sP (fIld 1), sP (fIld 2), sP (fIld 3), sCL 206 4 none 4, sP (fLon 1048576),
  sP (fLL (fun x y => x * y)), sP (fIld 4), sP (fIld 5), sP (fIld 6), sP (fIld 7), sCL 206 4 none 4,
  sP (fLL (fun x y => x + y)), sRet rL]
set_option maxRecDepth 100000 in
theorem ck_207 : in_207.map (fun q => zsem zTb (zlk zPl_12) (ztg in_207 q.1) false q.2.1) = cd_207.map some := rfl
/-- Model_wordOf -/
def in_208 : List zIns := [(0, .lload_n 0, 1), (1, .bipush 18, 2), (3, .iconst 5, 1), (4, .iconst 5, 1), (5, .iconst 4, 1), (6, .invokestatic 63, 3), (9, .lcmp, 1), (10, .ifCond .ne 5, 3),
  (13, .iconst 1, 1), (14, .ireturn, 1), (15, .lload_n 0, 1), (16, .iconst 0, 1), (17, .iconst 0, 1), (18, .bipush 16, 2), (20, .bipush 12, 2), (22, .iconst 1, 1),
  (23, .bipush 25, 2), (25, .iconst 5, 1), (26, .bipush 18, 2), (28, .invokestatic 69, 3), (31, .lcmp, 1), (32, .ifCond .ne 5, 3), (35, .iconst 2, 1), (36, .ireturn, 1),
  (37, .lload_n 0, 1), (38, .bipush 17, 2), (40, .bipush 21, 2), (42, .iconst 5, 1), (43, .bipush 19, 2), (45, .bipush 20, 2), (47, .bipush 9, 2), (49, .bipush 15, 2),
  (51, .bipush 14, 2), (53, .invokestatic 69, 3), (56, .lcmp, 1), (57, .ifCond .ne 5, 3), (60, .iconst 3, 1), (61, .ireturn, 1), (62, .lload_n 0, 1), (63, .iconst 0, 1),
  (64, .iconst 0, 1), (65, .iconst 0, 1), (66, .bipush 13, 2), (68, .iconst 5, 1), (69, .iconst 1, 1), (70, .bipush 14, 2), (72, .bipush 19, 2), (74, .invokestatic 69, 3),
  (77, .lcmp, 1), (78, .ifCond .ne 5, 3), (81, .iconst 4, 1), (82, .ireturn, 1), (83, .lload_n 0, 1), (84, .iconst 0, 1), (85, .iconst 1, 1), (86, .bipush 19, 2),
  (88, .bipush 11, 2), (90, .invokestatic 63, 3), (93, .lcmp, 1), (94, .ifCond .ne 5, 3), (97, .iconst 5, 1), (98, .ireturn, 1), (99, .lload_n 0, 1), (100, .iconst 4, 1),
  (101, .bipush 21, 2), (103, .iconst 5, 1), (104, .bipush 20, 2), (106, .invokestatic 63, 3), (109, .lcmp, 1), (110, .ifCond .ne 6, 3), (113, .bipush 6, 2), (115, .ireturn, 1),
  (116, .lload_n 0, 1), (117, .iconst 0, 1), (118, .bipush 23, 2), (120, .iconst 5, 1), (121, .bipush 20, 2), (123, .invokestatic 63, 3), (126, .lcmp, 1), (127, .ifCond .ne 6, 3),
  (130, .bipush 7, 2), (132, .ireturn, 1), (133, .lload_n 0, 1), (134, .iconst 0, 1), (135, .iconst 3, 1), (136, .bipush 21, 2), (138, .bipush 20, 2), (140, .invokestatic 63, 3),
  (143, .lcmp, 1), (144, .ifCond .ne 6, 3), (147, .bipush 8, 2), (149, .ireturn, 1), (150, .lload_n 0, 1), (151, .iconst 3, 1), (152, .bipush 15, 2), (154, .bipush 12, 2),
  (156, .iconst 4, 1), (157, .invokestatic 63, 3), (160, .lcmp, 1), (161, .ifCond .ne 6, 3), (164, .bipush 9, 2), (166, .ireturn, 1), (167, .lload_n 0, 1), (168, .iconst 0, 1),
  (169, .iconst 0, 1), (170, .iconst 0, 1), (171, .bipush 14, 2), (173, .bipush 9, 2), (175, .bipush 7, 2), (177, .bipush 8, 2), (179, .bipush 20, 2), (181, .invokestatic 69, 3),
  (184, .lcmp, 1), (185, .ifCond .ne 6, 3), (188, .bipush 10, 2), (190, .ireturn, 1), (191, .lload_n 0, 1), (192, .iconst 0, 1), (193, .iconst 0, 1), (194, .bipush 14, 2),
  (196, .bipush 15, 2), (198, .invokestatic 63, 3), (201, .lcmp, 1), (202, .ifCond .ne 6, 3), (205, .bipush 11, 2), (207, .ireturn, 1), (208, .lload_n 0, 1), (209, .iconst 0, 1),
  (210, .bipush 25, 2), (212, .iconst 5, 1), (213, .bipush 19, 2), (215, .invokestatic 63, 3), (218, .lcmp, 1), (219, .ifCond .ne 6, 3), (222, .bipush 12, 2), (224, .ireturn, 1),
  (225, .lload_n 0, 1), (226, .bipush 23, 2), (228, .iconst 1, 1), (229, .bipush 9, 2), (231, .bipush 20, 2), (233, .invokestatic 63, 3), (236, .lcmp, 1), (237, .ifCond .ne 6, 3),
  (240, .bipush 13, 2), (242, .ireturn, 1), (243, .lload_n 0, 1), (244, .iconst 0, 1), (245, .iconst 0, 1), (246, .iconst 0, 1), (247, .bipush 8, 2), (249, .iconst 5, 1),
  (250, .iconst 1, 1), (251, .bipush 18, 2), (253, .iconst 4, 1), (254, .invokestatic 69, 3), (257, .lcmp, 1), (258, .ifCond .ne 6, 3), (261, .bipush 14, 2), (263, .ireturn, 1),
  (264, .lload_n 0, 1), (265, .iconst 0, 1), (266, .iconst 0, 1), (267, .iconst 0, 1), (268, .iconst 3, 1), (269, .bipush 15, 2), (271, .bipush 21, 2), (273, .bipush 7, 2),
  (275, .bipush 8, 2), (277, .invokestatic 69, 3), (280, .lcmp, 1), (281, .ifCond .ne 8, 3), (284, .bipush 15, 2), (286, .goto 5, 3), (289, .bipush 99, 2), (291, .ireturn, 1)]
def cd_208 : List zSem := [sP (fLld 0), sP (fCon 18), sP (fCon 5), sP (fCon 5), sP (fCon 4), sCL 206 4 none 4,
  sP fLc, sBr (c1 (zc0 .ne)) 10, sP (fCon 1), sRet rI, sP (fLld 0), sP (fCon 0),
  sP (fCon 0), sP (fCon 16), sP (fCon 12), sP (fCon 1), sP (fCon 25), sP (fCon 5),
  sP (fCon 18), sCL 207 8 none 8, sP fLc, sBr (c1 (zc0 .ne)) 24, sP (fCon 2), sRet rI,
  sP (fLld 0), sP (fCon 17), sP (fCon 21), sP (fCon 5), sP (fCon 19), sP (fCon 20),
  sP (fCon 9), sP (fCon 15), sP (fCon 14), sCL 207 8 none 8, sP fLc, sBr (c1 (zc0 .ne)) 38,
  sP (fCon 3), sRet rI, sP (fLld 0), sP (fCon 0), sP (fCon 0), sP (fCon 0),
  sP (fCon 13), sP (fCon 5), sP (fCon 1), sP (fCon 14), sP (fCon 19), sCL 207 8 none 8,
  sP fLc, sBr (c1 (zc0 .ne)) 52, sP (fCon 4), sRet rI, sP (fLld 0), sP (fCon 0),
  sP (fCon 1), sP (fCon 19), sP (fCon 11), sCL 206 4 none 4, sP fLc, sBr (c1 (zc0 .ne)) 62,
  sP (fCon 5), sRet rI, sP (fLld 0), sP (fCon 4), sP (fCon 21), sP (fCon 5),
  sP (fCon 20), sCL 206 4 none 4, sP fLc, sBr (c1 (zc0 .ne)) 72, sP (fCon 6), sRet rI,
  sP (fLld 0), sP (fCon 0), sP (fCon 23), sP (fCon 5), sP (fCon 20), sCL 206 4 none 4,
  sP fLc, sBr (c1 (zc0 .ne)) 82, sP (fCon 7), sRet rI, sP (fLld 0), sP (fCon 0),
  sP (fCon 3), sP (fCon 21), sP (fCon 20), sCL 206 4 none 4, sP fLc, sBr (c1 (zc0 .ne)) 92,
  sP (fCon 8), sRet rI, sP (fLld 0), sP (fCon 3), sP (fCon 15), sP (fCon 12),
  sP (fCon 4), sCL 206 4 none 4, sP fLc, sBr (c1 (zc0 .ne)) 102, sP (fCon 9), sRet rI,
  sP (fLld 0), sP (fCon 0), sP (fCon 0), sP (fCon 0), sP (fCon 14), sP (fCon 9),
  sP (fCon 7), sP (fCon 8), sP (fCon 20), sCL 207 8 none 8, sP fLc, sBr (c1 (zc0 .ne)) 116,
  sP (fCon 10), sRet rI, sP (fLld 0), sP (fCon 0), sP (fCon 0), sP (fCon 14),
  sP (fCon 15), sCL 206 4 none 4, sP fLc, sBr (c1 (zc0 .ne)) 126, sP (fCon 11), sRet rI,
  sP (fLld 0), sP (fCon 0), sP (fCon 25), sP (fCon 5), sP (fCon 19), sCL 206 4 none 4,
  sP fLc, sBr (c1 (zc0 .ne)) 136, sP (fCon 12), sRet rI, sP (fLld 0), sP (fCon 23),
  sP (fCon 1), sP (fCon 9), sP (fCon 20), sCL 206 4 none 4, sP fLc, sBr (c1 (zc0 .ne)) 146,
  sP (fCon 13), sRet rI, sP (fLld 0), sP (fCon 0), sP (fCon 0), sP (fCon 0),
  sP (fCon 8), sP (fCon 5), sP (fCon 1), sP (fCon 18), sP (fCon 4), sCL 207 8 none 8,
  sP fLc, sBr (c1 (zc0 .ne)) 160, sP (fCon 14), sRet rI, sP (fLld 0), sP (fCon 0),
  sP (fCon 0), sP (fCon 0), sP (fCon 3), sP (fCon 15), sP (fCon 21), sP (fCon 7),
  sP (fCon 8), sCL 207 8 none 8, sP fLc, sBr (c1 (zc0 .ne)) 174, sP (fCon 15), sGo 175,
  sP (fCon 99), sRet rI]
set_option maxRecDepth 100000 in
theorem ck_208 : in_208.map (fun q => zsem zTb (zlk zPl_12) (ztg in_208 q.1) false q.2.1) = cd_208.map some := rfl
/-- Model_advance -/
def in_209 : List zIns := [(0, .aload_n 0, 1), (1, .aload_n 0, 1), (2, .getfield 73, 3), (5, .invokevirtual 76, 3), (8, .bipush 10, 2), (10, .if_icmp .eq 16, 3), (13, .aload_n 0, 1), (14, .aload_n 0, 1),
  (15, .getfield 73, 3), (18, .invokevirtual 76, 3), (21, .bipush 32, 2), (23, .if_icmp .ne 16, 3), (26, .aload_n 0, 1), (27, .dup, 1), (28, .getfield 73, 3), (31, .iconst 1, 1),
  (32, .iadd, 1), (33, .putfield 73, 3), (36, .goto (-36), 3), (39, .aload_n 0, 1), (40, .aload_n 0, 1), (41, .getfield 73, 3), (44, .putfield 80, 3), (47, .aload_n 0, 1),
  (48, .aload_n 0, 1), (49, .getfield 73, 3), (52, .invokevirtual 76, 3), (55, .istore_n 1, 1), (56, .iload_n 1, 1), (57, .ifCond .ge 11, 3), (60, .aload_n 0, 1), (61, .iconst 0, 1),
  (62, .putfield 83, 3), (65, .goto 246, 3), (68, .iload_n 1, 1), (69, .invokestatic 86, 3), (72, .ifCond .eq 114, 3), (75, .lconst 0, 1), (76, .lstore_n 2, 1), (77, .aload_n 0, 1),
  (78, .aload_n 0, 1), (79, .getfield 73, 3), (82, .invokevirtual 76, 3), (85, .invokestatic 86, 3), (88, .ifCond .eq 50, 3), (91, .aload_n 0, 1), (92, .getfield 73, 3), (95, .aload_n 0, 1),
  (96, .getfield 80, 3), (99, .isub, 1), (100, .bipush 8, 2), (102, .if_icmp .ge 23, 3), (105, .ldc2_w 90, 3), (108, .lload_n 2, 1), (109, .lmul, 1), (110, .aload_n 0, 1),
  (111, .aload_n 0, 1), (112, .getfield 73, 3), (115, .invokevirtual 76, 3), (118, .i2l, 1), (119, .ladd, 1), (120, .ldc2_w 92, 3), (123, .lsub, 1), (124, .lstore_n 2, 1),
  (125, .aload_n 0, 1), (126, .dup, 1), (127, .getfield 73, 3), (130, .iconst 1, 1), (131, .iadd, 1), (132, .putfield 73, 3), (135, .goto (-58), 3), (138, .aload_n 0, 1),
  (139, .aload_n 0, 1), (140, .getfield 73, 3), (143, .aload_n 0, 1), (144, .getfield 80, 3), (147, .isub, 1), (148, .bipush 8, 2), (150, .if_icmp .le 8, 3), (153, .bipush 99, 2),
  (155, .goto 7, 3), (158, .lload_n 2, 1), (159, .invokestatic 94, 3), (162, .putfield 98, 3), (165, .aload_n 0, 1), (166, .aload_n 0, 1), (167, .getfield 98, 3), (170, .bipush 99, 2),
  (172, .if_icmp .ne 7, 3), (175, .iconst 4, 1), (176, .goto 4, 3), (179, .iconst 3, 1), (180, .putfield 83, 3), (183, .goto 128, 3), (186, .iload_n 1, 1), (187, .invokestatic 101, 3),
  (190, .ifCond .eq 96, 3), (193, .aload_n 0, 1), (194, .iconst 0, 1), (195, .putfield 104, 3), (198, .aload_n 0, 1), (199, .aload_n 0, 1), (200, .getfield 73, 3), (203, .invokevirtual 76, 3),
  (206, .invokestatic 101, 3), (209, .ifCond .eq 52, 3), (212, .aload_n 0, 1), (213, .getfield 73, 3), (216, .aload_n 0, 1), (217, .getfield 80, 3), (220, .isub, 1), (221, .iconst 2, 1),
  (222, .if_icmp .ge 26, 3), (225, .aload_n 0, 1), (226, .bipush 10, 2), (228, .aload_n 0, 1), (229, .getfield 104, 3), (232, .imul, 1), (233, .aload_n 0, 1), (234, .aload_n 0, 1),
  (235, .getfield 73, 3), (238, .invokevirtual 76, 3), (241, .iadd, 1), (242, .bipush 48, 2), (244, .isub, 1), (245, .putfield 104, 3), (248, .aload_n 0, 1), (249, .dup, 1),
  (250, .getfield 73, 3), (253, .iconst 1, 1), (254, .iadd, 1), (255, .putfield 73, 3), (258, .goto (-60), 3), (261, .aload_n 0, 1), (262, .aload_n 0, 1), (263, .getfield 73, 3),
  (266, .aload_n 0, 1), (267, .getfield 80, 3), (270, .isub, 1), (271, .iconst 2, 1), (272, .if_icmp .le 7, 3), (275, .iconst 4, 1), (276, .goto 4, 3), (279, .iconst 1, 1),
  (280, .putfield 83, 3), (283, .goto 28, 3), (286, .aload_n 0, 1), (287, .dup, 1), (288, .getfield 73, 3), (291, .iconst 1, 1), (292, .iadd, 1), (293, .putfield 73, 3),
  (296, .aload_n 0, 1), (297, .iload_n 1, 1), (298, .bipush 59, 2), (300, .if_icmp .ne 7, 3), (303, .iconst 2, 1), (304, .goto 4, 3), (307, .iconst 4, 1), (308, .putfield 83, 3),
  (311, .return_, 1)]
def cd_209 : List zSem := [sP (fAld 0), sP (fAld 0), sRI (gFI 771), sCI 203 2 (some 12) 2, sP (fCon 10), sBr (c2 (zcI .eq)) 12,
  sP (fAld 0), sP (fAld 0), sRI (gFI 771), sCI 203 2 (some 12) 2, sP (fCon 32), sBr (c2 (zcI .ne)) 19,
  sP (fAld 0), sP fDup, sRI (gFI 771), sP (fCon 1), sP (fII (fun x y => x + y)), sWr (wFI 771),
  sGo 0, sP (fAld 0), sP (fAld 0), sRI (gFI 771), sWr (wFI 772), sP (fAld 0),
  sP (fAld 0), sRI (gFI 771), sCI 203 2 (some 12) 2, sP (fIst 1), sP (fIld 1), sBr (c1 (zc0 .ge)) 34,
  sP (fAld 0), sP (fCon 0), sWr (wFI 773), sGo 160, sP (fIld 1), sCI 204 1 none 1,
  sBr (c1 (zc0 .eq)) 94, sP (fLon 0), sP (fLst 2), sP (fAld 0), sP (fAld 0), sRI (gFI 771),
  sCI 203 2 (some 12) 2, sCI 204 1 none 1, sBr (c1 (zc0 .eq)) 71, sP (fAld 0), sRI (gFI 771), sP (fAld 0),
  sRI (gFI 772), sP (fII (fun x y => x - y)), sP (fCon 8), sBr (c2 (zcI .ge)) 64, sP (fLon 32), sP (fLld 2),
  sP (fLL (fun x y => x * y)), sP (fAld 0), sP (fAld 0), sRI (gFI 771), sCI 203 2 (some 12) 2, sP fIL,
  sP (fLL (fun x y => x + y)), sP (fLon 96), sP (fLL (fun x y => x - y)), sP (fLst 2), sP (fAld 0), sP fDup,
  sRI (gFI 771), sP (fCon 1), sP (fII (fun x y => x + y)), sWr (wFI 771), sGo 39, sP (fAld 0),
  sP (fAld 0), sRI (gFI 771), sP (fAld 0), sRI (gFI 772), sP (fII (fun x y => x - y)), sP (fCon 8),
  sBr (c2 (zcI .le)) 81, sP (fCon 99), sGo 83, sP (fLld 2), sCI 208 1 none 2, sWr (wFI 775),
  sP (fAld 0), sP (fAld 0), sRI (gFI 775), sP (fCon 99), sBr (c2 (zcI .ne)) 91, sP (fCon 4),
  sGo 92, sP (fCon 3), sWr (wFI 773), sGo 160, sP (fIld 1), sCI 205 1 none 1,
  sBr (c1 (zc0 .eq)) 146, sP (fAld 0), sP (fCon 0), sWr (wFI 774), sP (fAld 0), sP (fAld 0),
  sRI (gFI 771), sCI 203 2 (some 12) 2, sCI 205 1 none 1, sBr (c1 (zc0 .eq)) 133, sP (fAld 0), sRI (gFI 771),
  sP (fAld 0), sRI (gFI 772), sP (fII (fun x y => x - y)), sP (fCon 2), sBr (c2 (zcI .ge)) 126, sP (fAld 0),
  sP (fCon 10), sP (fAld 0), sRI (gFI 774), sP (fII (fun x y => x * y)), sP (fAld 0), sP (fAld 0),
  sRI (gFI 771), sCI 203 2 (some 12) 2, sP (fII (fun x y => x + y)), sP (fCon 48), sP (fII (fun x y => x - y)), sWr (wFI 774),
  sP (fAld 0), sP fDup, sRI (gFI 771), sP (fCon 1), sP (fII (fun x y => x + y)), sWr (wFI 771),
  sGo 100, sP (fAld 0), sP (fAld 0), sRI (gFI 771), sP (fAld 0), sRI (gFI 772),
  sP (fII (fun x y => x - y)), sP (fCon 2), sBr (c2 (zcI .le)) 143, sP (fCon 4), sGo 144, sP (fCon 1),
  sWr (wFI 773), sGo 160, sP (fAld 0), sP fDup, sRI (gFI 771), sP (fCon 1),
  sP (fII (fun x y => x + y)), sWr (wFI 771), sP (fAld 0), sP (fIld 1), sP (fCon 59), sBr (c2 (zcI .ne)) 158,
  sP (fCon 2), sGo 159, sP (fCon 4), sWr (wFI 773), sRet rV]
set_option maxRecDepth 100000 in
theorem ck_209 : in_209.map (fun q => zsem zTb (zlk zPl_12) (ztg in_209 q.1) false q.2.1) = cd_209.map some := rfl
/-- Model_ends -/
def in_210 : List zIns := [(0, .aload_n 0, 1), (1, .getfield 107, 3), (4, .ifCond .eq 4, 3), (7, .return_, 1), (8, .aload_n 0, 1), (9, .iconst 1, 1), (10, .putfield 107, 3), (13, .aload_n 0, 1),
  (14, .getfield 7, 3), (17, .iconst 5, 1), (18, .iconst 1, 1), (19, .iastore, 1), (20, .aload_n 0, 1), (21, .getfield 7, 3), (24, .bipush 6, 2), (26, .aload_n 0, 1),
  (27, .getfield 80, 3), (30, .iastore, 1), (31, .return_, 1)]
def cd_210 : List zSem := [sP (fAld 0), sRI (gFI 776), sBr (c1 (zc0 .eq)) 4, sRet rV, sP (fAld 0), sP (fCon 1),
  sWr (wFZ 776), sP (fAld 0), sRR (gFR 768), sP (fCon 5), sP (fCon 1), sWr wAI,
  sP (fAld 0), sRR (gFR 768), sP (fCon 6), sP (fAld 0), sRI (gFI 772), sWr wAI,
  sRet rV]
set_option maxRecDepth 100000 in
theorem ck_210 : in_210.map (fun q => zsem zTb (zlk zPl_12) (ztg in_210 q.1) false q.2.1) = cd_210.map some := rfl
/-- Model_also -/
def in_211 : List zIns := [(0, .aload_n 0, 1), (1, .getfield 107, 3), (4, .ifCond .ne 44, 3), (7, .aload_n 0, 1), (8, .getfield 7, 3), (11, .iconst 5, 1), (12, .iaload, 1), (13, .ifCond .eq 36, 3),
  (16, .aload_n 0, 1), (17, .getfield 7, 3), (20, .bipush 6, 2), (22, .iaload, 1), (23, .iload_n 2, 1), (24, .if_icmp .lt 24, 3), (27, .aload_n 0, 1), (28, .getfield 7, 3),
  (31, .bipush 6, 2), (33, .iaload, 1), (34, .iload_n 2, 1), (35, .if_icmp .ne 14, 3), (38, .aload_n 0, 1), (39, .getfield 7, 3), (42, .iconst 5, 1), (43, .iaload, 1),
  (44, .iload_n 1, 1), (45, .if_icmp .gt 4, 3), (48, .return_, 1), (49, .aload_n 0, 1), (50, .getfield 7, 3), (53, .iconst 5, 1), (54, .iload_n 1, 1), (55, .iastore, 1),
  (56, .aload_n 0, 1), (57, .getfield 7, 3), (60, .bipush 6, 2), (62, .iload_n 2, 1), (63, .iastore, 1), (64, .return_, 1)]
def cd_211 : List zSem := [sP (fAld 0), sRI (gFI 776), sBr (c1 (zc0 .ne)) 26, sP (fAld 0), sRR (gFR 768), sP (fCon 5),
  sRI gAI, sBr (c1 (zc0 .eq)) 27, sP (fAld 0), sRR (gFR 768), sP (fCon 6), sRI gAI,
  sP (fIld 2), sBr (c2 (zcI .lt)) 26, sP (fAld 0), sRR (gFR 768), sP (fCon 6), sRI gAI,
  sP (fIld 2), sBr (c2 (zcI .ne)) 27, sP (fAld 0), sRR (gFR 768), sP (fCon 5), sRI gAI,
  sP (fIld 1), sBr (c2 (zcI .gt)) 27, sRet rV, sP (fAld 0), sRR (gFR 768), sP (fCon 5),
  sP (fIld 1), sWr wAI, sP (fAld 0), sRR (gFR 768), sP (fCon 6), sP (fIld 2),
  sWr wAI, sRet rV]
set_option maxRecDepth 100000 in
theorem ck_211 : in_211.map (fun q => zsem zTb (zlk zPl_12) (ztg in_211 q.1) false q.2.1) = cd_211.map some := rfl
/-- Model_numbered -/
def in_212 : List zIns := [(0, .aload_n 0, 1), (1, .getfield 107, 3), (4, .ifCond .ne 11, 3), (7, .aload_n 0, 1), (8, .getfield 83, 3), (11, .iconst 1, 1), (12, .if_icmp .eq 9, 3), (15, .aload_n 0, 1),
  (16, .invokevirtual 111, 3), (19, .iload_n 1, 1), (20, .ireturn, 1), (21, .aload_n 0, 1), (22, .getfield 104, 3), (25, .istore_n 3, 1), (26, .iload_n 3, 1), (27, .iload_n 1, 1),
  (28, .iload_n 2, 1), (29, .invokestatic 114, 3), (32, .ifCond .ne 12, 3), (35, .aload_n 0, 1), (36, .iconst 2, 1), (37, .aload_n 0, 1), (38, .getfield 80, 3), (41, .invokevirtual 118, 3),
  (44, .aload_n 0, 1), (45, .invokevirtual 122, 3), (48, .iload_n 3, 1), (49, .iload_n 1, 1), (50, .iload_n 2, 1), (51, .invokestatic 114, 3), (54, .ifCond .eq 7, 3), (57, .iload_n 3, 1),
  (58, .goto 4, 3), (61, .iload_n 1, 1), (62, .ireturn, 1)]
def cd_212 : List zSem := [sP (fAld 0), sRI (gFI 776), sBr (c1 (zc0 .ne)) 7, sP (fAld 0), sRI (gFI 773), sP (fCon 1),
  sBr (c2 (zcI .eq)) 11, sP (fAld 0), sCV 210 1 (some 12) 1, sP (fIld 1), sRet rI, sP (fAld 0),
  sRI (gFI 774), sP (fIst 3), sP (fIld 3), sP (fIld 1), sP (fIld 2), sCI 200 3 none 3,
  sBr (c1 (zc0 .ne)) 24, sP (fAld 0), sP (fCon 2), sP (fAld 0), sRI (gFI 772), sCV 211 3 (some 12) 3,
  sP (fAld 0), sCV 209 1 (some 12) 4, sP (fIld 3), sP (fIld 1), sP (fIld 2), sCI 200 3 none 3,
  sBr (c1 (zc0 .eq)) 33, sP (fIld 3), sGo 34, sP (fIld 1), sRet rI]
set_option maxRecDepth 100000 in
theorem ck_212 : in_212.map (fun q => zsem zTb (zlk zPl_12) (ztg in_212 q.1) false q.2.1) = cd_212.map some := rfl
/-- Model_wordIn -/
def in_213 : List zIns := [(0, .aload_n 0, 1), (1, .getfield 107, 3), (4, .ifCond .ne 23, 3), (7, .aload_n 0, 1), (8, .getfield 83, 3), (11, .iconst 3, 1), (12, .if_icmp .ne 15, 3), (15, .aload_n 0, 1),
  (16, .getfield 98, 3), (19, .iload_n 1, 1), (20, .iload_n 2, 1), (21, .invokestatic 114, 3), (24, .ifCond .ne 9, 3), (27, .aload_n 0, 1), (28, .invokevirtual 111, 3), (31, .iconst 0, 1),
  (32, .ireturn, 1), (33, .aload_n 0, 1), (34, .getfield 98, 3), (37, .istore_n 3, 1), (38, .aload_n 0, 1), (39, .invokevirtual 122, 3), (42, .iload_n 3, 1), (43, .ireturn, 1)]
def cd_213 : List zSem := [sP (fAld 0), sRI (gFI 776), sBr (c1 (zc0 .ne)) 13, sP (fAld 0), sRI (gFI 773), sP (fCon 3),
  sBr (c2 (zcI .ne)) 13, sP (fAld 0), sRI (gFI 775), sP (fIld 1), sP (fIld 2), sCI 200 3 none 3,
  sBr (c1 (zc0 .ne)) 17, sP (fAld 0), sCV 210 1 (some 12) 1, sP (fCon 0), sRet rI, sP (fAld 0),
  sRI (gFI 775), sP (fIst 3), sP (fAld 0), sCV 209 1 (some 12) 4, sP (fIld 3), sRet rI]
set_option maxRecDepth 100000 in
theorem ck_213 : in_213.map (fun q => zsem zTb (zlk zPl_12) (ztg in_213 q.1) false q.2.1) = cd_213.map some := rfl
/-- Model_endsLine -/
def in_214 : List zIns := [(0, .aload_n 0, 1), (1, .getfield 107, 3), (4, .ifCond .ne 18, 3), (7, .aload_n 0, 1), (8, .getfield 83, 3), (11, .iconst 2, 1), (12, .if_icmp .ne 10, 3), (15, .aload_n 0, 1),
  (16, .invokevirtual 122, 3), (19, .goto 7, 3), (22, .aload_n 0, 1), (23, .invokevirtual 111, 3), (26, .return_, 1)]
def cd_214 : List zSem := [sP (fAld 0), sRI (gFI 776), sBr (c1 (zc0 .ne)) 10, sP (fAld 0), sRI (gFI 773), sP (fCon 2),
  sBr (c2 (zcI .ne)) 10, sP (fAld 0), sCV 209 1 (some 12) 4, sGo 12, sP (fAld 0), sCV 210 1 (some 12) 1,
  sRet rV]
set_option maxRecDepth 100000 in
theorem ck_214 : in_214.map (fun q => zsem zTb (zlk zPl_12) (ztg in_214 q.1) false q.2.1) = cd_214.map some := rfl
/-- Model_comes -/
def in_215 : List zIns := [(0, .aload_n 0, 1), (1, .getfield 107, 3), (4, .ifCond .ne 19, 3), (7, .aload_n 0, 1), (8, .getfield 83, 3), (11, .iconst 3, 1), (12, .if_icmp .ne 11, 3), (15, .aload_n 0, 1),
  (16, .getfield 98, 3), (19, .iload_n 1, 1), (20, .if_icmp .eq 5, 3), (23, .iconst 0, 1), (24, .ireturn, 1), (25, .aload_n 0, 1), (26, .invokevirtual 122, 3), (29, .iconst 1, 1),
  (30, .ireturn, 1)]
def cd_215 : List zSem := [sP (fAld 0), sRI (gFI 776), sBr (c1 (zc0 .ne)) 11, sP (fAld 0), sRI (gFI 773), sP (fCon 3),
  sBr (c2 (zcI .ne)) 11, sP (fAld 0), sRI (gFI 775), sP (fIld 1), sBr (c2 (zcI .eq)) 13, sP (fCon 0),
  sRz, sP (fAld 0), sCV 209 1 (some 12) 4, sP (fCon 1), sRz]
set_option maxRecDepth 100000 in
theorem ck_215 : in_215.map (fun q => zsem zTb (zlk zPl_12) (ztg in_215 q.1) true q.2.1) = cd_215.map some := rfl
/-- Model_unlike -/
def in_216 : List zIns := [(0, .aload_n 0, 1), (1, .getfield 80, 3), (4, .istore_n 3, 1), (5, .aload_n 0, 1), (6, .getfield 107, 3), (9, .ifCond .ne 23, 3), (12, .aload_n 0, 1), (13, .getfield 83, 3),
  (16, .iconst 1, 1), (17, .if_icmp .ne 15, 3), (20, .aload_n 0, 1), (21, .getfield 104, 3), (24, .iload_n 2, 1), (25, .if_icmp .ne 7, 3), (28, .iconst 1, 1), (29, .goto 4, 3),
  (32, .iconst 0, 1), (33, .istore 4, 2), (35, .aload_n 0, 1), (36, .iconst 0, 1), (37, .iload_n 1, 1), (38, .invokevirtual 125, 3), (41, .istore 5, 2), (43, .iload 4, 2),
  (45, .ifCond .eq 9, 3), (48, .aload_n 0, 1), (49, .iconst 2, 1), (50, .iload_n 3, 1), (51, .invokevirtual 118, 3), (54, .iload 5, 2), (56, .ireturn, 1)]
def cd_216 : List zSem := [sP (fAld 0), sRI (gFI 772), sP (fIst 3), sP (fAld 0), sRI (gFI 776), sBr (c1 (zc0 .ne)) 16,
  sP (fAld 0), sRI (gFI 773), sP (fCon 1), sBr (c2 (zcI .ne)) 16, sP (fAld 0), sRI (gFI 774),
  sP (fIld 2), sBr (c2 (zcI .ne)) 16, sP (fCon 1), sGo 17, sP (fCon 0), sP (fIst 4),
  sP (fAld 0), sP (fCon 0), sP (fIld 1), sCI 212 3 (some 12) 4, sP (fIst 5), sP (fIld 4),
  sBr (c1 (zc0 .eq)) 29, sP (fAld 0), sP (fCon 2), sP (fIld 3), sCV 211 3 (some 12) 3, sP (fIld 5),
  sRet rI]
set_option maxRecDepth 100000 in
theorem ck_216 : in_216.map (fun q => zsem zTb (zlk zPl_12) (ztg in_216 q.1) false q.2.1) = cd_216.map some := rfl
/-- Model_pairTold -/
def in_217 : List zIns := [(0, .aload_n 0, 1), (1, .getfield 107, 3), (4, .ifCond .ne 20, 3), (7, .aload_n 0, 1), (8, .getfield 17, 3), (11, .iload_n 2, 1), (12, .iaload, 1), (13, .iload 4, 2),
  (15, .if_icmp .lt 9, 3), (18, .aload_n 0, 1), (19, .iconst 3, 1), (20, .iload_n 1, 1), (21, .invokevirtual 118, 3), (24, .aload_n 0, 1), (25, .iload 5, 2), (27, .iload 6, 2),
  (29, .invokevirtual 125, 3), (32, .istore 8, 2), (34, .aload_n 0, 1), (35, .iconst 0, 1), (36, .iload 7, 2), (38, .invokevirtual 125, 3), (41, .istore 9, 2), (43, .aload_n 0, 1),
  (44, .getfield 17, 3), (47, .iload_n 2, 1), (48, .iaload, 1), (49, .iload 4, 2), (51, .if_icmp .lt 4, 3), (54, .return_, 1), (55, .aload_n 0, 1), (56, .getfield 17, 3),
  (59, .iload_n 3, 1), (60, .iconst 2, 1), (61, .aload_n 0, 1), (62, .getfield 17, 3), (65, .iload_n 2, 1), (66, .iaload, 1), (67, .imul, 1), (68, .iadd, 1),
  (69, .iload 8, 2), (71, .iastore, 1), (72, .aload_n 0, 1), (73, .getfield 17, 3), (76, .iload_n 3, 1), (77, .iconst 1, 1), (78, .iadd, 1), (79, .iconst 2, 1),
  (80, .aload_n 0, 1), (81, .getfield 17, 3), (84, .iload_n 2, 1), (85, .iaload, 1), (86, .imul, 1), (87, .iadd, 1), (88, .iload 9, 2), (90, .iastore, 1),
  (91, .aload_n 0, 1), (92, .getfield 17, 3), (95, .iload_n 2, 1), (96, .dup2, 1), (97, .iaload, 1), (98, .iconst 1, 1), (99, .iadd, 1), (100, .iastore, 1),
  (101, .return_, 1)]
def cd_217 : List zSem := [sP (fAld 0), sRI (gFI 776), sBr (c1 (zc0 .ne)) 13, sP (fAld 0), sRR (gFR 777), sP (fIld 2),
  sRI gAI, sP (fIld 4), sBr (c2 (zcI .lt)) 13, sP (fAld 0), sP (fCon 3), sP (fIld 1),
  sCV 211 3 (some 12) 3, sP (fAld 0), sP (fIld 5), sP (fIld 6), sCI 212 3 (some 12) 4, sP (fIst 8),
  sP (fAld 0), sP (fCon 0), sP (fIld 7), sCI 212 3 (some 12) 4, sP (fIst 9), sP (fAld 0),
  sRR (gFR 777), sP (fIld 2), sRI gAI, sP (fIld 4), sBr (c2 (zcI .lt)) 30, sRet rV,
  sP (fAld 0), sRR (gFR 777), sP (fIld 3), sP (fCon 2), sP (fAld 0), sRR (gFR 777),
  sP (fIld 2), sRI gAI, sP (fII (fun x y => x * y)), sP (fII (fun x y => x + y)), sP (fIld 8), sWr wAI,
  sP (fAld 0), sRR (gFR 777), sP (fIld 3), sP (fCon 1), sP (fII (fun x y => x + y)), sP (fCon 2),
  sP (fAld 0), sRR (gFR 777), sP (fIld 2), sRI gAI, sP (fII (fun x y => x * y)), sP (fII (fun x y => x + y)),
  sP (fIld 9), sWr wAI, sP (fAld 0), sRR (gFR 777), sP (fIld 2), sP fDup2,
  sRI gAI, sP (fCon 1), sP (fII (fun x y => x + y)), sWr wAI, sRet rV]
set_option maxRecDepth 100000 in
theorem ck_217 : in_217.map (fun q => zsem zTb (zlk zPl_12) (ztg in_217 q.1) false q.2.1) = cd_217.map some := rfl
/-- Model_duchyLine -/
def in_218 : List zIns := [(0, .aload_n 0, 1), (1, .getfield 80, 3), (4, .istore_n 1, 1), (5, .aload_n 0, 1), (6, .bipush 9, 2), (8, .invokevirtual 129, 3), (11, .ifCond .eq 19, 3), (14, .aload_n 0, 1),
  (15, .getfield 17, 3), (18, .iconst 3, 1), (19, .aload_n 0, 1), (20, .iconst 0, 1), (21, .bipush 9, 2), (23, .invokevirtual 125, 3), (26, .iastore, 1), (27, .goto 171, 3),
  (30, .aload_n 0, 1), (31, .iconst 1, 1), (32, .iconst 4, 1), (33, .invokevirtual 132, 3), (36, .istore_n 2, 1), (37, .iload_n 2, 1), (38, .tableswitch 160 1 4 #[30, 47, 112, 129], 30), (68, .aload_n 0, 1),
  (69, .iload_n 1, 1), (70, .iconst 0, 1), (71, .iconst 4, 1), (72, .bipush 6, 2), (74, .iconst 0, 1), (75, .bipush 9, 2), (77, .bipush 7, 2), (79, .invokevirtual 135, 3),
  (82, .goto 116, 3), (85, .aload_n 0, 1), (86, .getfield 17, 3), (89, .iconst 1, 1), (90, .iaload, 1), (91, .iconst 4, 1), (92, .if_icmp .lt 9, 3), (95, .aload_n 0, 1),
  (96, .iconst 3, 1), (97, .iload_n 1, 1), (98, .invokevirtual 118, 3), (101, .aload_n 0, 1), (102, .iconst 1, 1), (103, .bipush 9, 2), (105, .invokevirtual 125, 3), (108, .istore_n 3, 1),
  (109, .aload_n 0, 1), (110, .getfield 17, 3), (113, .iconst 1, 1), (114, .iaload, 1), (115, .iconst 4, 1), (116, .if_icmp .lt 6, 3), (119, .goto 79, 3), (122, .aload_n 0, 1),
  (123, .getfield 17, 3), (126, .bipush 16, 2), (128, .aload_n 0, 1), (129, .getfield 17, 3), (132, .iconst 1, 1), (133, .iaload, 1), (134, .iadd, 1), (135, .iload_n 3, 1),
  (136, .iastore, 1), (137, .aload_n 0, 1), (138, .getfield 17, 3), (141, .iconst 1, 1), (142, .dup2, 1), (143, .iaload, 1), (144, .iconst 1, 1), (145, .iadd, 1),
  (146, .iastore, 1), (147, .goto 51, 3), (150, .aload_n 0, 1), (151, .iload_n 1, 1), (152, .iconst 2, 1), (153, .bipush 20, 2), (155, .bipush 8, 2), (157, .iconst 1, 1),
  (158, .bipush 15, 2), (160, .iconst 3, 1), (161, .invokevirtual 135, 3), (164, .goto 34, 3), (167, .aload_n 0, 1), (168, .iconst 0, 1), (169, .bipush 7, 2), (171, .invokevirtual 125, 3),
  (174, .istore_n 3, 1), (175, .aload_n 0, 1), (176, .getfield 17, 3), (179, .bipush 36, 2), (181, .iload_n 3, 1), (182, .iadd, 1), (183, .aload_n 0, 1), (184, .bipush 11, 2),
  (186, .bipush 13, 2), (188, .invokevirtual 132, 3), (191, .bipush 11, 2), (193, .isub, 1), (194, .iastore, 1), (195, .goto 3, 3), (198, .aload_n 0, 1), (199, .invokevirtual 139, 3),
  (202, .return_, 1)]
def cd_218 : List zSem := [sP (fAld 0), sRI (gFI 772), sP (fIst 1), sP (fAld 0), sP (fCon 9), sCI 215 2 (some 12) 2,
  sBr (c1 (zc0 .eq)) 16, sP (fAld 0), sRR (gFR 777), sP (fCon 3), sP (fAld 0), sP (fCon 0),
  sP (fCon 9), sCI 212 3 (some 12) 4, sWr wAI, sGo 102, sP (fAld 0), sP (fCon 1),
  sP (fCon 4), sCI 213 3 (some 12) 4, sP (fIst 2), sP (fIld 2), sSw [(1, 23), (2, 33), (3, 74), (4, 84)] 102, sP (fAld 0),
  sP (fIld 1), sP (fCon 0), sP (fCon 4), sP (fCon 6), sP (fCon 0), sP (fCon 9),
  sP (fCon 7), sCV 217 8 (some 12) 10, sGo 102, sP (fAld 0), sRR (gFR 777), sP (fCon 1),
  sRI gAI, sP (fCon 4), sBr (c2 (zcI .lt)) 43, sP (fAld 0), sP (fCon 3), sP (fIld 1),
  sCV 211 3 (some 12) 3, sP (fAld 0), sP (fCon 1), sP (fCon 9), sCI 212 3 (some 12) 4, sP (fIst 3),
  sP (fAld 0), sRR (gFR 777), sP (fCon 1), sRI gAI, sP (fCon 4), sBr (c2 (zcI .lt)) 55,
  sGo 102, sP (fAld 0), sRR (gFR 777), sP (fCon 16), sP (fAld 0), sRR (gFR 777),
  sP (fCon 1), sRI gAI, sP (fII (fun x y => x + y)), sP (fIld 3), sWr wAI, sP (fAld 0),
  sRR (gFR 777), sP (fCon 1), sP fDup2, sRI gAI, sP (fCon 1), sP (fII (fun x y => x + y)),
  sWr wAI, sGo 102, sP (fAld 0), sP (fIld 1), sP (fCon 2), sP (fCon 20),
  sP (fCon 8), sP (fCon 1), sP (fCon 15), sP (fCon 3), sCV 217 8 (some 12) 10, sGo 102,
  sP (fAld 0), sP (fCon 0), sP (fCon 7), sCI 212 3 (some 12) 4, sP (fIst 3), sP (fAld 0),
  sRR (gFR 777), sP (fCon 36), sP (fIld 3), sP (fII (fun x y => x + y)), sP (fAld 0), sP (fCon 11),
  sP (fCon 13), sCI 213 3 (some 12) 4, sP (fCon 11), sP (fII (fun x y => x - y)), sWr wAI, sGo 102,
  sP (fAld 0), sCV 214 1 (some 12) 1, sRet rV]
set_option maxRecDepth 100000 in
theorem ck_218 : in_218.map (fun q => zsem zTb (zlk zPl_12) (ztg in_218 q.1) false q.2.1) = cd_218.map some := rfl
/-- Model_yearLine -/
def in_219 : List zIns := [(0, .aload_n 0, 1), (1, .getfield 80, 3), (4, .istore_n 1, 1), (5, .aload_n 0, 1), (6, .iconst 5, 1), (7, .bipush 10, 2), (9, .invokevirtual 132, 3), (12, .iconst 5, 1),
  (13, .isub, 1), (14, .istore_n 2, 1), (15, .aload_n 0, 1), (16, .getfield 107, 3), (19, .ifCond .ne 20, 3), (22, .aload_n 0, 1), (23, .getfield 17, 3), (26, .iconst 0, 1),
  (27, .iaload, 1), (28, .bipush 40, 2), (30, .if_icmp .lt 9, 3), (33, .aload_n 0, 1), (34, .iconst 3, 1), (35, .iload_n 1, 1), (36, .invokevirtual 118, 3), (39, .iconst 1, 1),
  (40, .bipush 6, 2), (42, .aload_n 0, 1), (43, .getfield 17, 3), (46, .iconst 0, 1), (47, .iaload, 1), (48, .bipush 40, 2), (50, .if_icmp .ge 12, 3), (53, .aload_n 0, 1),
  (54, .getfield 17, 3), (57, .iconst 0, 1), (58, .iaload, 1), (59, .goto 5, 3), (62, .bipush 39, 2), (64, .imul, 1), (65, .iadd, 1), (66, .istore_n 3, 1),
  (67, .aload_n 0, 1), (68, .getfield 17, 3), (71, .iconst 0, 1), (72, .iaload, 1), (73, .bipush 40, 2), (75, .if_icmp .ge 7, 3), (78, .iconst 1, 1), (79, .goto 4, 3),
  (82, .iconst 0, 1), (83, .istore 4, 2), (85, .iload_n 2, 1), (86, .iconst 5, 1), (87, .if_icmp .ne 7, 3), (90, .iconst (-1), 1), (91, .goto 19, 3), (94, .aload_n 0, 1),
  (95, .iconst 0, 1), (96, .iload_n 2, 1), (97, .iconst 4, 1), (98, .if_icmp .ne 8, 3), (101, .bipush 9, 2), (103, .goto 4, 3), (106, .iconst 5, 1), (107, .invokevirtual 125, 3),
  (110, .istore 5, 2), (112, .iload_n 2, 1), (113, .iconst 1, 1), (114, .if_icmp .le 7, 3), (117, .iconst (-1), 1), (118, .goto 23, 3), (121, .iload_n 2, 1), (122, .ifCond .ne 12, 3),
  (125, .aload_n 0, 1), (126, .iconst 0, 1), (127, .iconst 3, 1), (128, .invokevirtual 125, 3), (131, .goto 10, 3), (134, .aload_n 0, 1), (135, .iconst 5, 1), (136, .iload 5, 2),
  (138, .invokevirtual 142, 3), (141, .istore 6, 2), (143, .iload_n 2, 1), (144, .iconst 1, 1), (145, .if_icmp .le 7, 3), (148, .iconst (-1), 1), (149, .goto 18, 3), (152, .aload_n 0, 1),
  (153, .iconst 0, 1), (154, .iload_n 2, 1), (155, .ifCond .ne 8, 3), (158, .bipush 7, 2), (160, .goto 4, 3), (163, .iconst 3, 1), (164, .invokevirtual 125, 3), (167, .istore 7, 2),
  (169, .iload_n 2, 1), (170, .iconst 1, 1), (171, .if_icmp .ne 13, 3), (174, .aload_n 0, 1), (175, .iconst 3, 1), (176, .iload 7, 2), (178, .invokevirtual 142, 3), (181, .goto 4, 3),
  (184, .iconst (-1), 1), (185, .istore 8, 2), (187, .iload_n 2, 1), (188, .iconst 1, 1), (189, .if_icmp .ne 13, 3), (192, .aload_n 0, 1), (193, .iconst 0, 1), (194, .bipush 7, 2),
  (196, .invokevirtual 125, 3), (199, .goto 4, 3), (202, .iconst (-1), 1), (203, .istore 9, 2), (205, .iload 4, 2), (207, .ifCond .eq 70, 3), (210, .aload_n 0, 1), (211, .getfield 17, 3),
  (214, .iload_n 3, 1), (215, .iload_n 2, 1), (216, .iastore, 1), (217, .aload_n 0, 1), (218, .getfield 17, 3), (221, .iload_n 3, 1), (222, .iconst 1, 1), (223, .iadd, 1),
  (224, .iload 5, 2), (226, .iastore, 1), (227, .aload_n 0, 1), (228, .getfield 17, 3), (231, .iload_n 3, 1), (232, .iconst 2, 1), (233, .iadd, 1), (234, .iload 6, 2),
  (236, .iastore, 1), (237, .aload_n 0, 1), (238, .getfield 17, 3), (241, .iload_n 3, 1), (242, .iconst 3, 1), (243, .iadd, 1), (244, .iload 7, 2), (246, .iastore, 1),
  (247, .aload_n 0, 1), (248, .getfield 17, 3), (251, .iload_n 3, 1), (252, .iconst 4, 1), (253, .iadd, 1), (254, .iload 8, 2), (256, .iastore, 1), (257, .aload_n 0, 1),
  (258, .getfield 17, 3), (261, .iload_n 3, 1), (262, .iconst 5, 1), (263, .iadd, 1), (264, .iload 9, 2), (266, .iastore, 1), (267, .aload_n 0, 1), (268, .getfield 17, 3),
  (271, .iconst 0, 1), (272, .dup2, 1), (273, .iaload, 1), (274, .iconst 1, 1), (275, .iadd, 1), (276, .iastore, 1), (277, .aload_n 0, 1), (278, .invokevirtual 139, 3),
  (281, .return_, 1)]
def cd_219 : List zSem := [sP (fAld 0), sRI (gFI 772), sP (fIst 1), sP (fAld 0), sP (fCon 5), sP (fCon 10),
  sCI 213 3 (some 12) 4, sP (fCon 5), sP (fII (fun x y => x - y)), sP (fIst 2), sP (fAld 0), sRI (gFI 776),
  sBr (c1 (zc0 .ne)) 23, sP (fAld 0), sRR (gFR 777), sP (fCon 0), sRI gAI, sP (fCon 40),
  sBr (c2 (zcI .lt)) 23, sP (fAld 0), sP (fCon 3), sP (fIld 1), sCV 211 3 (some 12) 3, sP (fCon 1),
  sP (fCon 6), sP (fAld 0), sRR (gFR 777), sP (fCon 0), sRI gAI, sP (fCon 40),
  sBr (c2 (zcI .ge)) 36, sP (fAld 0), sRR (gFR 777), sP (fCon 0), sRI gAI, sGo 37,
  sP (fCon 39), sP (fII (fun x y => x * y)), sP (fII (fun x y => x + y)), sP (fIst 3), sP (fAld 0), sRR (gFR 777),
  sP (fCon 0), sRI gAI, sP (fCon 40), sBr (c2 (zcI .ge)) 48, sP (fCon 1), sGo 49,
  sP (fCon 0), sP (fIst 4), sP (fIld 2), sP (fCon 5), sBr (c2 (zcI .ne)) 55, sP (fCon (-1)),
  sGo 64, sP (fAld 0), sP (fCon 0), sP (fIld 2), sP (fCon 4), sBr (c2 (zcI .ne)) 62,
  sP (fCon 9), sGo 63, sP (fCon 5), sCI 212 3 (some 12) 4, sP (fIst 5), sP (fIld 2),
  sP (fCon 1), sBr (c2 (zcI .le)) 70, sP (fCon (-1)), sGo 81, sP (fIld 2), sBr (c1 (zc0 .ne)) 77,
  sP (fAld 0), sP (fCon 0), sP (fCon 3), sCI 212 3 (some 12) 4, sGo 81, sP (fAld 0),
  sP (fCon 5), sP (fIld 5), sCI 216 3 (some 12) 6, sP (fIst 6), sP (fIld 2), sP (fCon 1),
  sBr (c2 (zcI .le)) 87, sP (fCon (-1)), sGo 95, sP (fAld 0), sP (fCon 0), sP (fIld 2),
  sBr (c1 (zc0 .ne)) 93, sP (fCon 7), sGo 94, sP (fCon 3), sCI 212 3 (some 12) 4, sP (fIst 7),
  sP (fIld 2), sP (fCon 1), sBr (c2 (zcI .ne)) 104, sP (fAld 0), sP (fCon 3), sP (fIld 7),
  sCI 216 3 (some 12) 6, sGo 105, sP (fCon (-1)), sP (fIst 8), sP (fIld 2), sP (fCon 1),
  sBr (c2 (zcI .ne)) 114, sP (fAld 0), sP (fCon 0), sP (fCon 7), sCI 212 3 (some 12) 4, sGo 115,
  sP (fCon (-1)), sP (fIst 9), sP (fIld 4), sBr (c1 (zc0 .eq)) 166, sP (fAld 0), sRR (gFR 777),
  sP (fIld 3), sP (fIld 2), sWr wAI, sP (fAld 0), sRR (gFR 777), sP (fIld 3),
  sP (fCon 1), sP (fII (fun x y => x + y)), sP (fIld 5), sWr wAI, sP (fAld 0), sRR (gFR 777),
  sP (fIld 3), sP (fCon 2), sP (fII (fun x y => x + y)), sP (fIld 6), sWr wAI, sP (fAld 0),
  sRR (gFR 777), sP (fIld 3), sP (fCon 3), sP (fII (fun x y => x + y)), sP (fIld 7), sWr wAI,
  sP (fAld 0), sRR (gFR 777), sP (fIld 3), sP (fCon 4), sP (fII (fun x y => x + y)), sP (fIld 8),
  sWr wAI, sP (fAld 0), sRR (gFR 777), sP (fIld 3), sP (fCon 5), sP (fII (fun x y => x + y)),
  sP (fIld 9), sWr wAI, sP (fAld 0), sRR (gFR 777), sP (fCon 0), sP fDup2,
  sRI gAI, sP (fCon 1), sP (fII (fun x y => x + y)), sWr wAI, sP (fAld 0), sCV 214 1 (some 12) 1,
  sRet rV]
set_option maxRecDepth 100000 in
theorem ck_219 : in_219.map (fun q => zsem zTb (zlk zPl_12) (ztg in_219 q.1) false q.2.1) = cd_219.map some := rfl
/-- Model_logLine -/
def in_220 : List zIns := [(0, .aload_n 0, 1), (1, .getfield 80, 3), (4, .istore_n 1, 1), (5, .aload_n 0, 1), (6, .bipush 14, 2), (8, .bipush 15, 2), (10, .invokevirtual 132, 3), (13, .bipush 14, 2),
  (15, .isub, 1), (16, .istore_n 2, 1), (17, .aload_n 0, 1), (18, .getfield 107, 3), (21, .ifCond .ne 20, 3), (24, .aload_n 0, 1), (25, .getfield 17, 3), (28, .iconst 0, 1),
  (29, .iaload, 1), (30, .bipush 8, 2), (32, .if_icmp .lt 9, 3), (35, .aload_n 0, 1), (36, .iconst 3, 1), (37, .iload_n 1, 1), (38, .invokevirtual 118, 3), (41, .aload_n 0, 1),
  (42, .iconst 0, 1), (43, .iconst 3, 1), (44, .invokevirtual 125, 3), (47, .istore_n 3, 1), (48, .aload_n 0, 1), (49, .iconst 0, 1), (50, .bipush 7, 2), (52, .invokevirtual 125, 3),
  (55, .istore 4, 2), (57, .iload_n 2, 1), (58, .iconst 1, 1), (59, .if_icmp .ne 7, 3), (62, .iconst (-1), 1), (63, .goto 10, 3), (66, .aload_n 0, 1), (67, .iconst 0, 1),
  (68, .bipush 7, 2), (70, .invokevirtual 125, 3), (73, .istore 5, 2), (75, .aload_n 0, 1), (76, .getfield 17, 3), (79, .iconst 0, 1), (80, .iaload, 1), (81, .bipush 8, 2),
  (83, .if_icmp .ge 55, 3), (86, .iconst 1, 1), (87, .iconst 3, 1), (88, .aload_n 0, 1), (89, .getfield 17, 3), (92, .iconst 0, 1), (93, .iaload, 1), (94, .imul, 1),
  (95, .iadd, 1), (96, .istore 6, 2), (98, .aload_n 0, 1), (99, .getfield 17, 3), (102, .iload 6, 2), (104, .iload_n 3, 1), (105, .iastore, 1), (106, .aload_n 0, 1),
  (107, .getfield 17, 3), (110, .iload 6, 2), (112, .iconst 1, 1), (113, .iadd, 1), (114, .iload 4, 2), (116, .iastore, 1), (117, .aload_n 0, 1), (118, .getfield 17, 3),
  (121, .iload 6, 2), (123, .iconst 2, 1), (124, .iadd, 1), (125, .iload 5, 2), (127, .iastore, 1), (128, .aload_n 0, 1), (129, .getfield 17, 3), (132, .iconst 0, 1),
  (133, .dup2, 1), (134, .iaload, 1), (135, .iconst 1, 1), (136, .iadd, 1), (137, .iastore, 1), (138, .aload_n 0, 1), (139, .invokevirtual 139, 3), (142, .return_, 1)]
def cd_220 : List zSem := [sP (fAld 0), sRI (gFI 772), sP (fIst 1), sP (fAld 0), sP (fCon 14), sP (fCon 15),
  sCI 213 3 (some 12) 4, sP (fCon 14), sP (fII (fun x y => x - y)), sP (fIst 2), sP (fAld 0), sRI (gFI 776),
  sBr (c1 (zc0 .ne)) 23, sP (fAld 0), sRR (gFR 777), sP (fCon 0), sRI gAI, sP (fCon 8),
  sBr (c2 (zcI .lt)) 23, sP (fAld 0), sP (fCon 3), sP (fIld 1), sCV 211 3 (some 12) 3, sP (fAld 0),
  sP (fCon 0), sP (fCon 3), sCI 212 3 (some 12) 4, sP (fIst 3), sP (fAld 0), sP (fCon 0),
  sP (fCon 7), sCI 212 3 (some 12) 4, sP (fIst 4), sP (fIld 2), sP (fCon 1), sBr (c2 (zcI .ne)) 38,
  sP (fCon (-1)), sGo 42, sP (fAld 0), sP (fCon 0), sP (fCon 7), sCI 212 3 (some 12) 4,
  sP (fIst 5), sP (fAld 0), sRR (gFR 777), sP (fCon 0), sRI gAI, sP (fCon 8),
  sBr (c2 (zcI .ge)) 85, sP (fCon 1), sP (fCon 3), sP (fAld 0), sRR (gFR 777), sP (fCon 0),
  sRI gAI, sP (fII (fun x y => x * y)), sP (fII (fun x y => x + y)), sP (fIst 6), sP (fAld 0), sRR (gFR 777),
  sP (fIld 6), sP (fIld 3), sWr wAI, sP (fAld 0), sRR (gFR 777), sP (fIld 6),
  sP (fCon 1), sP (fII (fun x y => x + y)), sP (fIld 4), sWr wAI, sP (fAld 0), sRR (gFR 777),
  sP (fIld 6), sP (fCon 2), sP (fII (fun x y => x + y)), sP (fIld 5), sWr wAI, sP (fAld 0),
  sRR (gFR 777), sP (fCon 0), sP fDup2, sRI gAI, sP (fCon 1), sP (fII (fun x y => x + y)),
  sWr wAI, sP (fAld 0), sCV 214 1 (some 12) 1, sRet rV]
set_option maxRecDepth 100000 in
theorem ck_220 : in_220.map (fun q => zsem zTb (zlk zPl_12) (ztg in_220 q.1) false q.2.1) = cd_220.map some := rfl
/-- Model_placeOf -/
def in_221 : List zIns := [(0, .iload_n 0, 1), (1, .ifCond .ne 14, 3), (4, .sipush 610, 3), (7, .bipush 44, 2), (9, .iload_n 1, 1), (10, .imul, 1), (11, .iadd, 1), (12, .goto 28, 3),
  (15, .iload_n 0, 1), (16, .iconst 1, 1), (17, .if_icmp .ne 15, 3), (20, .sipush 698, 3), (23, .sipush 241, 3), (26, .iload_n 1, 1), (27, .imul, 1), (28, .iadd, 1),
  (29, .goto 11, 3), (32, .sipush 1180, 3), (35, .bipush 25, 2), (37, .iload_n 1, 1), (38, .imul, 1), (39, .iadd, 1), (40, .ireturn, 1)]
def cd_221 : List zSem := [sP (fIld 0), sBr (c1 (zc0 .ne)) 8, sP (fCon 610), sP (fCon 44), sP (fIld 1), sP (fII (fun x y => x * y)),
  sP (fII (fun x y => x + y)), sGo 22, sP (fIld 0), sP (fCon 1), sBr (c2 (zcI .ne)) 17, sP (fCon 698),
  sP (fCon 241), sP (fIld 1), sP (fII (fun x y => x * y)), sP (fII (fun x y => x + y)), sGo 22, sP (fCon 1180),
  sP (fCon 25), sP (fIld 1), sP (fII (fun x y => x * y)), sP (fII (fun x y => x + y)), sRet rI]
set_option maxRecDepth 100000 in
theorem ck_221 : in_221.map (fun q => zsem zTb (zlk zPl_12) (ztg in_221 q.1) false q.2.1) = cd_221.map some := rfl
/-- Model_sizeOf -/
def in_222 : List zIns := [(0, .iload_n 0, 1), (1, .ifCond .ne 8, 3), (4, .bipush 44, 2), (6, .goto 16, 3), (9, .iload_n 0, 1), (10, .iconst 1, 1), (11, .if_icmp .ne 9, 3), (14, .sipush 241, 3),
  (17, .goto 5, 3), (20, .bipush 25, 2), (22, .ireturn, 1)]
def cd_222 : List zSem := [sP (fIld 0), sBr (c1 (zc0 .ne)) 4, sP (fCon 44), sGo 10, sP (fIld 0), sP (fCon 1),
  sBr (c2 (zcI .ne)) 9, sP (fCon 241), sGo 10, sP (fCon 25), sRet rI]
set_option maxRecDepth 100000 in
theorem ck_222 : in_222.map (fun q => zsem zTb (zlk zPl_12) (ztg in_222 q.1) false q.2.1) = cd_222.map some := rfl
/-- Model_isOf -/
def in_223 : List zIns := [(0, .iload_n 2, 1), (1, .iconst 0, 1), (2, .aload_n 0, 1), (3, .getfield 7, 3), (6, .iload_n 1, 1), (7, .iaload, 1), (8, .iconst 1, 1), (9, .isub, 1),
  (10, .invokestatic 114, 3), (13, .ireturn, 1)]
def cd_223 : List zSem := [sP (fIld 2), sP (fCon 0), sP (fAld 0), sRR (gFR 768), sP (fIld 1), sRI gAI,
  sP (fCon 1), sP (fII (fun x y => x - y)), sCI 200 3 none 3, sRz]
set_option maxRecDepth 100000 in
theorem ck_223 : in_223.map (fun q => zsem zTb (zlk zPl_12) (ztg in_223 q.1) true q.2.1) = cd_223.map some := rfl
/-- Model_text -/
def in_224 : List zIns := [(0, .aload_n 0, 1), (1, .aload_n 0, 1), (2, .getfield 7, 3), (5, .iconst 4, 1), (6, .iaload, 1), (7, .putfield 59, 3), (10, .aload_n 0, 1), (11, .getfield 7, 3),
  (14, .iconst 4, 1), (15, .iconst 0, 1), (16, .iastore, 1), (17, .aload_n 0, 1), (18, .getfield 7, 3), (21, .iconst 5, 1), (22, .iconst 0, 1), (23, .iastore, 1),
  (24, .aload_n 0, 1), (25, .getfield 7, 3), (28, .bipush 6, 2), (30, .iconst (-1), 1), (31, .iastore, 1), (32, .iload_n 1, 1), (33, .iconst 0, 1), (34, .iconst 2, 1),
  (35, .invokestatic 114, 3), (38, .ifCond .eq 30, 3), (41, .iload_n 2, 1), (42, .iconst (-1), 1), (43, .if_icmp .ne 16, 3), (46, .aload_n 0, 1), (47, .getfield 7, 3), (50, .iload_n 1, 1),
  (51, .iaload, 1), (52, .iconst 2, 1), (53, .if_icmp .lt 18, 3), (56, .goto 12, 3), (59, .aload_n 0, 1), (60, .iload_n 1, 1), (61, .iload_n 2, 1), (62, .invokevirtual 145, 3),
  (65, .ifCond .ne 6, 3), (68, .bipush (-2), 2), (70, .ireturn, 1), (71, .aload_n 0, 1), (72, .iconst 0, 1), (73, .putfield 73, 3), (76, .aload_n 0, 1), (77, .iconst 0, 1),
  (78, .putfield 107, 3), (81, .iconst 0, 1), (82, .istore_n 3, 1), (83, .iload_n 3, 1), (84, .sipush 241, 3), (87, .if_icmp .ge 40, 3), (90, .aload_n 0, 1), (91, .getfield 17, 3),
  (94, .iload_n 3, 1), (95, .iload_n 1, 1), (96, .ifCond .ne 23, 3), (99, .iload_n 3, 1), (100, .bipush 36, 2), (102, .bipush 43, 2), (104, .invokestatic 114, 3), (107, .ifCond .eq 12, 3),
  (110, .iload_n 3, 1), (111, .bipush 36, 2), (113, .isub, 1), (114, .iconst 2, 1), (115, .irem, 1), (116, .goto 4, 3), (119, .iconst 0, 1), (120, .iastore, 1),
  (121, .iinc 3 1, 3), (124, .goto (-41), 3), (127, .aload_n 0, 1), (128, .invokevirtual 122, 3), (131, .aload_n 0, 1), (132, .getfield 107, 3), (135, .ifCond .ne 58, 3), (138, .aload_n 0, 1),
  (139, .getfield 83, 3), (142, .ifCond .eq 51, 3), (145, .iload_n 1, 1), (146, .lookupswitch 40 #[(0, 26), (1, 33)], 26), (172, .aload_n 0, 1), (173, .invokevirtual 149, 3), (176, .goto (-45), 3), (179, .aload_n 0, 1),
  (180, .invokevirtual 152, 3), (183, .goto (-52), 3), (186, .aload_n 0, 1), (187, .invokevirtual 155, 3), (190, .goto (-59), 3), (193, .aload_n 0, 1), (194, .getfield 7, 3), (197, .iconst 5, 1),
  (198, .iaload, 1), (199, .ifCond .eq 5, 3), (202, .iconst (-1), 1), (203, .ireturn, 1), (204, .iload_n 2, 1), (205, .iconst (-1), 1), (206, .if_icmp .ne 12, 3), (209, .aload_n 0, 1),
  (210, .getfield 7, 3), (213, .iload_n 1, 1), (214, .iaload, 1), (215, .goto 4, 3), (218, .iload_n 2, 1), (219, .istore_n 3, 1), (220, .iload_n 2, 1), (221, .iconst (-1), 1),
  (222, .if_icmp .ne 13, 3), (225, .aload_n 0, 1), (226, .getfield 7, 3), (229, .iload_n 1, 1), (230, .dup2, 1), (231, .iaload, 1), (232, .iconst 1, 1), (233, .iadd, 1),
  (234, .iastore, 1), (235, .iconst 0, 1), (236, .istore 4, 2), (238, .iload 4, 2), (240, .iload_n 1, 1), (241, .invokestatic 158, 3), (244, .if_icmp .ge 29, 3), (247, .aload_n 0, 1),
  (248, .getfield 7, 3), (251, .iload_n 1, 1), (252, .iload_n 3, 1), (253, .invokestatic 161, 3), (256, .iload 4, 2), (258, .iadd, 1), (259, .aload_n 0, 1), (260, .getfield 17, 3),
  (263, .iload 4, 2), (265, .iaload, 1), (266, .iastore, 1), (267, .iinc 4 1, 3), (270, .goto (-32), 3), (273, .iload_n 3, 1), (274, .ireturn, 1)]
def cd_224 : List zSem := [sP (fAld 0), sP (fAld 0), sRR (gFR 768), sP (fCon 4), sRI gAI, sWr (wFI 770),
  sP (fAld 0), sRR (gFR 768), sP (fCon 4), sP (fCon 0), sWr wAI, sP (fAld 0),
  sRR (gFR 768), sP (fCon 5), sP (fCon 0), sWr wAI, sP (fAld 0), sRR (gFR 768),
  sP (fCon 6), sP (fCon (-1)), sWr wAI, sP (fIld 1), sP (fCon 0), sP (fCon 2),
  sCI 200 3 none 3, sBr (c1 (zc0 .eq)) 41, sP (fIld 2), sP (fCon (-1)), sBr (c2 (zcI .ne)) 36, sP (fAld 0),
  sRR (gFR 768), sP (fIld 1), sRI gAI, sP (fCon 2), sBr (c2 (zcI .lt)) 43, sGo 41,
  sP (fAld 0), sP (fIld 1), sP (fIld 2), sCI 223 3 (some 12) 3, sBr (c1 (zc0 .ne)) 43, sP (fCon (-2)),
  sRet rI, sP (fAld 0), sP (fCon 0), sWr (wFI 771), sP (fAld 0), sP (fCon 0),
  sWr (wFZ 776), sP (fCon 0), sP (fIst 3), sP (fIld 3), sP (fCon 241), sBr (c2 (zcI .ge)) 74,
  sP (fAld 0), sRR (gFR 777), sP (fIld 3), sP (fIld 1), sBr (c1 (zc0 .ne)) 70, sP (fIld 3),
  sP (fCon 36), sP (fCon 43), sCI 200 3 none 3, sBr (c1 (zc0 .eq)) 70, sP (fIld 3), sP (fCon 36),
  sP (fII (fun x y => x - y)), sP (fCon 2), sRI (gDiv zrem), sGo 71, sP (fCon 0), sWr wAI,
  sP (fInc 3 1), sGo 51, sP (fAld 0), sCV 209 1 (some 12) 4, sP (fAld 0), sRI (gFI 776),
  sBr (c1 (zc0 .ne)) 93, sP (fAld 0), sRI (gFI 773), sBr (c1 (zc0 .eq)) 93, sP (fIld 1), sSw [(0, 84), (1, 87)] 90,
  sP (fAld 0), sCV 218 1 (some 12) 4, sGo 76, sP (fAld 0), sCV 219 1 (some 12) 10, sGo 76,
  sP (fAld 0), sCV 220 1 (some 12) 7, sGo 76, sP (fAld 0), sRR (gFR 768), sP (fCon 5),
  sRI gAI, sBr (c1 (zc0 .eq)) 100, sP (fCon (-1)), sRet rI, sP (fIld 2), sP (fCon (-1)),
  sBr (c2 (zcI .ne)) 108, sP (fAld 0), sRR (gFR 768), sP (fIld 1), sRI gAI, sGo 109,
  sP (fIld 2), sP (fIst 3), sP (fIld 2), sP (fCon (-1)), sBr (c2 (zcI .ne)) 121, sP (fAld 0),
  sRR (gFR 768), sP (fIld 1), sP fDup2, sRI gAI, sP (fCon 1), sP (fII (fun x y => x + y)),
  sWr wAI, sP (fCon 0), sP (fIst 4), sP (fIld 4), sP (fIld 1), sCI 222 1 none 1,
  sBr (c2 (zcI .ge)) 141, sP (fAld 0), sRR (gFR 768), sP (fIld 1), sP (fIld 3), sCI 221 2 none 2,
  sP (fIld 4), sP (fII (fun x y => x + y)), sP (fAld 0), sRR (gFR 777), sP (fIld 4), sRI gAI,
  sWr wAI, sP (fInc 4 1), sGo 123, sP (fIld 3), sRet rI]
set_option maxRecDepth 100000 in
theorem ck_224 : in_224.map (fun q => zsem zTb (zlk zPl_12) (ztg in_224 q.1) false q.2.1) = cd_224.map some := rfl
/-- Model_fault -/
def in_225 : List zIns := [(0, .iload_n 1, 1), (1, .ifCond .ne 12, 3), (4, .aload_n 0, 1), (5, .getfield 7, 3), (8, .iconst 5, 1), (9, .iaload, 1), (10, .goto 19, 3), (13, .iload_n 1, 1),
  (14, .iconst 1, 1), (15, .if_icmp .ne 13, 3), (18, .aload_n 0, 1), (19, .getfield 7, 3), (22, .bipush 6, 2), (24, .iaload, 1), (25, .goto 4, 3), (28, .iconst (-1), 1),
  (29, .ireturn, 1)]
def cd_225 : List zSem := [sP (fIld 1), sBr (c1 (zc0 .ne)) 7, sP (fAld 0), sRR (gFR 768), sP (fCon 5), sRI gAI,
  sGo 16, sP (fIld 1), sP (fCon 1), sBr (c2 (zcI .ne)) 15, sP (fAld 0), sRR (gFR 768),
  sP (fCon 6), sRI gAI, sGo 16, sP (fCon (-1)), sRet rI]
set_option maxRecDepth 100000 in
theorem ck_225 : in_225.map (fun q => zsem zTb (zlk zPl_12) (ztg in_225 q.1) false q.2.1) = cd_225.map some := rfl
/-- Model_isDuchy -/
def in_226 : List zIns := [(0, .aload_n 0, 1), (1, .iconst 0, 1), (2, .iload_n 1, 1), (3, .invokevirtual 145, 3), (6, .ifCond .ne 5, 3), (9, .iconst 0, 1), (10, .ireturn, 1), (11, .aload_n 0, 1),
  (12, .iconst 0, 1), (13, .iload_n 1, 1), (14, .invokestatic 161, 3), (17, .putfield 164, 3), (20, .aload_n 0, 1), (21, .aload_n 0, 1), (22, .getfield 7, 3), (25, .aload_n 0, 1),
  (26, .getfield 164, 3), (29, .iaload, 1), (30, .putfield 167, 3), (33, .aload_n 0, 1), (34, .aload_n 0, 1), (35, .getfield 7, 3), (38, .aload_n 0, 1), (39, .getfield 164, 3),
  (42, .iconst 1, 1), (43, .iadd, 1), (44, .iaload, 1), (45, .putfield 170, 3), (48, .aload_n 0, 1), (49, .aload_n 0, 1), (50, .getfield 7, 3), (53, .aload_n 0, 1),
  (54, .getfield 164, 3), (57, .iconst 2, 1), (58, .iadd, 1), (59, .iaload, 1), (60, .putfield 173, 3), (63, .iconst 1, 1), (64, .ireturn, 1)]
def cd_226 : List zSem := [sP (fAld 0), sP (fCon 0), sP (fIld 1), sCI 223 3 (some 12) 3, sBr (c1 (zc0 .ne)) 7, sP (fCon 0),
  sRz, sP (fAld 0), sP (fCon 0), sP (fIld 1), sCI 221 2 none 2, sWr (wFI 778),
  sP (fAld 0), sP (fAld 0), sRR (gFR 768), sP (fAld 0), sRI (gFI 778), sRI gAI,
  sWr (wFI 779), sP (fAld 0), sP (fAld 0), sRR (gFR 768), sP (fAld 0), sRI (gFI 778),
  sP (fCon 1), sP (fII (fun x y => x + y)), sRI gAI, sWr (wFI 780), sP (fAld 0), sP (fAld 0),
  sRR (gFR 768), sP (fAld 0), sRI (gFI 778), sP (fCon 2), sP (fII (fun x y => x + y)), sRI gAI,
  sWr (wFI 781), sP (fCon 1), sRz]
set_option maxRecDepth 100000 in
theorem ck_226 : in_226.map (fun q => zsem zTb (zlk zPl_12) (ztg in_226 q.1) true q.2.1) = cd_226.map some := rfl
/-- Model_isReed -/
def in_227 : List zIns := [(0, .iload_n 1, 1), (1, .iconst 0, 1), (2, .aload_n 0, 1), (3, .getfield 167, 3), (6, .iconst 1, 1), (7, .isub, 1), (8, .invokestatic 114, 3), (11, .ireturn, 1)]
def cd_227 : List zSem := [sP (fIld 1), sP (fCon 0), sP (fAld 0), sRI (gFI 779), sP (fCon 1), sP (fII (fun x y => x - y)),
  sCI 200 3 none 3, sRz]
set_option maxRecDepth 100000 in
theorem ck_227 : in_227.map (fun q => zsem zTb (zlk zPl_12) (ztg in_227 q.1) true q.2.1) = cd_227.map some := rfl
/-- Model_isPlayer -/
def in_228 : List zIns := [(0, .iload_n 1, 1), (1, .iconst 0, 1), (2, .aload_n 0, 1), (3, .getfield 170, 3), (6, .iconst 1, 1), (7, .isub, 1), (8, .invokestatic 114, 3), (11, .ireturn, 1)]
def cd_228 : List zSem := [sP (fIld 1), sP (fCon 0), sP (fAld 0), sRI (gFI 780), sP (fCon 1), sP (fII (fun x y => x - y)),
  sCI 200 3 none 3, sRz]
set_option maxRecDepth 100000 in
theorem ck_228 : in_228.map (fun q => zsem zTb (zlk zPl_12) (ztg in_228 q.1) true q.2.1) = cd_228.map some := rfl
/-- Model_isQuestion -/
def in_229 : List zIns := [(0, .iload_n 1, 1), (1, .iconst 0, 1), (2, .aload_n 0, 1), (3, .getfield 173, 3), (6, .iconst 1, 1), (7, .isub, 1), (8, .invokestatic 114, 3), (11, .ireturn, 1)]
def cd_229 : List zSem := [sP (fIld 1), sP (fCon 0), sP (fAld 0), sRI (gFI 781), sP (fCon 1), sP (fII (fun x y => x - y)),
  sCI 200 3 none 3, sRz]
set_option maxRecDepth 100000 in
theorem ck_229 : in_229.map (fun q => zsem zTb (zlk zPl_12) (ztg in_229 q.1) true q.2.1) = cd_229.map some := rfl
/-- Model_wetOf -/
def in_230 : List zIns := [(0, .aload_n 0, 1), (1, .getfield 7, 3), (4, .aload_n 0, 1), (5, .getfield 164, 3), (8, .iconst 4, 1), (9, .iadd, 1), (10, .iconst 2, 1), (11, .iload_n 1, 1),
  (12, .imul, 1), (13, .iadd, 1), (14, .iaload, 1), (15, .ireturn, 1)]
def cd_230 : List zSem := [sP (fAld 0), sRR (gFR 768), sP (fAld 0), sRI (gFI 778), sP (fCon 4), sP (fII (fun x y => x + y)),
  sP (fCon 2), sP (fIld 1), sP (fII (fun x y => x * y)), sP (fII (fun x y => x + y)), sRI gAI, sRet rI]
set_option maxRecDepth 100000 in
theorem ck_230 : in_230.map (fun q => zsem zTb (zlk zPl_12) (ztg in_230 q.1) false q.2.1) = cd_230.map some := rfl
/-- Model_keyOf -/
def in_231 : List zIns := [(0, .aload_n 0, 1), (1, .getfield 7, 3), (4, .aload_n 0, 1), (5, .getfield 164, 3), (8, .iconst 4, 1), (9, .iadd, 1), (10, .iconst 1, 1), (11, .iadd, 1),
  (12, .iconst 2, 1), (13, .iload_n 1, 1), (14, .imul, 1), (15, .iadd, 1), (16, .iaload, 1), (17, .ireturn, 1)]
def cd_231 : List zSem := [sP (fAld 0), sRR (gFR 768), sP (fAld 0), sRI (gFI 778), sP (fCon 4), sP (fII (fun x y => x + y)),
  sP (fCon 1), sP (fII (fun x y => x + y)), sP (fCon 2), sP (fIld 1), sP (fII (fun x y => x * y)), sP (fII (fun x y => x + y)),
  sRI gAI, sRet rI]
set_option maxRecDepth 100000 in
theorem ck_231 : in_231.map (fun q => zsem zTb (zlk zPl_12) (ztg in_231 q.1) false q.2.1) = cd_231.map some := rfl
/-- Model_breathOf -/
def in_232 : List zIns := [(0, .aload_n 0, 1), (1, .getfield 7, 3), (4, .aload_n 0, 1), (5, .getfield 164, 3), (8, .bipush 16, 2), (10, .iadd, 1), (11, .iload_n 1, 1), (12, .iadd, 1),
  (13, .iaload, 1), (14, .ireturn, 1)]
def cd_232 : List zSem := [sP (fAld 0), sRR (gFR 768), sP (fAld 0), sRI (gFI 778), sP (fCon 16), sP (fII (fun x y => x + y)),
  sP (fIld 1), sP (fII (fun x y => x + y)), sRI gAI, sRet rI]
set_option maxRecDepth 100000 in
theorem ck_232 : in_232.map (fun q => zsem zTb (zlk zPl_12) (ztg in_232 q.1) false q.2.1) = cd_232.map some := rfl
/-- Model_depthOf -/
def in_233 : List zIns := [(0, .aload_n 0, 1), (1, .getfield 7, 3), (4, .aload_n 0, 1), (5, .getfield 164, 3), (8, .bipush 20, 2), (10, .iadd, 1), (11, .iconst 2, 1), (12, .iload_n 1, 1),
  (13, .imul, 1), (14, .iadd, 1), (15, .iaload, 1), (16, .ireturn, 1)]
def cd_233 : List zSem := [sP (fAld 0), sRR (gFR 768), sP (fAld 0), sRI (gFI 778), sP (fCon 20), sP (fII (fun x y => x + y)),
  sP (fCon 2), sP (fIld 1), sP (fII (fun x y => x * y)), sP (fII (fun x y => x + y)), sRI gAI, sRet rI]
set_option maxRecDepth 100000 in
theorem ck_233 : in_233.map (fun q => zsem zTb (zlk zPl_12) (ztg in_233 q.1) false q.2.1) = cd_233.map some := rfl
/-- Model_kindOf -/
def in_234 : List zIns := [(0, .aload_n 0, 1), (1, .getfield 7, 3), (4, .aload_n 0, 1), (5, .getfield 164, 3), (8, .bipush 20, 2), (10, .iadd, 1), (11, .iconst 1, 1), (12, .iadd, 1),
  (13, .iconst 2, 1), (14, .iload_n 1, 1), (15, .imul, 1), (16, .iadd, 1), (17, .iaload, 1), (18, .ireturn, 1)]
def cd_234 : List zSem := [sP (fAld 0), sRR (gFR 768), sP (fAld 0), sRI (gFI 778), sP (fCon 20), sP (fII (fun x y => x + y)),
  sP (fCon 1), sP (fII (fun x y => x + y)), sP (fCon 2), sP (fIld 1), sP (fII (fun x y => x * y)), sP (fII (fun x y => x + y)),
  sRI gAI, sRet rI]
set_option maxRecDepth 100000 in
theorem ck_234 : in_234.map (fun q => zsem zTb (zlk zPl_12) (ztg in_234 q.1) false q.2.1) = cd_234.map some := rfl
/-- Model_duchy -/
def in_235 : List zIns := [(0, .aload_n 0, 1), (1, .iload_n 1, 1), (2, .invokevirtual 176, 3), (5, .ifCond .ne 5, 3), (8, .iconst (-1), 1), (9, .ireturn, 1), (10, .iload_n 2, 1), (11, .iconst 0, 1),
  (12, .iconst 3, 1), (13, .invokestatic 114, 3), (16, .ifCond .eq 15, 3), (19, .aload_n 0, 1), (20, .getfield 7, 3), (23, .aload_n 0, 1), (24, .getfield 164, 3), (27, .iload_n 2, 1),
  (28, .iadd, 1), (29, .iaload, 1), (30, .ireturn, 1), (31, .iload_n 2, 1), (32, .bipush 10, 2), (34, .irem, 1), (35, .istore_n 3, 1), (36, .iload_n 2, 1),
  (37, .bipush 10, 2), (39, .idiv, 1), (40, .tableswitch 155 1 6 #[40, 58, 76, 94, 112, 130], 40), (80, .aload_n 0, 1), (81, .iload_n 3, 1), (82, .invokevirtual 179, 3), (85, .ifCond .eq 11, 3), (88, .aload_n 0, 1),
  (89, .iload_n 3, 1), (90, .invokevirtual 182, 3), (93, .goto 4, 3), (96, .iconst (-1), 1), (97, .ireturn, 1), (98, .aload_n 0, 1), (99, .iload_n 3, 1), (100, .invokevirtual 179, 3),
  (103, .ifCond .eq 11, 3), (106, .aload_n 0, 1), (107, .iload_n 3, 1), (108, .invokevirtual 185, 3), (111, .goto 4, 3), (114, .iconst (-1), 1), (115, .ireturn, 1), (116, .aload_n 0, 1),
  (117, .iload_n 3, 1), (118, .invokevirtual 188, 3), (121, .ifCond .eq 11, 3), (124, .aload_n 0, 1), (125, .iload_n 3, 1), (126, .invokevirtual 191, 3), (129, .goto 4, 3), (132, .iconst (-1), 1),
  (133, .ireturn, 1), (134, .aload_n 0, 1), (135, .iload_n 3, 1), (136, .invokevirtual 194, 3), (139, .ifCond .eq 11, 3), (142, .aload_n 0, 1), (143, .iload_n 3, 1), (144, .invokevirtual 197, 3),
  (147, .goto 4, 3), (150, .iconst (-1), 1), (151, .ireturn, 1), (152, .aload_n 0, 1), (153, .iload_n 3, 1), (154, .invokevirtual 194, 3), (157, .ifCond .eq 11, 3), (160, .aload_n 0, 1),
  (161, .iload_n 3, 1), (162, .invokevirtual 200, 3), (165, .goto 4, 3), (168, .iconst (-1), 1), (169, .ireturn, 1), (170, .iload_n 3, 1), (171, .bipush 8, 2), (173, .if_icmp .ge 20, 3),
  (176, .aload_n 0, 1), (177, .getfield 7, 3), (180, .aload_n 0, 1), (181, .getfield 164, 3), (184, .bipush 36, 2), (186, .iadd, 1), (187, .iload_n 3, 1), (188, .iadd, 1),
  (189, .iaload, 1), (190, .goto 4, 3), (193, .iconst (-1), 1), (194, .ireturn, 1), (195, .iconst (-1), 1), (196, .ireturn, 1)]
def cd_235 : List zSem := [sP (fAld 0), sP (fIld 1), sCI 226 2 (some 12) 2, sBr (c1 (zc0 .ne)) 6, sP (fCon (-1)), sRet rI,
  sP (fIld 2), sP (fCon 0), sP (fCon 3), sCI 200 3 none 3, sBr (c1 (zc0 .eq)) 19, sP (fAld 0),
  sRR (gFR 768), sP (fAld 0), sRI (gFI 778), sP (fIld 2), sP (fII (fun x y => x + y)), sRI gAI,
  sRet rI, sP (fIld 2), sP (fCon 10), sRI (gDiv zrem), sP (fIst 3), sP (fIld 2),
  sP (fCon 10), sRI (gDiv (fun x y => x / y)), sSw [(1, 27), (2, 37), (3, 47), (4, 57), (5, 67), (6, 77)] 92, sP (fAld 0), sP (fIld 3), sCI 227 2 (some 12) 2,
  sBr (c1 (zc0 .eq)) 35, sP (fAld 0), sP (fIld 3), sCI 230 2 (some 12) 2, sGo 36, sP (fCon (-1)),
  sRet rI, sP (fAld 0), sP (fIld 3), sCI 227 2 (some 12) 2, sBr (c1 (zc0 .eq)) 45, sP (fAld 0),
  sP (fIld 3), sCI 231 2 (some 12) 2, sGo 46, sP (fCon (-1)), sRet rI, sP (fAld 0),
  sP (fIld 3), sCI 228 2 (some 12) 2, sBr (c1 (zc0 .eq)) 55, sP (fAld 0), sP (fIld 3), sCI 232 2 (some 12) 2,
  sGo 56, sP (fCon (-1)), sRet rI, sP (fAld 0), sP (fIld 3), sCI 229 2 (some 12) 2,
  sBr (c1 (zc0 .eq)) 65, sP (fAld 0), sP (fIld 3), sCI 233 2 (some 12) 2, sGo 66, sP (fCon (-1)),
  sRet rI, sP (fAld 0), sP (fIld 3), sCI 229 2 (some 12) 2, sBr (c1 (zc0 .eq)) 75, sP (fAld 0),
  sP (fIld 3), sCI 234 2 (some 12) 2, sGo 76, sP (fCon (-1)), sRet rI, sP (fIld 3),
  sP (fCon 8), sBr (c2 (zcI .ge)) 90, sP (fAld 0), sRR (gFR 768), sP (fAld 0), sRI (gFI 778),
  sP (fCon 36), sP (fII (fun x y => x + y)), sP (fIld 3), sP (fII (fun x y => x + y)), sRI gAI, sGo 91,
  sP (fCon (-1)), sRet rI, sP (fCon (-1)), sRet rI]
set_option maxRecDepth 100000 in
theorem ck_235 : in_235.map (fun q => zsem zTb (zlk zPl_12) (ztg in_235 q.1) false q.2.1) = cd_235.map some := rfl
/-- Model_lays -/
def in_236 : List zIns := [(0, .aload_n 0, 1), (1, .aload_n 0, 1), (2, .iload_n 1, 1), (3, .invokevirtual 182, 3), (6, .putfield 203, 3), (9, .aload_n 0, 1), (10, .aload_n 0, 1), (11, .iload_n 1, 1),
  (12, .invokevirtual 185, 3), (15, .putfield 206, 3), (18, .aload_n 0, 1), (19, .aload_n 0, 1), (20, .getfield 7, 3), (23, .aload_n 0, 1), (24, .getfield 164, 3), (27, .iconst 3, 1),
  (28, .iadd, 1), (29, .iaload, 1), (30, .putfield 209, 3), (33, .return_, 1)]
def cd_236 : List zSem := [sP (fAld 0), sP (fAld 0), sP (fIld 1), sCI 230 2 (some 12) 2, sWr (wFI 782), sP (fAld 0),
  sP (fAld 0), sP (fIld 1), sCI 231 2 (some 12) 2, sWr (wFI 783), sP (fAld 0), sP (fAld 0),
  sRR (gFR 768), sP (fAld 0), sRI (gFI 778), sP (fCon 3), sP (fII (fun x y => x + y)), sRI gAI,
  sWr (wFI 784), sRet rV]
set_option maxRecDepth 100000 in
theorem ck_236 : in_236.map (fun q => zsem zTb (zlk zPl_12) (ztg in_236 q.1) false q.2.1) = cd_236.map some := rfl
/-- Model_noteOf -/
def in_237 : List zIns := [(0, .aload_n 0, 1), (1, .iload_n 2, 1), (2, .invokevirtual 197, 3), (5, .aload_n 0, 1), (6, .getfield 203, 3), (9, .aload_n 0, 1), (10, .iload_n 1, 1), (11, .invokevirtual 191, 3),
  (14, .iadd, 1), (15, .if_icmp .le 5, 3), (18, .iconst (-1), 1), (19, .ireturn, 1), (20, .iconst 3, 1), (21, .aload_n 0, 1), (22, .getfield 203, 3), (25, .imul, 1),
  (26, .aload_n 0, 1), (27, .iload_n 1, 1), (28, .invokevirtual 191, 3), (31, .iadd, 1), (32, .aload_n 0, 1), (33, .getfield 206, 3), (36, .iadd, 1), (37, .iconst 5, 1),
  (38, .aload_n 0, 1), (39, .iload_n 2, 1), (40, .invokevirtual 200, 3), (43, .imul, 1), (44, .iadd, 1), (45, .aload_n 0, 1), (46, .iload_n 2, 1), (47, .invokevirtual 197, 3),
  (50, .iadd, 1), (51, .bipush 16, 2), (53, .iadd, 1), (54, .aload_n 0, 1), (55, .getfield 209, 3), (58, .isub, 1), (59, .bipush 8, 2), (61, .irem, 1),
  (62, .ireturn, 1)]
def cd_237 : List zSem := [sP (fAld 0), sP (fIld 2), sCI 233 2 (some 12) 2, sP (fAld 0), sRI (gFI 782), sP (fAld 0),
  sP (fIld 1), sCI 232 2 (some 12) 2, sP (fII (fun x y => x + y)), sBr (c2 (zcI .le)) 12, sP (fCon (-1)), sRet rI,
  sP (fCon 3), sP (fAld 0), sRI (gFI 782), sP (fII (fun x y => x * y)), sP (fAld 0), sP (fIld 1),
  sCI 232 2 (some 12) 2, sP (fII (fun x y => x + y)), sP (fAld 0), sRI (gFI 783), sP (fII (fun x y => x + y)), sP (fCon 5),
  sP (fAld 0), sP (fIld 2), sCI 234 2 (some 12) 2, sP (fII (fun x y => x * y)), sP (fII (fun x y => x + y)), sP (fAld 0),
  sP (fIld 2), sCI 233 2 (some 12) 2, sP (fII (fun x y => x + y)), sP (fCon 16), sP (fII (fun x y => x + y)), sP (fAld 0),
  sRI (gFI 784), sP (fII (fun x y => x - y)), sP (fCon 8), sRI (gDiv zrem), sRet rI]
set_option maxRecDepth 100000 in
theorem ck_237 : in_237.map (fun q => zsem zTb (zlk zPl_12) (ztg in_237 q.1) false q.2.1) = cd_237.map some := rfl
/-- Model_meant -/
def in_238 : List zIns := [(0, .iload_n 1, 1), (1, .iconst (-1), 1), (2, .if_icmp .ne 7, 3), (5, .iconst (-1), 1), (6, .goto 17, 3), (9, .aload_n 0, 1), (10, .getfield 7, 3), (13, .aload_n 0, 1),
  (14, .getfield 164, 3), (17, .bipush 36, 2), (19, .iadd, 1), (20, .iload_n 1, 1), (21, .iadd, 1), (22, .iaload, 1), (23, .ireturn, 1)]
def cd_238 : List zSem := [sP (fIld 1), sP (fCon (-1)), sBr (c2 (zcI .ne)) 5, sP (fCon (-1)), sGo 14, sP (fAld 0),
  sRR (gFR 768), sP (fAld 0), sRI (gFI 778), sP (fCon 36), sP (fII (fun x y => x + y)), sP (fIld 1),
  sP (fII (fun x y => x + y)), sRI gAI, sRet rI]
set_option maxRecDepth 100000 in
theorem ck_238 : in_238.map (fun q => zsem zTb (zlk zPl_12) (ztg in_238 q.1) false q.2.1) = cd_238.map some := rfl
/-- Model_answerOf -/
def in_239 : List zIns := [(0, .aload_n 0, 1), (1, .aload_n 0, 1), (2, .iload_n 1, 1), (3, .iload_n 2, 1), (4, .invokevirtual 212, 3), (7, .invokevirtual 215, 3), (10, .ireturn, 1)]
def cd_239 : List zSem := [sP (fAld 0), sP (fAld 0), sP (fIld 1), sP (fIld 2), sCI 237 3 (some 12) 3, sCI 238 2 (some 12) 2,
  sRet rI]
set_option maxRecDepth 100000 in
theorem ck_239 : in_239.map (fun q => zsem zTb (zlk zPl_12) (ztg in_239 q.1) false q.2.1) = cd_239.map some := rfl
/-- Model_areThree -/
def in_240 : List zIns := [(0, .aload_n 0, 1), (1, .iload_n 1, 1), (2, .invokevirtual 176, 3), (5, .ifCond .eq 32, 3), (8, .aload_n 0, 1), (9, .iload_n 2, 1), (10, .invokevirtual 179, 3), (13, .ifCond .eq 24, 3),
  (16, .aload_n 0, 1), (17, .iload_n 3, 1), (18, .invokevirtual 188, 3), (21, .ifCond .eq 16, 3), (24, .aload_n 0, 1), (25, .iload 4, 2), (27, .invokevirtual 194, 3), (30, .ifCond .eq 7, 3),
  (33, .iconst 1, 1), (34, .goto 4, 3), (37, .iconst 0, 1), (38, .ireturn, 1)]
def cd_240 : List zSem := [sP (fAld 0), sP (fIld 1), sCI 226 2 (some 12) 2, sBr (c1 (zc0 .eq)) 18, sP (fAld 0), sP (fIld 2),
  sCI 227 2 (some 12) 2, sBr (c1 (zc0 .eq)) 18, sP (fAld 0), sP (fIld 3), sCI 228 2 (some 12) 2, sBr (c1 (zc0 .eq)) 18,
  sP (fAld 0), sP (fIld 4), sCI 229 2 (some 12) 2, sBr (c1 (zc0 .eq)) 18, sP (fCon 1), sGo 19,
  sP (fCon 0), sRz]
set_option maxRecDepth 100000 in
theorem ck_240 : in_240.map (fun q => zsem zTb (zlk zPl_12) (ztg in_240 q.1) true q.2.1) = cd_240.map some := rfl
/-- Model_note -/
def in_241 : List zIns := [(0, .aload_n 0, 1), (1, .iload_n 1, 1), (2, .iload_n 2, 1), (3, .iload_n 3, 1), (4, .iload 4, 2), (6, .invokevirtual 218, 3), (9, .ifCond .ne 6, 3), (12, .bipush (-2), 2),
  (14, .ireturn, 1), (15, .aload_n 0, 1), (16, .iload_n 2, 1), (17, .invokevirtual 222, 3), (20, .iload 5, 2), (22, .ifCond .eq 13, 3), (25, .aload_n 0, 1), (26, .iload_n 3, 1),
  (27, .iload 4, 2), (29, .invokevirtual 226, 3), (32, .goto 10, 3), (35, .aload_n 0, 1), (36, .iload_n 3, 1), (37, .iload 4, 2), (39, .invokevirtual 212, 3), (42, .ireturn, 1)]
def cd_241 : List zSem := [sP (fAld 0), sP (fIld 1), sP (fIld 2), sP (fIld 3), sP (fIld 4), sCI 240 5 (some 12) 5,
  sBr (c1 (zc0 .ne)) 9, sP (fCon (-2)), sRet rI, sP (fAld 0), sP (fIld 2), sCV 236 2 (some 12) 2,
  sP (fIld 5), sBr (c1 (zc0 .eq)) 19, sP (fAld 0), sP (fIld 3), sP (fIld 4), sCI 239 3 (some 12) 3,
  sGo 23, sP (fAld 0), sP (fIld 3), sP (fIld 4), sCI 237 3 (some 12) 3, sRet rI]
set_option maxRecDepth 100000 in
theorem ck_241 : in_241.map (fun q => zsem zTb (zlk zPl_12) (ztg in_241 q.1) false q.2.1) = cd_241.map some := rfl
/-- Model_acted -/
def in_242 : List zIns := [(0, .iload_n 0, 1), (1, .bipush 80, 2), (3, .idiv, 1), (4, .istore_n 2, 1), (5, .iload_n 0, 1), (6, .bipush 10, 2), (8, .idiv, 1), (9, .bipush 8, 2),
  (11, .irem, 1), (12, .istore_n 3, 1), (13, .iload_n 0, 1), (14, .bipush 10, 2), (16, .irem, 1), (17, .istore 4, 2), (19, .iload_n 1, 1), (20, .tableswitch 102 0 3 #[32, 58, 76, 89], 32),
  (52, .bipush 80, 2), (54, .iload_n 2, 1), (55, .bipush 6, 2), (57, .if_icmp .le 8, 3), (60, .bipush 9, 2), (62, .goto 6, 3), (65, .iload_n 2, 1), (66, .iconst 3, 1),
  (67, .iadd, 1), (68, .imul, 1), (69, .bipush 10, 2), (71, .iload_n 3, 1), (72, .imul, 1), (73, .iadd, 1), (74, .iload 4, 2), (76, .iadd, 1),
  (77, .ireturn, 1), (78, .bipush 80, 2), (80, .iload_n 2, 1), (81, .imul, 1), (82, .bipush 10, 2), (84, .iload_n 3, 1), (85, .iconst 1, 1), (86, .iadd, 1),
  (87, .bipush 8, 2), (89, .irem, 1), (90, .imul, 1), (91, .iadd, 1), (92, .iload 4, 2), (94, .iadd, 1), (95, .ireturn, 1), (96, .iload_n 2, 1),
  (97, .ifCond .le 10, 3), (100, .iload_n 0, 1), (101, .bipush 80, 2), (103, .isub, 1), (104, .goto 4, 3), (107, .iload_n 0, 1), (108, .ireturn, 1), (109, .iload 4, 2),
  (111, .ifCond .le 9, 3), (114, .iload_n 0, 1), (115, .iconst 1, 1), (116, .isub, 1), (117, .goto 4, 3), (120, .iload_n 0, 1), (121, .ireturn, 1), (122, .iload 4, 2),
  (124, .bipush 9, 2), (126, .if_icmp .ge 9, 3), (129, .iload_n 0, 1), (130, .iconst 1, 1), (131, .iadd, 1), (132, .goto 4, 3), (135, .iload_n 0, 1), (136, .ireturn, 1)]
def cd_242 : List zSem := [sP (fIld 0), sP (fCon 80), sRI (gDiv (fun x y => x / y)), sP (fIst 2), sP (fIld 0), sP (fCon 10),
  sRI (gDiv (fun x y => x / y)), sP (fCon 8), sRI (gDiv zrem), sP (fIst 3), sP (fIld 0), sP (fCon 10),
  sRI (gDiv zrem), sP (fIst 4), sP (fIld 1), sSw [(0, 16), (1, 33), (2, 47), (3, 55)] 63, sP (fCon 80), sP (fIld 2),
  sP (fCon 6), sBr (c2 (zcI .le)) 22, sP (fCon 9), sGo 25, sP (fIld 2), sP (fCon 3),
  sP (fII (fun x y => x + y)), sP (fII (fun x y => x * y)), sP (fCon 10), sP (fIld 3), sP (fII (fun x y => x * y)), sP (fII (fun x y => x + y)),
  sP (fIld 4), sP (fII (fun x y => x + y)), sRet rI, sP (fCon 80), sP (fIld 2), sP (fII (fun x y => x * y)),
  sP (fCon 10), sP (fIld 3), sP (fCon 1), sP (fII (fun x y => x + y)), sP (fCon 8), sRI (gDiv zrem),
  sP (fII (fun x y => x * y)), sP (fII (fun x y => x + y)), sP (fIld 4), sP (fII (fun x y => x + y)), sRet rI, sP (fIld 2),
  sBr (c1 (zc0 .le)) 53, sP (fIld 0), sP (fCon 80), sP (fII (fun x y => x - y)), sGo 54, sP (fIld 0),
  sRet rI, sP (fIld 4), sBr (c1 (zc0 .le)) 61, sP (fIld 0), sP (fCon 1), sP (fII (fun x y => x - y)),
  sGo 62, sP (fIld 0), sRet rI, sP (fIld 4), sP (fCon 9), sBr (c2 (zcI .ge)) 70,
  sP (fIld 0), sP (fCon 1), sP (fII (fun x y => x + y)), sGo 71, sP (fIld 0), sRet rI]
set_option maxRecDepth 100000 in
theorem ck_242 : in_242.map (fun q => zsem zTb (zlk zPl_12) (ztg in_242 q.1) false q.2.1) = cd_242.map some := rfl
/-- Model_laysActs -/
def in_243 : List zIns := [(0, .iconst 0, 1), (1, .istore 4, 2), (3, .iload 4, 2), (5, .sipush 800, 3), (8, .if_icmp .ge 62, 3), (11, .aload_n 0, 1), (12, .iload 4, 2), (14, .bipush 80, 2),
  (16, .idiv, 1), (17, .putfield 203, 3), (20, .aload_n 0, 1), (21, .iload 4, 2), (23, .bipush 10, 2), (25, .idiv, 1), (26, .bipush 8, 2), (28, .irem, 1),
  (29, .putfield 206, 3), (32, .aload_n 0, 1), (33, .iload 4, 2), (35, .bipush 10, 2), (37, .irem, 1), (38, .putfield 209, 3), (41, .aload_n 0, 1), (42, .getfield 20, 3),
  (45, .iload 4, 2), (47, .aload_n 0, 1), (48, .iload_n 1, 1), (49, .iload_n 2, 1), (50, .invokevirtual 226, 3), (53, .iload_n 3, 1), (54, .if_icmp .ne 7, 3), (57, .iconst 0, 1),
  (58, .goto 5, 3), (61, .ldc 229, 2), (63, .iastore, 1), (64, .iinc 4 1, 3), (67, .goto (-64), 3), (70, .iconst 1, 1), (71, .istore 4, 2), (73, .iload 4, 2),
  (75, .ifCond .eq 92, 3), (78, .iconst 0, 1), (79, .istore 4, 2), (81, .iconst 0, 1), (82, .istore 5, 2), (84, .iload 5, 2), (86, .sipush 800, 3), (89, .if_icmp .ge 75, 3),
  (92, .iconst 0, 1), (93, .istore 6, 2), (95, .iload 6, 2), (97, .iconst 5, 1), (98, .if_icmp .ge 60, 3), (101, .aload_n 0, 1), (102, .getfield 20, 3), (105, .iload 5, 2),
  (107, .iload 6, 2), (109, .invokestatic 230, 3), (112, .iaload, 1), (113, .iconst 1, 1), (114, .iadd, 1), (115, .aload_n 0, 1), (116, .getfield 20, 3), (119, .iload 5, 2),
  (121, .iaload, 1), (122, .if_icmp .lt 6, 3), (125, .goto 27, 3), (128, .aload_n 0, 1), (129, .getfield 20, 3), (132, .iload 5, 2), (134, .aload_n 0, 1), (135, .getfield 20, 3),
  (138, .iload 5, 2), (140, .iload 6, 2), (142, .invokestatic 230, 3), (145, .iaload, 1), (146, .iconst 1, 1), (147, .iadd, 1), (148, .iastore, 1), (149, .iconst 1, 1),
  (150, .istore 4, 2), (152, .iinc 6 1, 3), (155, .goto (-60), 3), (158, .iinc 5 1, 3), (161, .goto (-77), 3), (164, .goto (-91), 3), (167, .return_, 1)]
def cd_243 : List zSem := [sP (fCon 0), sP (fIst 4), sP (fIld 4), sP (fCon 800), sBr (c2 (zcI .ge)) 37, sP (fAld 0),
  sP (fIld 4), sP (fCon 80), sRI (gDiv (fun x y => x / y)), sWr (wFI 782), sP (fAld 0), sP (fIld 4),
  sP (fCon 10), sRI (gDiv (fun x y => x / y)), sP (fCon 8), sRI (gDiv zrem), sWr (wFI 783), sP (fAld 0),
  sP (fIld 4), sP (fCon 10), sRI (gDiv zrem), sWr (wFI 784), sP (fAld 0), sRR (gFR 785),
  sP (fIld 4), sP (fAld 0), sP (fIld 1), sP (fIld 2), sCI 239 3 (some 12) 3, sP (fIld 3),
  sBr (c2 (zcI .ne)) 33, sP (fCon 0), sGo 34, sP (fCon 99999), sWr wAI, sP (fInc 4 1),
  sGo 2, sP (fCon 1), sP (fIst 4), sP (fIld 4), sBr (c1 (zc0 .eq)) 86, sP (fCon 0),
  sP (fIst 4), sP (fCon 0), sP (fIst 5), sP (fIld 5), sP (fCon 800), sBr (c2 (zcI .ge)) 85,
  sP (fCon 0), sP (fIst 6), sP (fIld 6), sP (fCon 5), sBr (c2 (zcI .ge)) 83, sP (fAld 0),
  sRR (gFR 785), sP (fIld 5), sP (fIld 6), sCI 242 2 none 5, sRI gAI, sP (fCon 1),
  sP (fII (fun x y => x + y)), sP (fAld 0), sRR (gFR 785), sP (fIld 5), sRI gAI, sBr (c2 (zcI .lt)) 67,
  sGo 81, sP (fAld 0), sRR (gFR 785), sP (fIld 5), sP (fAld 0), sRR (gFR 785),
  sP (fIld 5), sP (fIld 6), sCI 242 2 none 5, sRI gAI, sP (fCon 1), sP (fII (fun x y => x + y)),
  sWr wAI, sP (fCon 1), sP (fIst 4), sP (fInc 6 1), sGo 50, sP (fInc 5 1),
  sGo 45, sGo 39, sRet rV]
set_option maxRecDepth 100000 in
theorem ck_243 : in_243.map (fun q => zsem zTb (zlk zPl_12) (ztg in_243 q.1) false q.2.1) = cd_243.map some := rfl
/-- Model_ready -/
def in_244 : List zIns := [(0, .aload_n 0, 1), (1, .iload_n 1, 1), (2, .iload_n 2, 1), (3, .iload_n 3, 1), (4, .iload 4, 2), (6, .invokevirtual 218, 3), (9, .ifCond .eq 19, 3), (12, .iload 5, 2),
  (14, .iconst 0, 1), (15, .iconst 2, 1), (16, .invokestatic 114, 3), (19, .ifCond .eq 9, 3), (22, .iload 6, 2), (24, .iconst (-1), 1), (25, .if_icmp .ge 5, 3), (28, .iconst (-1), 1),
  (29, .ireturn, 1), (30, .aload_n 0, 1), (31, .iload_n 3, 1), (32, .iload 4, 2), (34, .iload 5, 2), (36, .invokevirtual 233, 3), (39, .bipush 80, 2), (41, .aload_n 0, 1),
  (42, .iload_n 2, 1), (43, .invokevirtual 182, 3), (46, .imul, 1), (47, .bipush 10, 2), (49, .aload_n 0, 1), (50, .iload_n 2, 1), (51, .invokevirtual 185, 3), (54, .imul, 1),
  (55, .iadd, 1), (56, .aload_n 0, 1), (57, .getfield 7, 3), (60, .aload_n 0, 1), (61, .getfield 164, 3), (64, .iconst 3, 1), (65, .iadd, 1), (66, .iaload, 1),
  (67, .iadd, 1), (68, .istore 7, 2), (70, .aload_n 0, 1), (71, .getfield 20, 3), (74, .iload 7, 2), (76, .iaload, 1), (77, .ldc 229, 2), (79, .if_icmp .lt 5, 3),
  (82, .iconst (-1), 1), (83, .ireturn, 1), (84, .iload 6, 2), (86, .iconst (-1), 1), (87, .if_icmp .ne 11, 3), (90, .aload_n 0, 1), (91, .getfield 20, 3), (94, .iload 7, 2),
  (96, .iaload, 1), (97, .ireturn, 1), (98, .iconst 0, 1), (99, .istore 8, 2), (101, .aload_n 0, 1), (102, .getfield 20, 3), (105, .iload 7, 2), (107, .iaload, 1),
  (108, .ifCond .le 61, 3), (111, .iconst 0, 1), (112, .istore 9, 2), (114, .aload_n 0, 1), (115, .getfield 20, 3), (118, .iload 7, 2), (120, .iload 9, 2), (122, .invokestatic 230, 3),
  (125, .iaload, 1), (126, .aload_n 0, 1), (127, .getfield 20, 3), (130, .iload 7, 2), (132, .iaload, 1), (133, .iconst 1, 1), (134, .isub, 1), (135, .if_icmp .eq 9, 3),
  (138, .iinc 9 1, 3), (141, .goto (-27), 3), (144, .iload 8, 2), (146, .iload 6, 2), (148, .if_icmp .ne 6, 3), (151, .iload 9, 2), (153, .ireturn, 1), (154, .iload 7, 2),
  (156, .iload 9, 2), (158, .invokestatic 230, 3), (161, .istore 7, 2), (163, .iinc 8 1, 3), (166, .goto (-65), 3), (169, .iconst (-1), 1), (170, .ireturn, 1)]
def cd_244 : List zSem := [sP (fAld 0), sP (fIld 1), sP (fIld 2), sP (fIld 3), sP (fIld 4), sCI 240 5 (some 12) 5,
  sBr (c1 (zc0 .eq)) 15, sP (fIld 5), sP (fCon 0), sP (fCon 2), sCI 200 3 none 3, sBr (c1 (zc0 .eq)) 15,
  sP (fIld 6), sP (fCon (-1)), sBr (c2 (zcI .ge)) 17, sP (fCon (-1)), sRet rI, sP (fAld 0),
  sP (fIld 3), sP (fIld 4), sP (fIld 5), sCV 243 4 (some 12) 7, sP (fCon 80), sP (fAld 0),
  sP (fIld 2), sCI 230 2 (some 12) 2, sP (fII (fun x y => x * y)), sP (fCon 10), sP (fAld 0), sP (fIld 2),
  sCI 231 2 (some 12) 2, sP (fII (fun x y => x * y)), sP (fII (fun x y => x + y)), sP (fAld 0), sRR (gFR 768), sP (fAld 0),
  sRI (gFI 778), sP (fCon 3), sP (fII (fun x y => x + y)), sRI gAI, sP (fII (fun x y => x + y)), sP (fIst 7),
  sP (fAld 0), sRR (gFR 785), sP (fIld 7), sRI gAI, sP (fCon 99999), sBr (c2 (zcI .lt)) 50,
  sP (fCon (-1)), sRet rI, sP (fIld 6), sP (fCon (-1)), sBr (c2 (zcI .ne)) 58, sP (fAld 0),
  sRR (gFR 785), sP (fIld 7), sRI gAI, sRet rI, sP (fCon 0), sP (fIst 8),
  sP (fAld 0), sRR (gFR 785), sP (fIld 7), sRI gAI, sBr (c1 (zc0 .le)) 93, sP (fCon 0),
  sP (fIst 9), sP (fAld 0), sRR (gFR 785), sP (fIld 7), sP (fIld 9), sCI 242 2 none 5,
  sRI gAI, sP (fAld 0), sRR (gFR 785), sP (fIld 7), sRI gAI, sP (fCon 1),
  sP (fII (fun x y => x - y)), sBr (c2 (zcI .eq)) 82, sP (fInc 9 1), sGo 67, sP (fIld 8), sP (fIld 6),
  sBr (c2 (zcI .ne)) 87, sP (fIld 9), sRet rI, sP (fIld 7), sP (fIld 9), sCI 242 2 none 5,
  sP (fIst 7), sP (fInc 8 1), sGo 60, sP (fCon (-1)), sRet rI]
set_option maxRecDepth 100000 in
theorem ck_244 : in_244.map (fun q => zsem zTb (zlk zPl_12) (ztg in_244 q.1) false q.2.1) = cd_244.map some := rfl
/-- Model_gains -/
def in_245 : List zIns := [(0, .aload_n 0, 1), (1, .iload_n 1, 1), (2, .invokevirtual 222, 3), (5, .aload_n 0, 1), (6, .iload_n 2, 1), (7, .iload_n 3, 1), (8, .invokevirtual 226, 3), (11, .iload 4, 2),
  (13, .if_icmp .ne 7, 3), (16, .iconst 1, 1), (17, .goto 4, 3), (20, .iconst 0, 1), (21, .ireturn, 1)]
def cd_245 : List zSem := [sP (fAld 0), sP (fIld 1), sCV 236 2 (some 12) 2, sP (fAld 0), sP (fIld 2), sP (fIld 3),
  sCI 239 3 (some 12) 3, sP (fIld 4), sBr (c2 (zcI .ne)) 11, sP (fCon 1), sGo 12, sP (fCon 0),
  sRet rI]
set_option maxRecDepth 100000 in
theorem ck_245 : in_245.map (fun q => zsem zTb (zlk zPl_12) (ztg in_245 q.1) false q.2.1) = cd_245.map some := rfl
/-- Model_favourBy -/
def in_246 : List zIns := [(0, .iload 4, 2), (2, .bipush 6, 2), (4, .if_icmp .ne 19, 3), (7, .aload_n 0, 1), (8, .getfield 23, 3), (11, .bipush 64, 2), (13, .iload_n 2, 1), (14, .iconst 1, 1),
  (15, .iadd, 1), (16, .imul, 1), (17, .iload_n 3, 1), (18, .iadd, 1), (19, .iaload, 1), (20, .goto 32, 3), (23, .aload_n 0, 1), (24, .iload 4, 2),
  (26, .iload_n 1, 1), (27, .iload_n 2, 1), (28, .iload 5, 2), (30, .invokevirtual 237, 3), (33, .aload_n 0, 1), (34, .getfield 23, 3), (37, .bipush 64, 2), (39, .iload_n 2, 1),
  (40, .iconst 1, 1), (41, .iadd, 1), (42, .imul, 1), (43, .iload_n 3, 1), (44, .iconst 1, 1), (45, .iload 4, 2), (47, .ishl, 1), (48, .ior, 1),
  (49, .iadd, 1), (50, .iaload, 1), (51, .iadd, 1), (52, .ireturn, 1)]
def cd_246 : List zSem := [sP (fIld 4), sP (fCon 6), sBr (c2 (zcI .ne)) 14, sP (fAld 0), sRR (gFR 786), sP (fCon 64),
  sP (fIld 2), sP (fCon 1), sP (fII (fun x y => x + y)), sP (fII (fun x y => x * y)), sP (fIld 3), sP (fII (fun x y => x + y)),
  sRI gAI, sGo 35, sP (fAld 0), sP (fIld 4), sP (fIld 1), sP (fIld 2),
  sP (fIld 5), sCI 245 5 (some 12) 5, sP (fAld 0), sRR (gFR 786), sP (fCon 64), sP (fIld 2),
  sP (fCon 1), sP (fII (fun x y => x + y)), sP (fII (fun x y => x * y)), sP (fIld 3), sP (fCon 1), sP (fIld 4),
  sP (fII zshl), sP (fII (fun x y => x ||| y)), sP (fII (fun x y => x + y)), sRI gAI, sP (fII (fun x y => x + y)), sRet rI]
set_option maxRecDepth 100000 in
theorem ck_246 : in_246.map (fun q => zsem zTb (zlk zPl_12) (ztg in_246 q.1) false q.2.1) = cd_246.map some := rfl
