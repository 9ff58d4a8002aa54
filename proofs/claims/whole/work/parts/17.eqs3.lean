/-! 237 Model_noteOf (II)I -/
set_option maxRecDepth 100000 in
theorem e_Model_noteOf (p0 : Option Nat) (a1 : Int32) (a2 : Int32) (h : zHeap) : zc 237 [zR p0, zI a1, zI a2] h =
    zbI (zv 12 233 [zR p0, zI a2] h) fun x2 h1 =>
    zoI (zgI h1 p0 782) fun x3 =>
    zbI (zv 12 232 [zR p0, zI a1] h1) fun x5 h4 =>
    zif (decide (x2 ≤ (x3 + x5)))
      (zoI (zgI h4 p0 782) fun x6 =>
      zbI (zv 12 232 [zR p0, zI a1] h4) fun x8 h7 =>
      zoI (zgI h7 p0 783) fun x9 =>
      zbI (zv 12 234 [zR p0, zI a2] h7) fun x11 h10 =>
      zbI (zv 12 233 [zR p0, zI a2] h10) fun x13 h12 =>
      zoI (zgI h12 p0 784) fun x14 =>
      zoI (if (i32 8) = 0 then none else some (zrem ((((((((i32 3) * x6) + x8) + x9) + ((i32 5) * x11)) + x13) + (i32 16)) - x14) (i32 8))) fun x15 =>
      some (zI x15, h12))
      (some (zI (i32 (-1)), h4)) := U_237 (zst []) 42 0 [yR p0, yI a1, yI a2] [] h
/-! 238 Model_meant (I)I -/
set_option maxRecDepth 100000 in
theorem e_Model_meant (p0 : Option Nat) (a1 : Int32) (h : zHeap) : zc 238 [zR p0, zI a1] h =
    zif (decide (a1 ≠ (i32 (-1))))
      (zoR (zgR h p0 768) fun r1 =>
      zoI (zgI h p0 778) fun x2 =>
      zoI (zaI h r1 ((x2 + (i32 36)) + a1) 0) fun x3 =>
      some (zI x3, h))
      (some (zI (i32 (-1)), h)) := U_238 (zst []) 16 0 [yR p0, yI a1] [] h
/-! 239 Model_answerOf (II)I -/
set_option maxRecDepth 100000 in
theorem e_Model_answerOf (p0 : Option Nat) (a1 : Int32) (a2 : Int32) (h : zHeap) : zc 239 [zR p0, zI a1, zI a2] h =
    zbI (zv 12 237 [zR p0, zI a1, zI a2] h) fun x2 h1 =>
    zbI (zv 12 238 [zR p0, zI x2] h1) fun x4 h3 =>
    some (zI x4, h3) := U_239 (zst []) 8 0 [yR p0, yI a1, yI a2] [] h
/-! 240 Model_areThree (IIII)Z -/
set_option maxRecDepth 100000 in
theorem e_Model_areThree (p0 : Option Nat) (a1 : Int32) (a2 : Int32) (a3 : Int32) (a4 : Int32) (h : zHeap) : zc 240 [zR p0, zI a1, zI a2, zI a3, zI a4] h =
    zbI (zv 12 226 [zR p0, zI a1] h) fun x2 h1 =>
    zif (decide (x2 = 0))
      (zrz (i32 0) h1)
      (zbI (zv 12 227 [zR p0, zI a2] h1) fun x4 h3 =>
      zif (decide (x4 = 0))
        (zrz (i32 0) h3)
        (zbI (zv 12 228 [zR p0, zI a3] h3) fun x6 h5 =>
        zif (decide (x6 = 0))
          (zrz (i32 0) h5)
          (zbI (zv 12 229 [zR p0, zI a4] h5) fun x8 h7 =>
          zif (decide (x8 = 0))
            (zrz (i32 0) h7)
            (zrz (i32 1) h7)))) := U_240 (zst []) 21 0 [yR p0, yI a1, yI a2, yI a3, yI a4] [] h
/-! 241 Model_note (IIIIZ)I -/
set_option maxRecDepth 100000 in
theorem e_Model_note (p0 : Option Nat) (a1 : Int32) (a2 : Int32) (a3 : Int32) (a4 : Int32) (a5 : Int32) (h : zHeap) : zc 241 [zR p0, zI a1, zI a2, zI a3, zI a4, zI a5] h =
    zbI (zv 12 240 [zR p0, zI a1, zI a2, zI a3, zI a4] h) fun x2 h1 =>
    zif (decide (x2 ≠ 0))
      (zbV (zv 12 236 [zR p0, zI a2] h1) fun h3 =>
      zif (decide (a5 = 0))
        (zbI (zv 12 237 [zR p0, zI a3, zI a4] h3) fun x5 h4 =>
        some (zI x5, h4))
        (zbI (zv 12 239 [zR p0, zI a3, zI a4] h3) fun x7 h6 =>
        some (zI x7, h6)))
      (some (zI (i32 (-2)), h1)) := U_241 (zst []) 25 0 [yR p0, yI a1, yI a2, yI a3, yI a4, yI a5] [] h
/-! 242 Model_acted (II)I -/
set_option maxRecDepth 100000 in
theorem e_Model_acted (a0 : Int32) (a1 : Int32) (h : zHeap) : zc 242 [zI a0, zI a1] h =
    zoI (if (i32 80) = 0 then none else some (a0 / (i32 80))) fun x1 =>
    zoI (if (i32 10) = 0 then none else some (a0 / (i32 10))) fun x2 =>
    zoI (if (i32 8) = 0 then none else some (zrem x2 (i32 8))) fun x3 =>
    zoI (if (i32 10) = 0 then none else some (zrem a0 (i32 10))) fun x4 =>
    zif (decide (a1 = i32 0))
      (zif (decide (x1 ≤ (i32 6)))
        (zr 242 25 [yI a0, yI a1, yI x1, yI x3, yI x4] [zI (x1 + (i32 3)), zI (i32 80)] h)
        (zr 242 25 [yI a0, yI a1, yI x1, yI x3, yI x4] [zI (i32 9), zI (i32 80)] h))
      (zif (decide (a1 = i32 1))
      (zoI (if (i32 8) = 0 then none else some (zrem (x3 + (i32 1)) (i32 8))) fun x5 =>
      some (zI ((((i32 80) * x1) + ((i32 10) * x5)) + x4), h))
      (zif (decide (a1 = i32 2))
      (zif (decide (x1 ≤ 0))
        (zr 242 54 [yI a0, yI a1, yI x1, yI x3, yI x4] [zI a0] h)
        (zr 242 54 [yI a0, yI a1, yI x1, yI x3, yI x4] [zI (a0 - (i32 80))] h))
      (zif (decide (a1 = i32 3))
      (zif (decide (x4 ≤ 0))
        (zr 242 62 [yI a0, yI a1, yI x1, yI x3, yI x4] [zI a0] h)
        (zr 242 62 [yI a0, yI a1, yI x1, yI x3, yI x4] [zI (a0 - (i32 1))] h))
      (zif (decide ((i32 9) ≤ x4))
        (zr 242 71 [yI a0, yI a1, yI x1, yI x3, yI x4] [zI a0] h)
        (zr 242 71 [yI a0, yI a1, yI x1, yI x3, yI x4] [zI (a0 + (i32 1))] h))))) := U_242 (zst [25, 54, 62, 71]) 73 0 [yI a0, yI a1, none, none, none] [] h
set_option maxRecDepth 100000 in
theorem e_Model_acted_25 (a0 : Int32) (a1 : Int32) (a2 : Int32) (a3 : Int32) (a4 : Int32) (s0 : Int32) (s1 : Int32) (h : zHeap) : zr 242 25 [yI a0, yI a1, yI a2, yI a3, yI a4] [zI s1, zI s0] h =
    some (zI (((s0 * s1) + ((i32 10) * a3)) + a4), h) := U_242 (zst [25, 54, 62, 71]) 73 25 [yI a0, yI a1, yI a2, yI a3, yI a4] [zI s1, zI s0] h
set_option maxRecDepth 100000 in
theorem e_Model_acted_54 (a0 : Int32) (a1 : Int32) (a2 : Int32) (a3 : Int32) (a4 : Int32) (s0 : Int32) (h : zHeap) : zr 242 54 [yI a0, yI a1, yI a2, yI a3, yI a4] [zI s0] h =
    some (zI s0, h) := U_242 (zst [25, 54, 62, 71]) 73 54 [yI a0, yI a1, yI a2, yI a3, yI a4] [zI s0] h
set_option maxRecDepth 100000 in
theorem e_Model_acted_62 (a0 : Int32) (a1 : Int32) (a2 : Int32) (a3 : Int32) (a4 : Int32) (s0 : Int32) (h : zHeap) : zr 242 62 [yI a0, yI a1, yI a2, yI a3, yI a4] [zI s0] h =
    some (zI s0, h) := U_242 (zst [25, 54, 62, 71]) 73 62 [yI a0, yI a1, yI a2, yI a3, yI a4] [zI s0] h
set_option maxRecDepth 100000 in
theorem e_Model_acted_71 (a0 : Int32) (a1 : Int32) (a2 : Int32) (a3 : Int32) (a4 : Int32) (s0 : Int32) (h : zHeap) : zr 242 71 [yI a0, yI a1, yI a2, yI a3, yI a4] [zI s0] h =
    some (zI s0, h) := U_242 (zst [25, 54, 62, 71]) 73 71 [yI a0, yI a1, yI a2, yI a3, yI a4] [zI s0] h
/-! 243 Model_laysActs (III)V -/
set_option maxRecDepth 100000 in
theorem e_Model_laysActs (p0 : Option Nat) (a1 : Int32) (a2 : Int32) (a3 : Int32) (h : zHeap) : zc 243 [zR p0, zI a1, zI a2, zI a3] h =
    zr 243 2 [yR p0, yI a1, yI a2, yI a3, yI (i32 0), none, none] [] h := U_243 (zst [2, 39, 45, 50]) 88 0 [yR p0, yI a1, yI a2, yI a3, none, none, none] [] h
set_option maxRecDepth 100000 in
theorem e_Model_laysActs_2 (p0 : Option Nat) (a1 : Int32) (a2 : Int32) (a3 : Int32) (a4 : Int32) (h : zHeap) : zr 243 2 [yR p0, yI a1, yI a2, yI a3, yI a4, none, none] [] h =
    zif (decide ((i32 800) ≤ a4))
      (zr 243 39 [yR p0, yI a1, yI a2, yI a3, yI (i32 1), none, none] [] h)
      (zoI (if (i32 80) = 0 then none else some (a4 / (i32 80))) fun x1 =>
      zoH (zpI h p0 782 x1) fun h2 =>
      zoI (if (i32 10) = 0 then none else some (a4 / (i32 10))) fun x3 =>
      zoI (if (i32 8) = 0 then none else some (zrem x3 (i32 8))) fun x4 =>
      zoH (zpI h2 p0 783 x4) fun h5 =>
      zoI (if (i32 10) = 0 then none else some (zrem a4 (i32 10))) fun x6 =>
      zoH (zpI h5 p0 784 x6) fun h7 =>
      zoR (zgR h7 p0 785) fun r8 =>
      zbI (zv 12 239 [zR p0, zI a1, zI a2] h7) fun x10 h9 =>
      zif (decide (x10 ≠ a3))
        (zoH (zaS h9 r8 a4 (i32 99999)) fun h11 =>
        zr 243 2 [yR p0, yI a1, yI a2, yI a3, yI (a4 + i32 1), none, none] [] h11)
        (zoH (zaS h9 r8 a4 (i32 0)) fun h12 =>
        zr 243 2 [yR p0, yI a1, yI a2, yI a3, yI (a4 + i32 1), none, none] [] h12)) := U_243 (zst [2, 39, 45, 50]) 88 2 [yR p0, yI a1, yI a2, yI a3, yI a4, none, none] [] h
set_option maxRecDepth 100000 in
theorem e_Model_laysActs_39 (p0 : Option Nat) (a1 : Int32) (a2 : Int32) (a3 : Int32) (a4 : Int32) (w5 : Option zVal) (w6 : Option zVal) (h : zHeap) : zr 243 39 [yR p0, yI a1, yI a2, yI a3, yI a4, w5, w6] [] h =
    zif (decide (a4 = 0))
      (some (zI 0, h))
      (zr 243 45 [yR p0, yI a1, yI a2, yI a3, yI (i32 0), yI (i32 0), w6] [] h) := U_243 (zst [2, 39, 45, 50]) 88 39 [yR p0, yI a1, yI a2, yI a3, yI a4, w5, w6] [] h
set_option maxRecDepth 100000 in
theorem e_Model_laysActs_45 (p0 : Option Nat) (a1 : Int32) (a2 : Int32) (a3 : Int32) (a4 : Int32) (a5 : Int32) (w6 : Option zVal) (h : zHeap) : zr 243 45 [yR p0, yI a1, yI a2, yI a3, yI a4, yI a5, w6] [] h =
    zif (decide ((i32 800) ≤ a5))
      (zr 243 39 [yR p0, yI a1, yI a2, yI a3, yI a4, yI a5, w6] [] h)
      (zr 243 50 [yR p0, yI a1, yI a2, yI a3, yI a4, yI a5, yI (i32 0)] [] h) := U_243 (zst [2, 39, 45, 50]) 88 45 [yR p0, yI a1, yI a2, yI a3, yI a4, yI a5, w6] [] h
set_option maxRecDepth 100000 in
theorem e_Model_laysActs_50 (p0 : Option Nat) (a1 : Int32) (a2 : Int32) (a3 : Int32) (a4 : Int32) (a5 : Int32) (a6 : Int32) (h : zHeap) : zr 243 50 [yR p0, yI a1, yI a2, yI a3, yI a4, yI a5, yI a6] [] h =
    zif (decide ((i32 5) ≤ a6))
      (zr 243 45 [yR p0, yI a1, yI a2, yI a3, yI a4, yI (a5 + i32 1), yI a6] [] h)
      (zoR (zgR h p0 785) fun r1 =>
      zbI (zc 242 [zI a5, zI a6] h) fun x3 h2 =>
      zoI (zaI h2 r1 x3 0) fun x4 =>
      zoR (zgR h2 p0 785) fun r5 =>
      zoI (zaI h2 r5 a5 0) fun x6 =>
      zif (decide ((x4 + (i32 1)) < x6))
        (zoR (zgR h2 p0 785) fun r7 =>
        zoR (zgR h2 p0 785) fun r8 =>
        zbI (zc 242 [zI a5, zI a6] h2) fun x10 h9 =>
        zoI (zaI h9 r8 x10 0) fun x11 =>
        zoH (zaS h9 r7 a5 (x11 + (i32 1))) fun h12 =>
        zr 243 50 [yR p0, yI a1, yI a2, yI a3, yI (i32 1), yI a5, yI (a6 + i32 1)] [] h12)
        (zr 243 50 [yR p0, yI a1, yI a2, yI a3, yI a4, yI a5, yI (a6 + i32 1)] [] h2)) := U_243 (zst [2, 39, 45, 50]) 88 50 [yR p0, yI a1, yI a2, yI a3, yI a4, yI a5, yI a6] [] h
/-! 244 Model_ready (IIIIII)I -/
set_option maxRecDepth 100000 in
theorem e_Model_ready (p0 : Option Nat) (a1 : Int32) (a2 : Int32) (a3 : Int32) (a4 : Int32) (a5 : Int32) (a6 : Int32) (h : zHeap) : zc 244 [zR p0, zI a1, zI a2, zI a3, zI a4, zI a5, zI a6] h =
    zbI (zv 12 240 [zR p0, zI a1, zI a2, zI a3, zI a4] h) fun x2 h1 =>
    zif (decide (x2 = 0))
      (some (zI (i32 (-1)), h1))
      (zbI (zc 200 [zI a5, zI (i32 0), zI (i32 2)] h1) fun x4 h3 =>
      zif (decide (x4 = 0))
        (some (zI (i32 (-1)), h3))
        (zif (decide ((i32 (-1)) ≤ a6))
          (zbV (zv 12 243 [zR p0, zI a3, zI a4, zI a5] h3) fun h5 =>
          zbI (zv 12 230 [zR p0, zI a2] h5) fun x7 h6 =>
          zbI (zv 12 231 [zR p0, zI a2] h6) fun x9 h8 =>
          zoR (zgR h8 p0 768) fun r10 =>
          zoI (zgI h8 p0 778) fun x11 =>
          zoI (zaI h8 r10 (x11 + (i32 3)) 0) fun x12 =>
          zoR (zgR h8 p0 785) fun r13 =>
          zoI (zaI h8 r13 ((((i32 80) * x7) + ((i32 10) * x9)) + x12) 0) fun x14 =>
          zif (decide (x14 < (i32 99999)))
            (zif (decide (a6 ≠ (i32 (-1))))
              (zr 244 60 [yR p0, yI a1, yI a2, yI a3, yI a4, yI a5, yI a6, yI ((((i32 80) * x7) + ((i32 10) * x9)) + x12), yI (i32 0), none] [] h8)
              (zoR (zgR h8 p0 785) fun r15 =>
              zoI (zaI h8 r15 ((((i32 80) * x7) + ((i32 10) * x9)) + x12) 0) fun x16 =>
              some (zI x16, h8)))
            (some (zI (i32 (-1)), h8)))
          (some (zI (i32 (-1)), h3)))) := U_244 (zst [60, 67]) 96 0 [yR p0, yI a1, yI a2, yI a3, yI a4, yI a5, yI a6, none, none, none] [] h
set_option maxRecDepth 100000 in
theorem e_Model_ready_60 (p0 : Option Nat) (a1 : Int32) (a2 : Int32) (a3 : Int32) (a4 : Int32) (a5 : Int32) (a6 : Int32) (a7 : Int32) (a8 : Int32) (w9 : Option zVal) (h : zHeap) : zr 244 60 [yR p0, yI a1, yI a2, yI a3, yI a4, yI a5, yI a6, yI a7, yI a8, w9] [] h =
    zoR (zgR h p0 785) fun r1 =>
    zoI (zaI h r1 a7 0) fun x2 =>
    zif (decide (x2 ≤ 0))
      (some (zI (i32 (-1)), h))
      (zr 244 67 [yR p0, yI a1, yI a2, yI a3, yI a4, yI a5, yI a6, yI a7, yI a8, yI (i32 0)] [] h) := U_244 (zst [60, 67]) 96 60 [yR p0, yI a1, yI a2, yI a3, yI a4, yI a5, yI a6, yI a7, yI a8, w9] [] h
set_option maxRecDepth 100000 in
theorem e_Model_ready_67 (p0 : Option Nat) (a1 : Int32) (a2 : Int32) (a3 : Int32) (a4 : Int32) (a5 : Int32) (a6 : Int32) (a7 : Int32) (a8 : Int32) (a9 : Int32) (h : zHeap) : zr 244 67 [yR p0, yI a1, yI a2, yI a3, yI a4, yI a5, yI a6, yI a7, yI a8, yI a9] [] h =
    zoR (zgR h p0 785) fun r1 =>
    zbI (zc 242 [zI a7, zI a9] h) fun x3 h2 =>
    zoI (zaI h2 r1 x3 0) fun x4 =>
    zoR (zgR h2 p0 785) fun r5 =>
    zoI (zaI h2 r5 a7 0) fun x6 =>
    zif (decide (x4 = (x6 - (i32 1))))
      (zif (decide (a8 ≠ a6))
        (zbI (zc 242 [zI a7, zI a9] h2) fun x8 h7 =>
        zr 244 60 [yR p0, yI a1, yI a2, yI a3, yI a4, yI a5, yI a6, yI x8, yI (a8 + i32 1), yI a9] [] h7)
        (some (zI a9, h2)))
      (zr 244 67 [yR p0, yI a1, yI a2, yI a3, yI a4, yI a5, yI a6, yI a7, yI a8, yI (a9 + i32 1)] [] h2) := U_244 (zst [60, 67]) 96 67 [yR p0, yI a1, yI a2, yI a3, yI a4, yI a5, yI a6, yI a7, yI a8, yI a9] [] h
/-! 245 Model_gains (IIII)I -/
set_option maxRecDepth 100000 in
theorem e_Model_gains (p0 : Option Nat) (a1 : Int32) (a2 : Int32) (a3 : Int32) (a4 : Int32) (h : zHeap) : zc 245 [zR p0, zI a1, zI a2, zI a3, zI a4] h =
    zbV (zv 12 236 [zR p0, zI a1] h) fun h1 =>
    zbI (zv 12 239 [zR p0, zI a2, zI a3] h1) fun x3 h2 =>
    zif (decide (x3 ≠ a4))
      (some (zI (i32 0), h2))
      (some (zI (i32 1), h2)) := U_245 (zst []) 14 0 [yR p0, yI a1, yI a2, yI a3, yI a4] [] h
/-! 246 Model_favourBy (IIIII)I -/
set_option maxRecDepth 100000 in
theorem e_Model_favourBy (p0 : Option Nat) (a1 : Int32) (a2 : Int32) (a3 : Int32) (a4 : Int32) (a5 : Int32) (h : zHeap) : zc 246 [zR p0, zI a1, zI a2, zI a3, zI a4, zI a5] h =
    zif (decide (a4 ≠ (i32 6)))
      (zbI (zv 12 245 [zR p0, zI a4, zI a1, zI a2, zI a5] h) fun x2 h1 =>
      zoR (zgR h1 p0 786) fun r3 =>
      zoI (zaI h1 r3 (((i32 64) * (a2 + (i32 1))) + (a3 ||| (zshl (i32 1) a4))) 0) fun x4 =>
      some (zI (x2 + x4), h1))
      (zoR (zgR h p0 786) fun r5 =>
      zoI (zaI h r5 (((i32 64) * (a2 + (i32 1))) + a3) 0) fun x6 =>
      some (zI x6, h)) := U_246 (zst []) 37 0 [yR p0, yI a1, yI a2, yI a3, yI a4, yI a5] [] h
/-! 247 Model_isFree (II)Z -/
set_option maxRecDepth 100000 in
theorem e_Model_isFree (p0 : Option Nat) (a1 : Int32) (a2 : Int32) (h : zHeap) : zc 247 [zR p0, zI a1, zI a2] h =
    zif (decide (a2 = (i32 6)))
      (zrz (i32 1) h)
      (zbI (zv 12 227 [zR p0, zI a2] h) fun x2 h1 =>
      zif (decide (x2 = 0))
        (zrz (i32 0) h1)
        (zif (decide (((zshr a1 a2) &&& (i32 1)) ≠ 0))
          (zrz (i32 0) h1)
          (zrz (i32 1) h1))) := U_247 (zst []) 18 0 [yR p0, yI a1, yI a2] [] h
/-! 248 Model_favour (IIII)I -/
set_option maxRecDepth 100000 in
theorem e_Model_favour (p0 : Option Nat) (a1 : Int32) (a2 : Int32) (a3 : Int32) (a4 : Int32) (h : zHeap) : zc 248 [zR p0, zI a1, zI a2, zI a3, zI a4] h =
    zbI (zv 12 226 [zR p0, zI a1] h) fun x2 h1 =>
    zif (decide (x2 = 0))
      (some (zI (i32 (-1)), h1))
      (zbI (zv 12 228 [zR p0, zI a2] h1) fun x4 h3 =>
      zif (decide (x4 = 0))
        (some (zI (i32 (-1)), h3))
        (zbI (zc 200 [zI a3, zI (i32 0), zI (i32 2)] h3) fun x6 h5 =>
        zif (decide (x6 = 0))
          (some (zI (i32 (-1)), h5))
          (zif (decide (a4 = (i32 (-1))))
            (zr 248 24 [yR p0, yI a1, yI a2, yI a3, yI a4, yI (i32 0), none, none, none] [] h5)
            (zbI (zv 12 229 [zR p0, zI a4] h5) fun x8 h7 =>
            zif (decide (x8 ≠ 0))
              (zr 248 24 [yR p0, yI a1, yI a2, yI a3, yI a4, yI (i32 0), none, none, none] [] h7)
              (some (zI (i32 (-1)), h7)))))) := U_248 (zst [24, 44, 48, 55, 109, 114]) 153 0 [yR p0, yI a1, yI a2, yI a3, yI a4, none, none, none, none] [] h
set_option maxRecDepth 100000 in
theorem e_Model_favour_24 (p0 : Option Nat) (a1 : Int32) (a2 : Int32) (a3 : Int32) (a4 : Int32) (a5 : Int32) (h : zHeap) : zr 248 24 [yR p0, yI a1, yI a2, yI a3, yI a4, yI a5, none, none, none] [] h =
    zif (decide ((i32 64) ≤ a5))
      (zoI (zgI h p0 781) fun x1 =>
      zr 248 44 [yR p0, yI a1, yI a2, yI a3, yI a4, yI (x1 - (i32 1)), none, none, none] [] h)
      (zoR (zgR h p0 786) fun r2 =>
      zoI (zgI h p0 781) fun x3 =>
      zoH (zaS h r2 (((i32 64) * x3) + a5) (i32 0)) fun h4 =>
      zr 248 24 [yR p0, yI a1, yI a2, yI a3, yI a4, yI (a5 + i32 1), none, none, none] [] h4) := U_248 (zst [24, 44, 48, 55, 109, 114]) 153 24 [yR p0, yI a1, yI a2, yI a3, yI a4, yI a5, none, none, none] [] h
set_option maxRecDepth 100000 in
theorem e_Model_favour_44 (p0 : Option Nat) (a1 : Int32) (a2 : Int32) (a3 : Int32) (a4 : Int32) (a5 : Int32) (w6 : Option zVal) (w7 : Option zVal) (w8 : Option zVal) (h : zHeap) : zr 248 44 [yR p0, yI a1, yI a2, yI a3, yI a4, yI a5, w6, w7, w8] [] h =
    zif (decide (a5 < 0))
      (zif (decide (a4 ≠ (i32 (-1))))
        (zr 248 109 [yR p0, yI a1, yI a2, yI a3, yI a4, yI (i32 0), yI (i32 6), yI (i32 0), w8] [] h)
        (zoR (zgR h p0 786) fun r1 =>
        zoI (zaI h r1 (i32 0) 0) fun x2 =>
        some (zI x2, h)))
      (zr 248 48 [yR p0, yI a1, yI a2, yI a3, yI a4, yI a5, yI (i32 0), w7, w8] [] h) := U_248 (zst [24, 44, 48, 55, 109, 114]) 153 44 [yR p0, yI a1, yI a2, yI a3, yI a4, yI a5, w6, w7, w8] [] h
set_option maxRecDepth 100000 in
theorem e_Model_favour_48 (p0 : Option Nat) (a1 : Int32) (a2 : Int32) (a3 : Int32) (a4 : Int32) (a5 : Int32) (a6 : Int32) (w7 : Option zVal) (w8 : Option zVal) (h : zHeap) : zr 248 48 [yR p0, yI a1, yI a2, yI a3, yI a4, yI a5, yI a6, w7, w8] [] h =
    zif (decide ((i32 64) ≤ a6))
      (zr 248 44 [yR p0, yI a1, yI a2, yI a3, yI a4, yI (a5 + i32 (-1)), yI a6, w7, w8] [] h)
      (zr 248 55 [yR p0, yI a1, yI a2, yI a3, yI a4, yI a5, yI a6, yI (i32 0), yI (i32 0)] [] h) := U_248 (zst [24, 44, 48, 55, 109, 114]) 153 48 [yR p0, yI a1, yI a2, yI a3, yI a4, yI a5, yI a6, w7, w8] [] h
set_option maxRecDepth 100000 in
theorem e_Model_favour_55 (p0 : Option Nat) (a1 : Int32) (a2 : Int32) (a3 : Int32) (a4 : Int32) (a5 : Int32) (a6 : Int32) (a7 : Int32) (a8 : Int32) (h : zHeap) : zr 248 55 [yR p0, yI a1, yI a2, yI a3, yI a4, yI a5, yI a6, yI a7, yI a8] [] h =
    zif (decide ((i32 7) ≤ a8))
      (zoR (zgR h p0 786) fun r1 =>
      zoH (zaS h r1 (((i32 64) * a5) + a6) a7) fun h2 =>
      zr 248 48 [yR p0, yI a1, yI a2, yI a3, yI a4, yI a5, yI (a6 + i32 1), yI a7, yI a8] [] h2)
      (zbI (zv 12 247 [zR p0, zI a6, zI a8] h) fun x4 h3 =>
      zif (decide (x4 = 0))
        (zr 248 55 [yR p0, yI a1, yI a2, yI a3, yI a4, yI a5, yI a6, yI a7, yI (a8 + i32 1)] [] h3)
        (zbI (zv 12 246 [zR p0, zI a2, zI a5, zI a6, zI a8, zI a3] h3) fun x6 h5 =>
        zif (decide (x6 ≤ a7))
          (zr 248 55 [yR p0, yI a1, yI a2, yI a3, yI a4, yI a5, yI a6, yI a7, yI (a8 + i32 1)] [] h5)
          (zbI (zv 12 246 [zR p0, zI a2, zI a5, zI a6, zI a8, zI a3] h5) fun x8 h7 =>
          zr 248 55 [yR p0, yI a1, yI a2, yI a3, yI a4, yI a5, yI a6, yI x8, yI (a8 + i32 1)] [] h7))) := U_248 (zst [24, 44, 48, 55, 109, 114]) 153 55 [yR p0, yI a1, yI a2, yI a3, yI a4, yI a5, yI a6, yI a7, yI a8] [] h
set_option maxRecDepth 100000 in
theorem e_Model_favour_109 (p0 : Option Nat) (a1 : Int32) (a2 : Int32) (a3 : Int32) (a4 : Int32) (a5 : Int32) (a6 : Int32) (a7 : Int32) (w8 : Option zVal) (h : zHeap) : zr 248 109 [yR p0, yI a1, yI a2, yI a3, yI a4, yI a5, yI a6, yI a7, w8] [] h =
    zif (decide (a4 < a7))
      (some (zI a6, h))
      (zr 248 114 [yR p0, yI a1, yI a2, yI a3, yI a4, yI a5, yI (i32 0), yI a7, w8] [] h) := U_248 (zst [24, 44, 48, 55, 109, 114]) 153 109 [yR p0, yI a1, yI a2, yI a3, yI a4, yI a5, yI a6, yI a7, w8] [] h
set_option maxRecDepth 100000 in
theorem e_Model_favour_114 (p0 : Option Nat) (a1 : Int32) (a2 : Int32) (a3 : Int32) (a4 : Int32) (a5 : Int32) (a6 : Int32) (a7 : Int32) (w8 : Option zVal) (h : zHeap) : zr 248 114 [yR p0, yI a1, yI a2, yI a3, yI a4, yI a5, yI a6, yI a7, w8] [] h =
    zbI (zv 12 247 [zR p0, zI a5, zI a6] h) fun x2 h1 =>
    zif (decide (x2 = 0))
      (zr 248 114 [yR p0, yI a1, yI a2, yI a3, yI a4, yI a5, yI (a6 + i32 1), yI a7, w8] [] h1)
      (zbI (zv 12 246 [zR p0, zI a2, zI a7, zI a5, zI a6, zI a3] h1) fun x4 h3 =>
      zoR (zgR h3 p0 786) fun r5 =>
      zoI (zaI h3 r5 (((i32 64) * a7) + a5) 0) fun x6 =>
      zif (decide (x4 = x6))
        (zif (decide (a6 ≠ (i32 6)))
          (zr 248 109 [yR p0, yI a1, yI a2, yI a3, yI a4, yI (a5 ||| (zshl (i32 1) a6)), yI a6, yI (a7 + i32 1), w8] [] h3)
          (zr 248 109 [yR p0, yI a1, yI a2, yI a3, yI a4, yI (a5 ||| (i32 0)), yI a6, yI (a7 + i32 1), w8] [] h3))
        (zr 248 114 [yR p0, yI a1, yI a2, yI a3, yI a4, yI a5, yI (a6 + i32 1), yI a7, w8] [] h3)) := U_248 (zst [24, 44, 48, 55, 109, 114]) 153 114 [yR p0, yI a1, yI a2, yI a3, yI a4, yI a5, yI a6, yI a7, w8] [] h
/-! 249 Model_bitsOf (I)I -/
set_option maxRecDepth 100000 in
theorem e_Model_bitsOf (a0 : Int32) (h : zHeap) : zc 249 [zI a0] h =
    zr 249 4 [yI a0, yI (i32 0), yI (i32 0)] [] h := U_249 (zst [4]) 20 0 [yI a0, none, none] [] h
set_option maxRecDepth 100000 in
theorem e_Model_bitsOf_4 (a0 : Int32) (a1 : Int32) (a2 : Int32) (h : zHeap) : zr 249 4 [yI a0, yI a1, yI a2] [] h =
    zif (decide ((i32 9) ≤ a2))
      (some (zI a1, h))
      (zr 249 4 [yI a0, yI (a1 + ((zshr a0 a2) &&& (i32 1))), yI (a2 + i32 1)] [] h) := U_249 (zst [4]) 20 4 [yI a0, yI a1, yI a2] [] h
/-! 250 Model_laysDares (II)V -/
set_option maxRecDepth 100000 in
theorem e_Model_laysDares (p0 : Option Nat) (a1 : Int32) (a2 : Int32) (h : zHeap) : zc 250 [zR p0, zI a1, zI a2] h =
    zbV (zv 12 236 [zR p0, zI a1] h) fun h1 =>
    zoI (zgI h1 p0 781) fun x2 =>
    zr 250 10 [yR p0, yI a1, yI a2, yI ((zshl (i32 1) x2) - (i32 1)), none, none, none, none] [] h1 := U_250 (zst [10, 30]) 85 0 [yR p0, yI a1, yI a2, none, none, none, none, none] [] h
set_option maxRecDepth 100000 in
theorem e_Model_laysDares_10 (p0 : Option Nat) (a1 : Int32) (a2 : Int32) (a3 : Int32) (w4 : Option zVal) (w5 : Option zVal) (w6 : Option zVal) (w7 : Option zVal) (h : zHeap) : zr 250 10 [yR p0, yI a1, yI a2, yI a3, w4, w5, w6, w7] [] h =
    zif (decide (a3 < 0))
      (some (zI 0, h))
      (zbI (zv 12 230 [zR p0, zI a1] h) fun x2 h1 =>
      zbI (zc 249 [zI a3] h1) fun x4 h3 =>
      zif (decide ((x2 - x4) ≤ 0))
        (zoH (zpI h3 p0 782 (i32 0)) fun h5 =>
        zr 250 30 [yR p0, yI a1, yI a2, yI a3, yI (x2 - x4), yI (i32 (-1)), yI (i32 0), w7] [] h5)
        (zoH (zpI h3 p0 782 (x2 - x4)) fun h6 =>
        zr 250 30 [yR p0, yI a1, yI a2, yI a3, yI (x2 - x4), yI (i32 (-1)), yI (i32 0), w7] [] h6)) := U_250 (zst [10, 30]) 85 10 [yR p0, yI a1, yI a2, yI a3, w4, w5, w6, w7] [] h
set_option maxRecDepth 100000 in
theorem e_Model_laysDares_30 (p0 : Option Nat) (a1 : Int32) (a2 : Int32) (a3 : Int32) (a4 : Int32) (a5 : Int32) (a6 : Int32) (w7 : Option zVal) (h : zHeap) : zr 250 30 [yR p0, yI a1, yI a2, yI a3, yI a4, yI a5, yI a6, w7] [] h =
    zoI (zgI h p0 781) fun x1 =>
    zif (decide (x1 ≤ a6))
      (zoR (zgR h p0 787) fun r2 =>
      zif (decide (a5 ≠ (i32 (-1))))
        (zoH (zaS h r2 a3 a5) fun h3 =>
        zr 250 10 [yR p0, yI a1, yI a2, yI (a3 + i32 (-1)), yI a4, yI a5, yI a6, w7] [] h3)
        (zoH (zaS h r2 a3 (i32 1)) fun h4 =>
        zr 250 10 [yR p0, yI a1, yI a2, yI (a3 + i32 (-1)), yI a4, yI a5, yI a6, w7] [] h4))
      (zif (decide (((zshr a3 a6) &&& (i32 1)) ≠ (i32 1)))
        (zbI (zv 12 237 [zR p0, zI a2, zI a6] h) fun x6 h5 =>
        zif (decide (0 < x6))
          (zoR (zgR h5 p0 787) fun r7 =>
          zoI (zaI h5 r7 (a3 ||| (zshl (i32 1) a6)) 0) fun x8 =>
          zif (decide (a5 < ((i32 2) - x8)))
            (zoH (zpI h5 p0 788 a6) fun h9 =>
            zr 250 30 [yR p0, yI a1, yI a2, yI a3, yI a4, yI ((i32 2) - x8), yI (a6 + i32 1), yI ((i32 2) - x8)] [] h9)
            (zr 250 30 [yR p0, yI a1, yI a2, yI a3, yI a4, yI a5, yI (a6 + i32 1), yI ((i32 2) - x8)] [] h5))
          (zif (decide (a5 < (i32 0)))
            (zoH (zpI h5 p0 788 a6) fun h10 =>
            zr 250 30 [yR p0, yI a1, yI a2, yI a3, yI a4, yI (i32 0), yI (a6 + i32 1), yI (i32 0)] [] h10)
            (zr 250 30 [yR p0, yI a1, yI a2, yI a3, yI a4, yI a5, yI (a6 + i32 1), yI (i32 0)] [] h5)))
        (zr 250 30 [yR p0, yI a1, yI a2, yI a3, yI a4, yI a5, yI (a6 + i32 1), w7] [] h)) := U_250 (zst [10, 30]) 85 30 [yR p0, yI a1, yI a2, yI a3, yI a4, yI a5, yI a6, w7] [] h
/-! 251 Model_dare (IIIZ)I -/
set_option maxRecDepth 100000 in
theorem e_Model_dare (p0 : Option Nat) (a1 : Int32) (a2 : Int32) (a3 : Int32) (a4 : Int32) (h : zHeap) : zc 251 [zR p0, zI a1, zI a2, zI a3, zI a4] h =
    zbI (zv 12 226 [zR p0, zI a1] h) fun x2 h1 =>
    zif (decide (x2 = 0))
      (some (zI (i32 (-2)), h1))
      (zbI (zv 12 227 [zR p0, zI a2] h1) fun x4 h3 =>
      zif (decide (x4 = 0))
        (some (zI (i32 (-2)), h3))
        (zbI (zv 12 228 [zR p0, zI a3] h3) fun x6 h5 =>
        zif (decide (x6 ≠ 0))
          (zoH (zpI h5 p0 788 (i32 (-1))) fun h7 =>
          zbV (zv 12 250 [zR p0, zI a2, zI a3] h7) fun h8 =>
          zif (decide (a4 = 0))
            (zoR (zgR h8 p0 787) fun r9 =>
            zoI (zaI h8 r9 (i32 0) 0) fun x10 =>
            zif (decide (x10 ≠ (i32 2)))
              (zoR (zgR h8 p0 787) fun r11 =>
              zoI (zaI h8 r11 (i32 0) 0) fun x12 =>
              zif (decide (x12 ≠ (i32 1)))
                (some (zI (i32 0), h8))
                (some (zI (i32 2), h8)))
              (some (zI (i32 1), h8)))
            (zoI (zgI h8 p0 788) fun x13 =>
            some (zI x13, h8)))
          (some (zI (i32 (-2)), h5)))) := U_251 (zst []) 45 0 [yR p0, yI a1, yI a2, yI a3, yI a4] [] h
/-! 252 Model_alike (III)I -/
set_option maxRecDepth 100000 in
theorem e_Model_alike (p0 : Option Nat) (a1 : Int32) (a2 : Int32) (a3 : Int32) (h : zHeap) : zc 252 [zR p0, zI a1, zI a2, zI a3] h =
    zbI (zv 12 226 [zR p0, zI a1] h) fun x2 h1 =>
    zif (decide (x2 = 0))
      (some (zI (i32 (-1)), h1))
      (zbI (zv 12 227 [zR p0, zI a2] h1) fun x4 h3 =>
      zif (decide (x4 = 0))
        (some (zI (i32 (-1)), h3))
        (zbI (zv 12 227 [zR p0, zI a3] h3) fun x6 h5 =>
        zif (decide (x6 ≠ 0))
          (zr 252 18 [yR p0, yI a1, yI a2, yI a3, yI (i32 0), yI (i32 0), none, none] [] h5)
          (some (zI (i32 (-1)), h5)))) := U_252 (zst [18, 24]) 58 0 [yR p0, yI a1, yI a2, yI a3, none, none, none, none] [] h
set_option maxRecDepth 100000 in
theorem e_Model_alike_18 (p0 : Option Nat) (a1 : Int32) (a2 : Int32) (a3 : Int32) (a4 : Int32) (a5 : Int32) (w6 : Option zVal) (w7 : Option zVal) (h : zHeap) : zr 252 18 [yR p0, yI a1, yI a2, yI a3, yI a4, yI a5, w6, w7] [] h =
    zoI (zgI h p0 780) fun x1 =>
    zif (decide (x1 ≤ a5))
      (some (zI a4, h))
      (zr 252 24 [yR p0, yI a1, yI a2, yI a3, yI a4, yI a5, yI (i32 0), w7] [] h) := U_252 (zst [18, 24]) 58 18 [yR p0, yI a1, yI a2, yI a3, yI a4, yI a5, w6, w7] [] h
set_option maxRecDepth 100000 in
theorem e_Model_alike_24 (p0 : Option Nat) (a1 : Int32) (a2 : Int32) (a3 : Int32) (a4 : Int32) (a5 : Int32) (a6 : Int32) (w7 : Option zVal) (h : zHeap) : zr 252 24 [yR p0, yI a1, yI a2, yI a3, yI a4, yI a5, yI a6, w7] [] h =
    zoI (zgI h p0 781) fun x1 =>
    zif (decide (x1 ≤ a6))
      (zr 252 18 [yR p0, yI a1, yI a2, yI a3, yI a4, yI (a5 + i32 1), yI a6, w7] [] h)
      (zbV (zv 12 236 [zR p0, zI a2] h) fun h2 =>
      zbI (zv 12 239 [zR p0, zI a5, zI a6] h2) fun x4 h3 =>
      zbV (zv 12 236 [zR p0, zI a3] h3) fun h5 =>
      zbI (zv 12 239 [zR p0, zI a5, zI a6] h5) fun x7 h6 =>
      zif (decide (x4 ≠ x7))
        (zr 252 24 [yR p0, yI a1, yI a2, yI a3, yI (a4 + (i32 0)), yI a5, yI (a6 + i32 1), yI x4] [] h6)
        (zr 252 24 [yR p0, yI a1, yI a2, yI a3, yI (a4 + (i32 1)), yI a5, yI (a6 + i32 1), yI x4] [] h6)) := U_252 (zst [18, 24]) 58 24 [yR p0, yI a1, yI a2, yI a3, yI a4, yI a5, yI a6, w7] [] h
/-! 253 Model_lows (I)I -/
set_option maxRecDepth 100000 in
theorem e_Model_lows (p0 : Option Nat) (a1 : Int32) (h : zHeap) : zc 253 [zR p0, zI a1] h =
    zbI (zv 12 226 [zR p0, zI a1] h) fun x2 h1 =>
    zif (decide (x2 ≠ 0))
      (zr 253 10 [yR p0, yI a1, yI (i32 0), yI (i32 0), none, none] [] h1)
      (some (zI (i32 (-1)), h1)) := U_253 (zst [10, 19, 25]) 49 0 [yR p0, yI a1, none, none, none, none] [] h
set_option maxRecDepth 100000 in
theorem e_Model_lows_10 (p0 : Option Nat) (a1 : Int32) (a2 : Int32) (a3 : Int32) (w4 : Option zVal) (w5 : Option zVal) (h : zHeap) : zr 253 10 [yR p0, yI a1, yI a2, yI a3, w4, w5] [] h =
    zoI (zgI h p0 779) fun x1 =>
    zif (decide (x1 ≤ a3))
      (some (zI a2, h))
      (zbV (zv 12 236 [zR p0, zI a3] h) fun h2 =>
      zr 253 19 [yR p0, yI a1, yI a2, yI a3, yI (i32 0), w5] [] h2) := U_253 (zst [10, 19, 25]) 49 10 [yR p0, yI a1, yI a2, yI a3, w4, w5] [] h
set_option maxRecDepth 100000 in
theorem e_Model_lows_19 (p0 : Option Nat) (a1 : Int32) (a2 : Int32) (a3 : Int32) (a4 : Int32) (w5 : Option zVal) (h : zHeap) : zr 253 19 [yR p0, yI a1, yI a2, yI a3, yI a4, w5] [] h =
    zoI (zgI h p0 780) fun x1 =>
    zif (decide (x1 ≤ a4))
      (zr 253 10 [yR p0, yI a1, yI a2, yI (a3 + i32 1), yI a4, w5] [] h)
      (zr 253 25 [yR p0, yI a1, yI a2, yI a3, yI a4, yI (i32 0)] [] h) := U_253 (zst [10, 19, 25]) 49 19 [yR p0, yI a1, yI a2, yI a3, yI a4, w5] [] h
set_option maxRecDepth 100000 in
theorem e_Model_lows_25 (p0 : Option Nat) (a1 : Int32) (a2 : Int32) (a3 : Int32) (a4 : Int32) (a5 : Int32) (h : zHeap) : zr 253 25 [yR p0, yI a1, yI a2, yI a3, yI a4, yI a5] [] h =
    zoI (zgI h p0 781) fun x1 =>
    zif (decide (x1 ≤ a5))
      (zr 253 19 [yR p0, yI a1, yI a2, yI a3, yI (a4 + i32 1), yI a5] [] h)
      (zbI (zv 12 237 [zR p0, zI a4, zI a5] h) fun x3 h2 =>
      zif (decide (x3 ≠ 0))
        (zr 253 25 [yR p0, yI a1, yI (a2 + (i32 0)), yI a3, yI a4, yI (a5 + i32 1)] [] h2)
        (zr 253 25 [yR p0, yI a1, yI (a2 + (i32 1)), yI a3, yI a4, yI (a5 + i32 1)] [] h2)) := U_253 (zst [10, 19, 25]) 49 25 [yR p0, yI a1, yI a2, yI a3, yI a4, yI a5] [] h
/-! 254 Model_told (III)I -/
set_option maxRecDepth 100000 in
theorem e_Model_told (p0 : Option Nat) (a1 : Int32) (a2 : Int32) (a3 : Int32) (h : zHeap) : zc 254 [zR p0, zI a1, zI a2, zI a3] h =
    zbI (zv 12 226 [zR p0, zI a1] h) fun x2 h1 =>
    zif (decide (x2 = 0))
      (some (zI (i32 (-1)), h1))
      (zbI (zv 12 229 [zR p0, zI a2] h1) fun x4 h3 =>
      zif (decide (x4 = 0))
        (some (zI (i32 (-1)), h3))
        (zbI (zc 200 [zI a3, zI (i32 0), zI (i32 3)] h3) fun x6 h5 =>
        zif (decide (x6 ≠ 0))
          (zr 254 19 [yR p0, yI a1, yI a2, yI a3, yI (i32 0), yI (i32 0), none] [] h5)
          (some (zI (i32 (-1)), h5)))) := U_254 (zst [19, 28]) 56 0 [yR p0, yI a1, yI a2, yI a3, none, none, none] [] h
set_option maxRecDepth 100000 in
theorem e_Model_told_19 (p0 : Option Nat) (a1 : Int32) (a2 : Int32) (a3 : Int32) (a4 : Int32) (a5 : Int32) (w6 : Option zVal) (h : zHeap) : zr 254 19 [yR p0, yI a1, yI a2, yI a3, yI a4, yI a5, w6] [] h =
    zoI (zgI h p0 779) fun x1 =>
    zif (decide (x1 ≤ a5))
      (some (zI a4, h))
      (zbV (zv 12 236 [zR p0, zI a5] h) fun h2 =>
      zr 254 28 [yR p0, yI a1, yI a2, yI a3, yI a4, yI a5, yI (i32 0)] [] h2) := U_254 (zst [19, 28]) 56 19 [yR p0, yI a1, yI a2, yI a3, yI a4, yI a5, w6] [] h
set_option maxRecDepth 100000 in
theorem e_Model_told_28 (p0 : Option Nat) (a1 : Int32) (a2 : Int32) (a3 : Int32) (a4 : Int32) (a5 : Int32) (a6 : Int32) (h : zHeap) : zr 254 28 [yR p0, yI a1, yI a2, yI a3, yI a4, yI a5, yI a6] [] h =
    zoI (zgI h p0 780) fun x1 =>
    zif (decide (x1 ≤ a6))
      (zr 254 19 [yR p0, yI a1, yI a2, yI a3, yI a4, yI (a5 + i32 1), yI a6] [] h)
      (zbI (zv 12 239 [zR p0, zI a6, zI a2] h) fun x3 h2 =>
      zif (decide (a3 ≠ (i32 3)))
        (zif (decide (x3 ≠ a3))
          (zr 254 28 [yR p0, yI a1, yI a2, yI a3, yI (a4 + (i32 0)), yI a5, yI (a6 + i32 1)] [] h2)
          (zr 254 28 [yR p0, yI a1, yI a2, yI a3, yI (a4 + (i32 1)), yI a5, yI (a6 + i32 1)] [] h2))
        (zif (decide (x3 ≠ (i32 (-1))))
          (zr 254 28 [yR p0, yI a1, yI a2, yI a3, yI (a4 + (i32 0)), yI a5, yI (a6 + i32 1)] [] h2)
          (zr 254 28 [yR p0, yI a1, yI a2, yI a3, yI (a4 + (i32 1)), yI a5, yI (a6 + i32 1)] [] h2))) := U_254 (zst [19, 28]) 56 28 [yR p0, yI a1, yI a2, yI a3, yI a4, yI a5, yI a6] [] h
/-! 255 Model_weather (IIIII)I -/
set_option maxRecDepth 100000 in
theorem e_Model_weather (p0 : Option Nat) (a1 : Int32) (a2 : Int32) (a3 : Int32) (a4 : Int32) (a5 : Int32) (h : zHeap) : zc 255 [zR p0, zI a1, zI a2, zI a3, zI a4, zI a5] h =
    zbI (zv 12 240 [zR p0, zI a1, zI a2, zI a3, zI a4] h) fun x2 h1 =>
    zif (decide (x2 = 0))
      (some (zI (i32 (-1)), h1))
      (zbI (zc 200 [zI a5, zI (i32 0), zI (i32 2)] h1) fun x4 h3 =>
      zif (decide (x4 ≠ 0))
        (zbV (zv 12 236 [zR p0, zI a2] h3) fun h5 =>
        zoH (zpI h5 p0 784 (i32 0)) fun h6 =>
        zr 255 22 [yR p0, yI a1, yI a2, yI a3, yI a4, yI a5, yI (i32 0)] [] h6)
        (some (zI (i32 (-1)), h3))) := U_255 (zst [22]) 48 0 [yR p0, yI a1, yI a2, yI a3, yI a4, yI a5, none] [] h
set_option maxRecDepth 100000 in
theorem e_Model_weather_22 (p0 : Option Nat) (a1 : Int32) (a2 : Int32) (a3 : Int32) (a4 : Int32) (a5 : Int32) (a6 : Int32) (h : zHeap) : zr 255 22 [yR p0, yI a1, yI a2, yI a3, yI a4, yI a5, yI a6] [] h =
    zoI (zgI h p0 784) fun x1 =>
    zif (decide ((i32 10) ≤ x1))
      (some (zI a6, h))
      (zbI (zv 12 239 [zR p0, zI a3, zI a4] h) fun x3 h2 =>
      zif (decide (x3 ≠ a5))
        (zoI (zgI h2 p0 784) fun x4 =>
        zoH (zpI h2 p0 784 (x4 + (i32 1))) fun h5 =>
        zr 255 22 [yR p0, yI a1, yI a2, yI a3, yI a4, yI a5, yI (a6 + (i32 0))] [] h5)
        (zoI (zgI h2 p0 784) fun x6 =>
        zoH (zpI h2 p0 784 (x6 + (i32 1))) fun h7 =>
        zr 255 22 [yR p0, yI a1, yI a2, yI a3, yI a4, yI a5, yI (a6 + (i32 1))] [] h7)) := U_255 (zst [22]) 48 22 [yR p0, yI a1, yI a2, yI a3, yI a4, yI a5, yI a6] [] h
/-! 256 Model_dries (II)V -/
set_option maxRecDepth 100000 in
theorem e_Model_dries (p0 : Option Nat) (a1 : Int32) (a2 : Int32) (h : zHeap) : zc 256 [zR p0, zI a1, zI a2] h =
    zbV (zv 12 236 [zR p0, zI a1] h) fun h1 =>
    zoI (zgI h1 p0 782) fun x2 =>
    zif (decide (x2 ≤ a2))
      (zoH (zpI h1 p0 782 (i32 0)) fun h3 =>
      some (zI 0, h3))
      (zoI (zgI h1 p0 782) fun x4 =>
      zoH (zpI h1 p0 782 (x4 - a2)) fun h5 =>
      some (zI 0, h5)) := U_256 (zst []) 17 0 [yR p0, yI a1, yI a2] [] h
/-! 257 Model_chant (IIIII)I -/
set_option maxRecDepth 100000 in
theorem e_Model_chant (p0 : Option Nat) (a1 : Int32) (a2 : Int32) (a3 : Int32) (a4 : Int32) (a5 : Int32) (h : zHeap) : zc 257 [zR p0, zI a1, zI a2, zI a3, zI a4, zI a5] h =
    zbI (zv 12 240 [zR p0, zI a1, zI a2, zI a3, zI a4] h) fun x2 h1 =>
    zif (decide (x2 = 0))
      (some (zI (i32 (-2)), h1))
      (zbI (zc 200 [zI a5, zI (i32 0), zI (i32 20)] h1) fun x4 h3 =>
      zif (decide (x4 ≠ 0))
        (zbV (zv 12 256 [zR p0, zI a2, zI a5] h3) fun h5 =>
        zbI (zv 12 237 [zR p0, zI a3, zI a4] h5) fun x7 h6 =>
        some (zI x7, h6))
        (some (zI (i32 (-2)), h3))) := U_257 (zst []) 24 0 [yR p0, yI a1, yI a2, yI a3, yI a4, yI a5] [] h
/-! 258 Model_ripe (IIIII)I -/
set_option maxRecDepth 100000 in
theorem e_Model_ripe (p0 : Option Nat) (a1 : Int32) (a2 : Int32) (a3 : Int32) (a4 : Int32) (a5 : Int32) (h : zHeap) : zc 258 [zR p0, zI a1, zI a2, zI a3, zI a4, zI a5] h =
    zbI (zv 12 240 [zR p0, zI a1, zI a2, zI a3, zI a4] h) fun x2 h1 =>
    zif (decide (x2 = 0))
      (some (zI (i32 (-1)), h1))
      (zbI (zc 200 [zI a5, zI (i32 0), zI (i32 2)] h1) fun x4 h3 =>
      zif (decide (x4 ≠ 0))
        (zbV (zv 12 256 [zR p0, zI a2, zI (i32 0)] h3) fun h5 =>
        zr 258 20 [yR p0, yI a1, yI a2, yI a3, yI a4, yI a5, yI (i32 0)] [] h5)
        (some (zI (i32 (-1)), h3))) := U_258 (zst [20]) 43 0 [yR p0, yI a1, yI a2, yI a3, yI a4, yI a5, none] [] h
set_option maxRecDepth 100000 in
theorem e_Model_ripe_20 (p0 : Option Nat) (a1 : Int32) (a2 : Int32) (a3 : Int32) (a4 : Int32) (a5 : Int32) (a6 : Int32) (h : zHeap) : zr 258 20 [yR p0, yI a1, yI a2, yI a3, yI a4, yI a5, yI a6] [] h =
    zif (decide ((i32 10) ≤ a6))
      (zif (decide ((i32 10) ≤ a6))
        (some (zI (i32 (-1)), h))
        (some (zI a6, h)))
      (zbI (zv 12 239 [zR p0, zI a3, zI a4] h) fun x2 h1 =>
      zif (decide (x2 = a5))
        (zif (decide ((i32 10) ≤ a6))
          (some (zI (i32 (-1)), h1))
          (some (zI a6, h1)))
        (zbV (zv 12 256 [zR p0, zI a2, zI (a6 + i32 1)] h1) fun h3 =>
        zr 258 20 [yR p0, yI a1, yI a2, yI a3, yI a4, yI a5, yI (a6 + i32 1)] [] h3)) := U_258 (zst [20]) 43 20 [yR p0, yI a1, yI a2, yI a3, yI a4, yI a5, yI a6] [] h
/-! 259 Model_deepest (III)I -/
set_option maxRecDepth 100000 in
theorem e_Model_deepest (p0 : Option Nat) (a1 : Int32) (a2 : Int32) (a3 : Int32) (h : zHeap) : zc 259 [zR p0, zI a1, zI a2, zI a3] h =
    zbI (zv 12 226 [zR p0, zI a1] h) fun x2 h1 =>
    zif (decide (x2 = 0))
      (some (zI (i32 (-1)), h1))
      (zbI (zv 12 227 [zR p0, zI a2] h1) fun x4 h3 =>
      zif (decide (x4 = 0))
        (some (zI (i32 (-1)), h3))
        (zbI (zv 12 228 [zR p0, zI a3] h3) fun x6 h5 =>
        zif (decide (x6 ≠ 0))
          (zbV (zv 12 236 [zR p0, zI a2] h5) fun h7 =>
          zr 259 21 [yR p0, yI a1, yI a2, yI a3, yI (i32 (-1)), yI (i32 0)] [] h7)
          (some (zI (i32 (-1)), h5)))) := U_259 (zst [21]) 48 0 [yR p0, yI a1, yI a2, yI a3, none, none] [] h
set_option maxRecDepth 100000 in
theorem e_Model_deepest_21 (p0 : Option Nat) (a1 : Int32) (a2 : Int32) (a3 : Int32) (a4 : Int32) (a5 : Int32) (h : zHeap) : zr 259 21 [yR p0, yI a1, yI a2, yI a3, yI a4, yI a5] [] h =
    zoI (zgI h p0 781) fun x1 =>
    zif (decide (x1 ≤ a5))
      (some (zI a4, h))
      (zbI (zv 12 237 [zR p0, zI a3, zI a5] h) fun x3 h2 =>
      zif (decide (x3 = (i32 (-1))))
        (zr 259 21 [yR p0, yI a1, yI a2, yI a3, yI a4, yI (a5 + i32 1)] [] h2)
        (zif (decide (a4 = (i32 (-1))))
          (zr 259 21 [yR p0, yI a1, yI a2, yI a3, yI a5, yI (a5 + i32 1)] [] h2)
          (zbI (zv 12 233 [zR p0, zI a5] h2) fun x5 h4 =>
          zbI (zv 12 233 [zR p0, zI a4] h4) fun x7 h6 =>
          zif (decide (x5 ≤ x7))
            (zr 259 21 [yR p0, yI a1, yI a2, yI a3, yI a4, yI (a5 + i32 1)] [] h6)
            (zr 259 21 [yR p0, yI a1, yI a2, yI a3, yI a5, yI (a5 + i32 1)] [] h6)))) := U_259 (zst [21]) 48 21 [yR p0, yI a1, yI a2, yI a3, yI a4, yI a5] [] h
/-! 260 Model_isFine (IIII)Z -/
set_option maxRecDepth 100000 in
theorem e_Model_isFine (p0 : Option Nat) (a1 : Int32) (a2 : Int32) (a3 : Int32) (a4 : Int32) (h : zHeap) : zc 260 [zR p0, zI a1, zI a2, zI a3, zI a4] h =
    zbI (zc 249 [zI a1] h) fun x2 h1 =>
    zbV (zv 12 256 [zR p0, zI a2, zI x2] h1) fun h3 =>
    zif (decide (((zshr a1 a4) &&& (i32 1)) ≠ 0))
      (zrz (i32 0) h3)
      (zbI (zv 12 237 [zR p0, zI a3, zI a4] h3) fun x5 h4 =>
      zif (decide (x5 ≤ 0))
        (zrz (i32 0) h4)
        (zrz (i32 1) h4)) := U_260 (zst []) 21 0 [yR p0, yI a1, yI a2, yI a3, yI a4] [] h
/-! 261 Model_program (IIII)I -/
set_option maxRecDepth 100000 in
theorem e_Model_program (p0 : Option Nat) (a1 : Int32) (a2 : Int32) (a3 : Int32) (a4 : Int32) (h : zHeap) : zc 261 [zR p0, zI a1, zI a2, zI a3, zI a4] h =
    zbI (zv 12 226 [zR p0, zI a1] h) fun x2 h1 =>
    zif (decide (x2 = 0))
      (some (zI (i32 (-1)), h1))
      (zbI (zv 12 227 [zR p0, zI a2] h1) fun x4 h3 =>
      zif (decide (x4 = 0))
        (some (zI (i32 (-1)), h3))
        (zbI (zv 12 228 [zR p0, zI a3] h3) fun x6 h5 =>
        zif (decide (x6 = 0))
          (some (zI (i32 (-1)), h5))
          (zif (decide ((i32 (-1)) ≤ a4))
            (zoI (zgI h5 p0 781) fun x7 =>
            zr 261 24 [yR p0, yI a1, yI a2, yI a3, yI a4, yI ((zshl (i32 1) x7) - (i32 1)), none, none] [] h5)
            (some (zI (i32 (-1)), h5))))) := U_261 (zst [24, 33, 89, 96]) 136 0 [yR p0, yI a1, yI a2, yI a3, yI a4, none, none, none] [] h
set_option maxRecDepth 100000 in
theorem e_Model_program_24 (p0 : Option Nat) (a1 : Int32) (a2 : Int32) (a3 : Int32) (a4 : Int32) (a5 : Int32) (w6 : Option zVal) (h : zHeap) : zr 261 24 [yR p0, yI a1, yI a2, yI a3, yI a4, yI a5, w6, none] [] h =
    zif (decide (a5 < 0))
      (zif (decide (a4 ≠ (i32 (-1))))
        (zr 261 89 [yR p0, yI a1, yI a2, yI a3, yI a4, yI (i32 0), yI (i32 0), none] [] h)
        (zoR (zgR h p0 789) fun r1 =>
        zoI (zaI h r1 (i32 0) 0) fun x2 =>
        some (zI x2, h)))
      (zoR (zgR h p0 789) fun r3 =>
      zoH (zaS h r3 a5 (i32 0)) fun h4 =>
      zr 261 33 [yR p0, yI a1, yI a2, yI a3, yI a4, yI a5, yI (i32 0), none] [] h4) := U_261 (zst [24, 33, 89, 96]) 136 24 [yR p0, yI a1, yI a2, yI a3, yI a4, yI a5, w6, none] [] h
set_option maxRecDepth 100000 in
theorem e_Model_program_33 (p0 : Option Nat) (a1 : Int32) (a2 : Int32) (a3 : Int32) (a4 : Int32) (a5 : Int32) (a6 : Int32) (h : zHeap) : zr 261 33 [yR p0, yI a1, yI a2, yI a3, yI a4, yI a5, yI a6, none] [] h =
    zoI (zgI h p0 781) fun x1 =>
    zif (decide (x1 ≤ a6))
      (zr 261 24 [yR p0, yI a1, yI a2, yI a3, yI a4, yI (a5 + i32 (-1)), yI a6, none] [] h)
      (zbI (zv 12 260 [zR p0, zI a5, zI a2, zI a3, zI a6] h) fun x3 h2 =>
      zif (decide (x3 = 0))
        (zr 261 33 [yR p0, yI a1, yI a2, yI a3, yI a4, yI a5, yI (a6 + i32 1), none] [] h2)
        (zoR (zgR h2 p0 789) fun r4 =>
        zoI (zaI h2 r4 (a5 ||| (zshl (i32 1) a6)) 0) fun x5 =>
        zoR (zgR h2 p0 789) fun r6 =>
        zoI (zaI h2 r6 a5 0) fun x7 =>
        zif (decide (((i32 1) + x5) ≤ x7))
          (zr 261 33 [yR p0, yI a1, yI a2, yI a3, yI a4, yI a5, yI (a6 + i32 1), none] [] h2)
          (zoR (zgR h2 p0 789) fun r8 =>
          zoR (zgR h2 p0 789) fun r9 =>
          zoI (zaI h2 r9 (a5 ||| (zshl (i32 1) a6)) 0) fun x10 =>
          zoH (zaS h2 r8 a5 ((i32 1) + x10)) fun h11 =>
          zr 261 33 [yR p0, yI a1, yI a2, yI a3, yI a4, yI a5, yI (a6 + i32 1), none] [] h11))) := U_261 (zst [24, 33, 89, 96]) 136 33 [yR p0, yI a1, yI a2, yI a3, yI a4, yI a5, yI a6, none] [] h
set_option maxRecDepth 100000 in
theorem e_Model_program_89 (p0 : Option Nat) (a1 : Int32) (a2 : Int32) (a3 : Int32) (a4 : Int32) (a5 : Int32) (a6 : Int32) (w7 : Option zVal) (h : zHeap) : zr 261 89 [yR p0, yI a1, yI a2, yI a3, yI a4, yI a5, yI a6, w7] [] h =
    zoR (zgR h p0 789) fun r1 =>
    zoI (zaI h r1 a5 0) fun x2 =>
    zif (decide (x2 ≤ 0))
      (some (zI (i32 (-1)), h))
      (zr 261 96 [yR p0, yI a1, yI a2, yI a3, yI a4, yI a5, yI a6, yI (i32 0)] [] h) := U_261 (zst [24, 33, 89, 96]) 136 89 [yR p0, yI a1, yI a2, yI a3, yI a4, yI a5, yI a6, w7] [] h
set_option maxRecDepth 100000 in
theorem e_Model_program_96 (p0 : Option Nat) (a1 : Int32) (a2 : Int32) (a3 : Int32) (a4 : Int32) (a5 : Int32) (a6 : Int32) (a7 : Int32) (h : zHeap) : zr 261 96 [yR p0, yI a1, yI a2, yI a3, yI a4, yI a5, yI a6, yI a7] [] h =
    zbI (zv 12 260 [zR p0, zI a5, zI a2, zI a3, zI a7] h) fun x2 h1 =>
    zif (decide (x2 = 0))
      (zr 261 96 [yR p0, yI a1, yI a2, yI a3, yI a4, yI a5, yI a6, yI (a7 + i32 1)] [] h1)
      (zoR (zgR h1 p0 789) fun r3 =>
      zoI (zaI h1 r3 (a5 ||| (zshl (i32 1) a7)) 0) fun x4 =>
      zoR (zgR h1 p0 789) fun r5 =>
      zoI (zaI h1 r5 a5 0) fun x6 =>
      zif (decide (((i32 1) + x4) = x6))
        (zif (decide (a6 ≠ a4))
          (zr 261 89 [yR p0, yI a1, yI a2, yI a3, yI a4, yI (a5 ||| (zshl (i32 1) a7)), yI (a6 + i32 1), yI a7] [] h1)
          (some (zI a7, h1)))
        (zr 261 96 [yR p0, yI a1, yI a2, yI a3, yI a4, yI a5, yI a6, yI (a7 + i32 1)] [] h1)) := U_261 (zst [24, 33, 89, 96]) 136 96 [yR p0, yI a1, yI a2, yI a3, yI a4, yI a5, yI a6, yI a7] [] h
/-! 262 Model_edit (IIII)I -/
set_option maxRecDepth 100000 in
theorem e_Model_edit (p0 : Option Nat) (a1 : Int32) (a2 : Int32) (a3 : Int32) (a4 : Int32) (h : zHeap) : zc 262 [zR p0, zI a1, zI a2, zI a3, zI a4] h =
    zbI (zv 12 226 [zR p0, zI a1] h) fun x2 h1 =>
    zif (decide (x2 = 0))
      (some (zI (i32 (-1)), h1))
      (zbI (zv 12 227 [zR p0, zI a2] h1) fun x4 h3 =>
      zif (decide (x4 = 0))
        (some (zI (i32 (-1)), h3))
        (zbI (zv 12 228 [zR p0, zI a3] h3) fun x6 h5 =>
        zif (decide (x6 = 0))
          (some (zI (i32 (-1)), h5))
          (zbI (zc 200 [zI a4, zI (i32 0), zI (i32 2)] h5) fun x8 h7 =>
          zif (decide (x8 ≠ 0))
            (zbV (zv 12 236 [zR p0, zI a2] h7) fun h9 =>
            zr 262 26 [yR p0, yI a1, yI a2, yI a3, yI a4, yI (i32 0), yI (i32 0), none, none] [] h9)
            (some (zI (i32 (-1)), h7))))) := U_262 (zst [26, 33]) 69 0 [yR p0, yI a1, yI a2, yI a3, yI a4, none, none, none, none] [] h
set_option maxRecDepth 100000 in
theorem e_Model_edit_26 (p0 : Option Nat) (a1 : Int32) (a2 : Int32) (a3 : Int32) (a4 : Int32) (a5 : Int32) (a6 : Int32) (w7 : Option zVal) (w8 : Option zVal) (h : zHeap) : zr 262 26 [yR p0, yI a1, yI a2, yI a3, yI a4, yI a5, yI a6, w7, w8] [] h =
    zif (decide ((i32 8) ≤ a6))
      (some (zI a5, h))
      (zr 262 33 [yR p0, yI a1, yI a2, yI a3, yI a4, yI a5, yI a6, yI (i32 0), yI (i32 0)] [] h) := U_262 (zst [26, 33]) 69 26 [yR p0, yI a1, yI a2, yI a3, yI a4, yI a5, yI a6, w7, w8] [] h
set_option maxRecDepth 100000 in
theorem e_Model_edit_33 (p0 : Option Nat) (a1 : Int32) (a2 : Int32) (a3 : Int32) (a4 : Int32) (a5 : Int32) (a6 : Int32) (a7 : Int32) (a8 : Int32) (h : zHeap) : zr 262 33 [yR p0, yI a1, yI a2, yI a3, yI a4, yI a5, yI a6, yI a7, yI a8] [] h =
    zoI (zgI h p0 781) fun x1 =>
    zif (decide (x1 ≤ a8))
      (zif (decide (a7 = 0))
        (zr 262 26 [yR p0, yI a1, yI a2, yI a3, yI a4, yI (a5 + (i32 0)), yI (a6 + i32 1), yI a7, yI a8] [] h)
        (zbI (zv 12 238 [zR p0, zI a6] h) fun x3 h2 =>
        zif (decide (x3 = a4))
          (zr 262 26 [yR p0, yI a1, yI a2, yI a3, yI a4, yI (a5 + (i32 0)), yI (a6 + i32 1), yI a7, yI a8] [] h2)
          (zr 262 26 [yR p0, yI a1, yI a2, yI a3, yI a4, yI (a5 + (i32 1)), yI (a6 + i32 1), yI a7, yI a8] [] h2)))
      (zif (decide (a7 ≠ 0))
        (zr 262 33 [yR p0, yI a1, yI a2, yI a3, yI a4, yI a5, yI a6, yI (i32 1), yI (a8 + i32 1)] [] h)
        (zbI (zv 12 237 [zR p0, zI a3, zI a8] h) fun x5 h4 =>
        zif (decide (x5 ≠ a6))
          (zr 262 33 [yR p0, yI a1, yI a2, yI a3, yI a4, yI a5, yI a6, yI (i32 0), yI (a8 + i32 1)] [] h4)
          (zr 262 33 [yR p0, yI a1, yI a2, yI a3, yI a4, yI a5, yI a6, yI (i32 1), yI (a8 + i32 1)] [] h4))) := U_262 (zst [26, 33]) 69 33 [yR p0, yI a1, yI a2, yI a3, yI a4, yI a5, yI a6, yI a7, yI a8] [] h
/-! 263 Model_sounds (II)Z -/
set_option maxRecDepth 100000 in
theorem e_Model_sounds (p0 : Option Nat) (a1 : Int32) (a2 : Int32) (h : zHeap) : zc 263 [zR p0, zI a1, zI a2] h =
    zr 263 4 [yR p0, yI a1, yI a2, yI (i32 1), yI (i32 0), none] [] h := U_263 (zst [4, 14]) 47 0 [yR p0, yI a1, yI a2, none, none, none] [] h
set_option maxRecDepth 100000 in
theorem e_Model_sounds_4 (p0 : Option Nat) (a1 : Int32) (a2 : Int32) (a3 : Int32) (a4 : Int32) (w5 : Option zVal) (h : zHeap) : zr 263 4 [yR p0, yI a1, yI a2, yI a3, yI a4, w5] [] h =
    zoI (zgI h p0 781) fun x1 =>
    zif (decide (x1 ≤ a4))
      (zrz a3 h)
      (zif (decide (a3 = 0))
        (zrz a3 h)
        (zr 263 14 [yR p0, yI a1, yI a2, yI (i32 0), yI a4, yI (i32 0)] [] h)) := U_263 (zst [4, 14]) 47 4 [yR p0, yI a1, yI a2, yI a3, yI a4, w5] [] h
set_option maxRecDepth 100000 in
theorem e_Model_sounds_14 (p0 : Option Nat) (a1 : Int32) (a2 : Int32) (a3 : Int32) (a4 : Int32) (a5 : Int32) (h : zHeap) : zr 263 14 [yR p0, yI a1, yI a2, yI a3, yI a4, yI a5] [] h =
    zoI (zgI h p0 779) fun x1 =>
    zif (decide (x1 ≤ a5))
      (zr 263 4 [yR p0, yI a1, yI a2, yI a3, yI (a4 + i32 1), yI a5] [] h)
      (zbV (zv 12 236 [zR p0, zI a5] h) fun h2 =>
      zif (decide (a3 ≠ 0))
        (zr 263 14 [yR p0, yI a1, yI a2, yI (i32 1), yI a4, yI (a5 + i32 1)] [] h2)
        (zif (decide (((zshr a1 a5) &&& (i32 1)) ≠ (i32 1)))
          (zr 263 14 [yR p0, yI a1, yI a2, yI (i32 0), yI a4, yI (a5 + i32 1)] [] h2)
          (zbI (zv 12 237 [zR p0, zI a2, zI a4] h2) fun x4 h3 =>
          zif (decide (x4 = (i32 (-1))))
            (zr 263 14 [yR p0, yI a1, yI a2, yI (i32 0), yI a4, yI (a5 + i32 1)] [] h3)
            (zr 263 14 [yR p0, yI a1, yI a2, yI (i32 1), yI a4, yI (a5 + i32 1)] [] h3)))) := U_263 (zst [4, 14]) 47 14 [yR p0, yI a1, yI a2, yI a3, yI a4, yI a5] [] h
/-! 264 Model_choir (IIZ)I -/
set_option maxRecDepth 100000 in
theorem e_Model_choir (p0 : Option Nat) (a1 : Int32) (a2 : Int32) (a3 : Int32) (h : zHeap) : zc 264 [zR p0, zI a1, zI a2, zI a3] h =
    zbI (zv 12 226 [zR p0, zI a1] h) fun x2 h1 =>
    zif (decide (x2 = 0))
      (some (zI (i32 (-1)), h1))
      (zbI (zv 12 228 [zR p0, zI a2] h1) fun x4 h3 =>
      zif (decide (x4 ≠ 0))
        (zr 264 14 [yR p0, yI a1, yI a2, yI a3, yI (i32 (-1)), yI (i32 0)] [] h3)
        (some (zI (i32 (-1)), h3))) := U_264 (zst [14]) 48 0 [yR p0, yI a1, yI a2, yI a3, none, none] [] h
set_option maxRecDepth 100000 in
theorem e_Model_choir_14 (p0 : Option Nat) (a1 : Int32) (a2 : Int32) (a3 : Int32) (a4 : Int32) (a5 : Int32) (h : zHeap) : zr 264 14 [yR p0, yI a1, yI a2, yI a3, yI a4, yI a5] [] h =
    zoI (zgI h p0 779) fun x1 =>
    zif (decide ((zshl (i32 1) x1) ≤ a5))
      (zif (decide (a4 = (i32 (-1))))
        (some (zI a4, h))
        (zif (decide (a3 = 0))
          (zbI (zc 249 [zI a4] h) fun x3 h2 =>
          some (zI x3, h2))
          (some (zI a4, h))))
      (zif (decide (a4 = (i32 (-1))))
        (zbI (zv 12 263 [zR p0, zI a5, zI a2] h) fun x5 h4 =>
        zif (decide (x5 = 0))
          (zr 264 14 [yR p0, yI a1, yI a2, yI a3, yI a4, yI (a5 + i32 1)] [] h4)
          (zr 264 14 [yR p0, yI a1, yI a2, yI a3, yI a5, yI (a5 + i32 1)] [] h4))
        (zbI (zc 249 [zI a5] h) fun x7 h6 =>
        zbI (zc 249 [zI a4] h6) fun x9 h8 =>
        zif (decide (x9 ≤ x7))
          (zr 264 14 [yR p0, yI a1, yI a2, yI a3, yI a4, yI (a5 + i32 1)] [] h8)
          (zbI (zv 12 263 [zR p0, zI a5, zI a2] h8) fun x11 h10 =>
          zif (decide (x11 = 0))
            (zr 264 14 [yR p0, yI a1, yI a2, yI a3, yI a4, yI (a5 + i32 1)] [] h10)
            (zr 264 14 [yR p0, yI a1, yI a2, yI a3, yI a5, yI (a5 + i32 1)] [] h10)))) := U_264 (zst [14]) 48 14 [yR p0, yI a1, yI a2, yI a3, yI a4, yI a5] [] h
/-! 265 Model_areApart (III)Z -/
set_option maxRecDepth 100000 in
theorem e_Model_areApart (p0 : Option Nat) (a1 : Int32) (a2 : Int32) (a3 : Int32) (h : zHeap) : zc 265 [zR p0, zI a1, zI a2, zI a3] h =
    zr 265 4 [yR p0, yI a1, yI a2, yI a3, yI (i32 0), yI (i32 0), none] [] h := U_265 (zst [4]) 43 0 [yR p0, yI a1, yI a2, yI a3, none, none, none] [] h
set_option maxRecDepth 100000 in
theorem e_Model_areApart_4 (p0 : Option Nat) (a1 : Int32) (a2 : Int32) (a3 : Int32) (a4 : Int32) (a5 : Int32) (w6 : Option zVal) (h : zHeap) : zr 265 4 [yR p0, yI a1, yI a2, yI a3, yI a4, yI a5, w6] [] h =
    zoI (zgI h p0 781) fun x1 =>
    zif (decide (x1 ≤ a5))
      (zrz a4 h)
      (zbV (zv 12 236 [zR p0, zI a1] h) fun h2 =>
      zbI (zv 12 239 [zR p0, zI a3, zI a5] h2) fun x4 h3 =>
      zbV (zv 12 236 [zR p0, zI a2] h3) fun h5 =>
      zif (decide (a4 ≠ 0))
        (zr 265 4 [yR p0, yI a1, yI a2, yI a3, yI (i32 1), yI (a5 + i32 1), yI x4] [] h5)
        (zbI (zc 200 [zI x4, zI (i32 0), zI (i32 1)] h5) fun x7 h6 =>
        zif (decide (x7 = 0))
          (zr 265 4 [yR p0, yI a1, yI a2, yI a3, yI (i32 0), yI (a5 + i32 1), yI x4] [] h6)
          (zbI (zv 12 239 [zR p0, zI a3, zI a5] h6) fun x9 h8 =>
          zif (decide (x9 ≠ ((i32 1) - x4)))
            (zr 265 4 [yR p0, yI a1, yI a2, yI a3, yI (i32 0), yI (a5 + i32 1), yI x4] [] h8)
            (zr 265 4 [yR p0, yI a1, yI a2, yI a3, yI (i32 1), yI (a5 + i32 1), yI x4] [] h8)))) := U_265 (zst [4]) 43 4 [yR p0, yI a1, yI a2, yI a3, yI a4, yI a5, w6] [] h
/-! 266 Model_isPeace (II)Z -/
set_option maxRecDepth 100000 in
theorem e_Model_isPeace (p0 : Option Nat) (a1 : Int32) (a2 : Int32) (h : zHeap) : zc 266 [zR p0, zI a1, zI a2] h =
    zr 266 4 [yR p0, yI a1, yI a2, yI (i32 1), yI (i32 0), none] [] h := U_266 (zst [4, 10]) 42 0 [yR p0, yI a1, yI a2, none, none, none] [] h
set_option maxRecDepth 100000 in
theorem e_Model_isPeace_4 (p0 : Option Nat) (a1 : Int32) (a2 : Int32) (a3 : Int32) (a4 : Int32) (w5 : Option zVal) (h : zHeap) : zr 266 4 [yR p0, yI a1, yI a2, yI a3, yI a4, w5] [] h =
    zoI (zgI h p0 779) fun x1 =>
    zif (decide (x1 ≤ a4))
      (zrz a3 h)
      (zr 266 10 [yR p0, yI a1, yI a2, yI a3, yI a4, yI (i32 0)] [] h) := U_266 (zst [4, 10]) 42 4 [yR p0, yI a1, yI a2, yI a3, yI a4, w5] [] h
set_option maxRecDepth 100000 in
theorem e_Model_isPeace_10 (p0 : Option Nat) (a1 : Int32) (a2 : Int32) (a3 : Int32) (a4 : Int32) (a5 : Int32) (h : zHeap) : zr 266 10 [yR p0, yI a1, yI a2, yI a3, yI a4, yI a5] [] h =
    zif (decide (a4 ≤ a5))
      (zr 266 4 [yR p0, yI a1, yI a2, yI a3, yI (a4 + i32 1), yI a5] [] h)
      (zif (decide (a3 = 0))
        (zr 266 10 [yR p0, yI a1, yI a2, yI (i32 0), yI a4, yI (a5 + i32 1)] [] h)
        (zif (decide ((((zshr a1 a4) &&& (zshr a1 a5)) &&& (i32 1)) = 0))
          (zr 266 10 [yR p0, yI a1, yI a2, yI (i32 1), yI a4, yI (a5 + i32 1)] [] h)
          (zbI (zv 12 265 [zR p0, zI a4, zI a5, zI a2] h) fun x2 h1 =>
          zif (decide (x2 ≠ 0))
            (zr 266 10 [yR p0, yI a1, yI a2, yI (i32 0), yI a4, yI (a5 + i32 1)] [] h1)
            (zr 266 10 [yR p0, yI a1, yI a2, yI (i32 1), yI a4, yI (a5 + i32 1)] [] h1)))) := U_266 (zst [4, 10]) 42 10 [yR p0, yI a1, yI a2, yI a3, yI a4, yI a5] [] h
/-! 267 Model_peace (IIZ)I -/
set_option maxRecDepth 100000 in
theorem e_Model_peace (p0 : Option Nat) (a1 : Int32) (a2 : Int32) (a3 : Int32) (h : zHeap) : zc 267 [zR p0, zI a1, zI a2, zI a3] h =
    zbI (zv 12 226 [zR p0, zI a1] h) fun x2 h1 =>
    zif (decide (x2 = 0))
      (some (zI (i32 (-1)), h1))
      (zbI (zv 12 228 [zR p0, zI a2] h1) fun x4 h3 =>
      zif (decide (x4 ≠ 0))
        (zr 267 14 [yR p0, yI a1, yI a2, yI a3, yI (i32 0), yI (i32 1)] [] h3)
        (some (zI (i32 (-1)), h3))) := U_267 (zst [14]) 42 0 [yR p0, yI a1, yI a2, yI a3, none, none] [] h
set_option maxRecDepth 100000 in
theorem e_Model_peace_14 (p0 : Option Nat) (a1 : Int32) (a2 : Int32) (a3 : Int32) (a4 : Int32) (a5 : Int32) (h : zHeap) : zr 267 14 [yR p0, yI a1, yI a2, yI a3, yI a4, yI a5] [] h =
    zoI (zgI h p0 779) fun x1 =>
    zif (decide ((zshl (i32 1) x1) ≤ a5))
      (zif (decide (a3 = 0))
        (zbI (zc 249 [zI a4] h) fun x3 h2 =>
        some (zI x3, h2))
        (some (zI a4, h)))
      (zbI (zc 249 [zI a5] h) fun x5 h4 =>
      zbI (zc 249 [zI a4] h4) fun x7 h6 =>
      zif (decide (x5 ≤ x7))
        (zr 267 14 [yR p0, yI a1, yI a2, yI a3, yI a4, yI (a5 + i32 1)] [] h6)
        (zbI (zv 12 266 [zR p0, zI a5, zI a2] h6) fun x9 h8 =>
        zif (decide (x9 = 0))
          (zr 267 14 [yR p0, yI a1, yI a2, yI a3, yI a4, yI (a5 + i32 1)] [] h8)
          (zr 267 14 [yR p0, yI a1, yI a2, yI a3, yI a5, yI (a5 + i32 1)] [] h8))) := U_267 (zst [14]) 42 14 [yR p0, yI a1, yI a2, yI a3, yI a4, yI a5] [] h
/-! 268 Model_answerBy (III)I -/
set_option maxRecDepth 100000 in
theorem e_Model_answerBy (p0 : Option Nat) (a1 : Int32) (a2 : Int32) (a3 : Int32) (h : zHeap) : zc 268 [zR p0, zI a1, zI a2, zI a3] h =
    zbV (zv 12 236 [zR p0, zI a1] h) fun h1 =>
    zbI (zv 12 239 [zR p0, zI a2, zI a3] h1) fun x3 h2 =>
    some (zI x3, h2) := U_268 (zst []) 9 0 [yR p0, yI a1, yI a2, yI a3] [] h
/-! 269 Model_noteByReed (III)I -/
set_option maxRecDepth 100000 in
theorem e_Model_noteByReed (p0 : Option Nat) (a1 : Int32) (a2 : Int32) (a3 : Int32) (h : zHeap) : zc 269 [zR p0, zI a1, zI a2, zI a3] h =
    zbV (zv 12 236 [zR p0, zI a1] h) fun h1 =>
    zbI (zv 12 237 [zR p0, zI a2, zI a3] h1) fun x3 h2 =>
    some (zI x3, h2) := U_269 (zst []) 9 0 [yR p0, yI a1, yI a2, yI a3] [] h
/-! 270 Model_marched (II)I -/
set_option maxRecDepth 100000 in
theorem e_Model_marched (p0 : Option Nat) (a1 : Int32) (a2 : Int32) (h : zHeap) : zc 270 [zR p0, zI a1, zI a2] h =
    zbI (zv 12 226 [zR p0, zI a1] h) fun x2 h1 =>
    zif (decide (x2 = 0))
      (some (zI (i32 (-1)), h1))
      (zbI (zv 12 229 [zR p0, zI a2] h1) fun x4 h3 =>
      zif (decide (x4 ≠ 0))
        (zr 270 14 [yR p0, yI a1, yI a2, yI (i32 0), yI (i32 0), none, none, none] [] h3)
        (some (zI (i32 (-1)), h3))) := U_270 (zst [14, 22, 28, 34]) 76 0 [yR p0, yI a1, yI a2, none, none, none, none, none] [] h
set_option maxRecDepth 100000 in
theorem e_Model_marched_14 (p0 : Option Nat) (a1 : Int32) (a2 : Int32) (a3 : Int32) (a4 : Int32) (w5 : Option zVal) (w6 : Option zVal) (w7 : Option zVal) (h : zHeap) : zr 270 14 [yR p0, yI a1, yI a2, yI a3, yI a4, w5, w6, w7] [] h =
    zoI (zgI h p0 779) fun x1 =>
    zif (decide (x1 ≤ a4))
      (some (zI a3, h))
      (zr 270 22 [yR p0, yI a1, yI a2, yI a3, yI a4, yI (a4 + (i32 1)), w6, w7] [] h) := U_270 (zst [14, 22, 28, 34]) 76 14 [yR p0, yI a1, yI a2, yI a3, yI a4, w5, w6, w7] [] h
set_option maxRecDepth 100000 in
theorem e_Model_marched_22 (p0 : Option Nat) (a1 : Int32) (a2 : Int32) (a3 : Int32) (a4 : Int32) (a5 : Int32) (w6 : Option zVal) (w7 : Option zVal) (h : zHeap) : zr 270 22 [yR p0, yI a1, yI a2, yI a3, yI a4, yI a5, w6, w7] [] h =
    zoI (zgI h p0 779) fun x1 =>
    zif (decide (x1 ≤ a5))
      (zr 270 14 [yR p0, yI a1, yI a2, yI a3, yI (a4 + i32 1), yI a5, w6, w7] [] h)
      (zr 270 28 [yR p0, yI a1, yI a2, yI a3, yI a4, yI a5, yI (i32 0), w7] [] h) := U_270 (zst [14, 22, 28, 34]) 76 22 [yR p0, yI a1, yI a2, yI a3, yI a4, yI a5, w6, w7] [] h
set_option maxRecDepth 100000 in
theorem e_Model_marched_28 (p0 : Option Nat) (a1 : Int32) (a2 : Int32) (a3 : Int32) (a4 : Int32) (a5 : Int32) (a6 : Int32) (w7 : Option zVal) (h : zHeap) : zr 270 28 [yR p0, yI a1, yI a2, yI a3, yI a4, yI a5, yI a6, w7] [] h =
    zoI (zgI h p0 780) fun x1 =>
    zif (decide (x1 ≤ a6))
      (zr 270 22 [yR p0, yI a1, yI a2, yI a3, yI a4, yI (a5 + i32 1), yI a6, w7] [] h)
      (zr 270 34 [yR p0, yI a1, yI a2, yI a3, yI a4, yI a5, yI a6, yI (i32 0)] [] h) := U_270 (zst [14, 22, 28, 34]) 76 28 [yR p0, yI a1, yI a2, yI a3, yI a4, yI a5, yI a6, w7] [] h
set_option maxRecDepth 100000 in
theorem e_Model_marched_34 (p0 : Option Nat) (a1 : Int32) (a2 : Int32) (a3 : Int32) (a4 : Int32) (a5 : Int32) (a6 : Int32) (a7 : Int32) (h : zHeap) : zr 270 34 [yR p0, yI a1, yI a2, yI a3, yI a4, yI a5, yI a6, yI a7] [] h =
    zoI (zgI h p0 780) fun x1 =>
    zif (decide (x1 ≤ a7))
      (zr 270 28 [yR p0, yI a1, yI a2, yI a3, yI a4, yI a5, yI (a6 + i32 1), yI a7] [] h)
      (zif (decide (a6 = a7))
        (zr 270 34 [yR p0, yI a1, yI a2, yI (a3 + (i32 0)), yI a4, yI a5, yI a6, yI (a7 + i32 1)] [] h)
        (zbI (zv 12 268 [zR p0, zI a4, zI a6, zI a2] h) fun x3 h2 =>
        zif (decide (x3 = (i32 (-1))))
          (zr 270 34 [yR p0, yI a1, yI a2, yI (a3 + (i32 0)), yI a4, yI a5, yI a6, yI (a7 + i32 1)] [] h2)
          (zbI (zv 12 268 [zR p0, zI a4, zI a6, zI a2] h2) fun x5 h4 =>
          zbI (zv 12 268 [zR p0, zI a5, zI a7, zI a2] h4) fun x7 h6 =>
          zif (decide (x5 ≠ x7))
            (zr 270 34 [yR p0, yI a1, yI a2, yI (a3 + (i32 0)), yI a4, yI a5, yI a6, yI (a7 + i32 1)] [] h6)
            (zr 270 34 [yR p0, yI a1, yI a2, yI (a3 + (i32 1)), yI a4, yI a5, yI a6, yI (a7 + i32 1)] [] h6)))) := U_270 (zst [14, 22, 28, 34]) 76 34 [yR p0, yI a1, yI a2, yI a3, yI a4, yI a5, yI a6, yI a7] [] h
/-! 271 Model_isChord (III)Z -/
set_option maxRecDepth 100000 in
theorem e_Model_isChord (a0 : Int32) (a1 : Int32) (a2 : Int32) (h : zHeap) : zc 271 [zI a0, zI a1, zI a2] h =
    zif (decide (a0 = (i32 (-1))))
      (zrz (i32 0) h)
      (zoI (if (i32 8) = 0 then none else some (zrem (a0 + (i32 2)) (i32 8))) fun x1 =>
      zif (decide (a1 ≠ x1))
        (zrz (i32 0) h)
        (zoI (if (i32 8) = 0 then none else some (zrem (a0 + (i32 4)) (i32 8))) fun x2 =>
        zif (decide (a2 ≠ x2))
          (zrz (i32 0) h)
          (zrz (i32 1) h))) := U_271 (zst []) 22 0 [yI a0, yI a1, yI a2] [] h
/-! 272 Model_chords (III)I -/
set_option maxRecDepth 100000 in
theorem e_Model_chords (p0 : Option Nat) (a1 : Int32) (a2 : Int32) (a3 : Int32) (h : zHeap) : zc 272 [zR p0, zI a1, zI a2, zI a3] h =
    zbI (zv 12 226 [zR p0, zI a1] h) fun x2 h1 =>
    zif (decide (x2 = 0))
      (some (zI (i32 (-1)), h1))
      (zbI (zv 12 228 [zR p0, zI a2] h1) fun x4 h3 =>
      zif (decide (x4 = 0))
        (some (zI (i32 (-1)), h3))
        (zbI (zv 12 229 [zR p0, zI a3] h3) fun x6 h5 =>
        zif (decide (x6 ≠ 0))
          (zr 272 18 [yR p0, yI a1, yI a2, yI a3, yI (i32 0), yI (i32 0), none, none] [] h5)
          (some (zI (i32 (-1)), h5)))) := U_272 (zst [18, 24, 30]) 66 0 [yR p0, yI a1, yI a2, yI a3, none, none, none, none] [] h
set_option maxRecDepth 100000 in
theorem e_Model_chords_18 (p0 : Option Nat) (a1 : Int32) (a2 : Int32) (a3 : Int32) (a4 : Int32) (a5 : Int32) (w6 : Option zVal) (w7 : Option zVal) (h : zHeap) : zr 272 18 [yR p0, yI a1, yI a2, yI a3, yI a4, yI a5, w6, w7] [] h =
    zoI (zgI h p0 779) fun x1 =>
    zif (decide (x1 ≤ a5))
      (some (zI a4, h))
      (zr 272 24 [yR p0, yI a1, yI a2, yI a3, yI a4, yI a5, yI (i32 0), w7] [] h) := U_272 (zst [18, 24, 30]) 66 18 [yR p0, yI a1, yI a2, yI a3, yI a4, yI a5, w6, w7] [] h
set_option maxRecDepth 100000 in
theorem e_Model_chords_24 (p0 : Option Nat) (a1 : Int32) (a2 : Int32) (a3 : Int32) (a4 : Int32) (a5 : Int32) (a6 : Int32) (w7 : Option zVal) (h : zHeap) : zr 272 24 [yR p0, yI a1, yI a2, yI a3, yI a4, yI a5, yI a6, w7] [] h =
    zoI (zgI h p0 779) fun x1 =>
    zif (decide (x1 ≤ a6))
      (zr 272 18 [yR p0, yI a1, yI a2, yI a3, yI a4, yI (a5 + i32 1), yI a6, w7] [] h)
      (zr 272 30 [yR p0, yI a1, yI a2, yI a3, yI a4, yI a5, yI a6, yI (i32 0)] [] h) := U_272 (zst [18, 24, 30]) 66 24 [yR p0, yI a1, yI a2, yI a3, yI a4, yI a5, yI a6, w7] [] h
set_option maxRecDepth 100000 in
theorem e_Model_chords_30 (p0 : Option Nat) (a1 : Int32) (a2 : Int32) (a3 : Int32) (a4 : Int32) (a5 : Int32) (a6 : Int32) (a7 : Int32) (h : zHeap) : zr 272 30 [yR p0, yI a1, yI a2, yI a3, yI a4, yI a5, yI a6, yI a7] [] h =
    zoI (zgI h p0 779) fun x1 =>
    zif (decide (x1 ≤ a7))
      (zr 272 24 [yR p0, yI a1, yI a2, yI a3, yI a4, yI a5, yI (a6 + i32 1), yI a7] [] h)
      (zbI (zv 12 269 [zR p0, zI a5, zI a2, zI a3] h) fun x3 h2 =>
      zbI (zv 12 269 [zR p0, zI a6, zI a2, zI a3] h2) fun x5 h4 =>
      zbI (zv 12 269 [zR p0, zI a7, zI a2, zI a3] h4) fun x7 h6 =>
      zbI (zc 271 [zI x3, zI x5, zI x7] h6) fun x9 h8 =>
      zif (decide (x9 = 0))
        (zr 272 30 [yR p0, yI a1, yI a2, yI a3, yI (a4 + (i32 0)), yI a5, yI a6, yI (a7 + i32 1)] [] h8)
        (zr 272 30 [yR p0, yI a1, yI a2, yI a3, yI (a4 + (i32 1)), yI a5, yI a6, yI (a7 + i32 1)] [] h8)) := U_272 (zst [18, 24, 30]) 66 30 [yR p0, yI a1, yI a2, yI a3, yI a4, yI a5, yI a6, yI a7] [] h
/-! 273 Model_areTwins (II)Z -/
set_option maxRecDepth 100000 in
theorem e_Model_areTwins (p0 : Option Nat) (a1 : Int32) (a2 : Int32) (h : zHeap) : zc 273 [zR p0, zI a1, zI a2] h =
    zr 273 4 [yR p0, yI a1, yI a2, yI (i32 1), yI (i32 0), none] [] h := U_273 (zst [4, 10]) 38 0 [yR p0, yI a1, yI a2, none, none, none] [] h
set_option maxRecDepth 100000 in
theorem e_Model_areTwins_4 (p0 : Option Nat) (a1 : Int32) (a2 : Int32) (a3 : Int32) (a4 : Int32) (w5 : Option zVal) (h : zHeap) : zr 273 4 [yR p0, yI a1, yI a2, yI a3, yI a4, w5] [] h =
    zoI (zgI h p0 780) fun x1 =>
    zif (decide (x1 ≤ a4))
      (zrz a3 h)
      (zr 273 10 [yR p0, yI a1, yI a2, yI a3, yI a4, yI (i32 0)] [] h) := U_273 (zst [4, 10]) 38 4 [yR p0, yI a1, yI a2, yI a3, yI a4, w5] [] h
set_option maxRecDepth 100000 in
theorem e_Model_areTwins_10 (p0 : Option Nat) (a1 : Int32) (a2 : Int32) (a3 : Int32) (a4 : Int32) (a5 : Int32) (h : zHeap) : zr 273 10 [yR p0, yI a1, yI a2, yI a3, yI a4, yI a5] [] h =
    zoI (zgI h p0 781) fun x1 =>
    zif (decide (x1 ≤ a5))
      (zr 273 4 [yR p0, yI a1, yI a2, yI a3, yI (a4 + i32 1), yI a5] [] h)
      (zif (decide (a3 = 0))
        (zr 273 10 [yR p0, yI a1, yI a2, yI (i32 0), yI a4, yI (a5 + i32 1)] [] h)
        (zbI (zv 12 269 [zR p0, zI a1, zI a4, zI a5] h) fun x3 h2 =>
        zbI (zv 12 269 [zR p0, zI a2, zI a4, zI a5] h2) fun x5 h4 =>
        zif (decide (x3 ≠ x5))
          (zr 273 10 [yR p0, yI a1, yI a2, yI (i32 0), yI a4, yI (a5 + i32 1)] [] h4)
          (zr 273 10 [yR p0, yI a1, yI a2, yI (i32 1), yI a4, yI (a5 + i32 1)] [] h4))) := U_273 (zst [4, 10]) 38 10 [yR p0, yI a1, yI a2, yI a3, yI a4, yI a5] [] h
/-! 274 Model_cutsTo (I)I -/
set_option maxRecDepth 100000 in
theorem e_Model_cutsTo (p0 : Option Nat) (a1 : Int32) (h : zHeap) : zc 274 [zR p0, zI a1] h =
    zr 274 4 [yR p0, yI a1, yI (i32 0), yI (i32 0)] [] h := U_274 (zst [4]) 25 0 [yR p0, yI a1, none, none] [] h
set_option maxRecDepth 100000 in
theorem e_Model_cutsTo_4 (p0 : Option Nat) (a1 : Int32) (a2 : Int32) (a3 : Int32) (h : zHeap) : zr 274 4 [yR p0, yI a1, yI a2, yI a3] [] h =
    zoI (zgI h p0 779) fun x1 =>
    zif (decide (x1 ≤ a3))
      (some (zI a2, h))
      (zbI (zv 12 231 [zR p0, zI a3] h) fun x3 h2 =>
      zoI (if (i32 8) = 0 then none else some (zrem ((a1 + (i32 8)) - x3) (i32 8))) fun x4 =>
      zr 274 4 [yR p0, yI a1, yI (a2 + x4), yI (a3 + i32 1)] [] h2) := U_274 (zst [4]) 25 4 [yR p0, yI a1, yI a2, yI a3] [] h
/-! 275 Model_twins (II)I -/
set_option maxRecDepth 100000 in
theorem e_Model_twins (p0 : Option Nat) (a1 : Int32) (a2 : Int32) (h : zHeap) : zc 275 [zR p0, zI a1, zI a2] h =
    zbI (zv 12 226 [zR p0, zI a1] h) fun x2 h1 =>
    zif (decide (x2 = 0))
      (some (zI (i32 (-1)), h1))
      (zbI (zc 200 [zI a2, zI (i32 0), zI (i32 2)] h1) fun x4 h3 =>
      zif (decide (x4 ≠ 0))
        (zr 275 15 [yR p0, yI a1, yI a2, yI (i32 0), yI (i32 0), none] [] h3)
        (some (zI (i32 (-1)), h3))) := U_275 (zst [15, 21, 43]) 73 0 [yR p0, yI a1, yI a2, none, none, none] [] h
set_option maxRecDepth 100000 in
theorem e_Model_twins_15 (p0 : Option Nat) (a1 : Int32) (a2 : Int32) (a3 : Int32) (a4 : Int32) (w5 : Option zVal) (h : zHeap) : zr 275 15 [yR p0, yI a1, yI a2, yI a3, yI a4, w5] [] h =
    zoI (zgI h p0 779) fun x1 =>
    zif (decide (x1 ≤ a4))
      (zr 275 43 [yR p0, yI a1, yI a2, yI a3, yI (i32 0), yI (i32 1)] [] h)
      (zr 275 21 [yR p0, yI a1, yI a2, yI a3, yI a4, yI (i32 0)] [] h) := U_275 (zst [15, 21, 43]) 73 15 [yR p0, yI a1, yI a2, yI a3, yI a4, w5] [] h
set_option maxRecDepth 100000 in
theorem e_Model_twins_21 (p0 : Option Nat) (a1 : Int32) (a2 : Int32) (a3 : Int32) (a4 : Int32) (a5 : Int32) (h : zHeap) : zr 275 21 [yR p0, yI a1, yI a2, yI a3, yI a4, yI a5] [] h =
    zif (decide (a4 ≤ a5))
      (zr 275 15 [yR p0, yI a1, yI a2, yI a3, yI (a4 + i32 1), yI a5] [] h)
      (zbI (zv 12 273 [zR p0, zI a4, zI a5] h) fun x2 h1 =>
      zif (decide (x2 = 0))
        (zr 275 21 [yR p0, yI a1, yI a2, yI (a3 + (i32 0)), yI a4, yI (a5 + i32 1)] [] h1)
        (zr 275 21 [yR p0, yI a1, yI a2, yI (a3 + (i32 1)), yI a4, yI (a5 + i32 1)] [] h1)) := U_275 (zst [15, 21, 43]) 73 21 [yR p0, yI a1, yI a2, yI a3, yI a4, yI a5] [] h
set_option maxRecDepth 100000 in
theorem e_Model_twins_43 (p0 : Option Nat) (a1 : Int32) (a2 : Int32) (a3 : Int32) (a4 : Int32) (a5 : Int32) (h : zHeap) : zr 275 43 [yR p0, yI a1, yI a2, yI a3, yI a4, yI a5] [] h =
    zif (decide ((i32 8) ≤ a5))
      (zif (decide (a2 ≠ 0))
        (zif (decide (a2 ≠ (i32 1)))
          (some (zI a4, h))
          (zbI (zv 12 274 [zR p0, zI a4] h) fun x2 h1 =>
          some (zI x2, h1)))
        (some (zI a3, h)))
      (zbI (zv 12 274 [zR p0, zI a5] h) fun x4 h3 =>
      zbI (zv 12 274 [zR p0, zI a4] h3) fun x6 h5 =>
      zif (decide (x6 ≤ x4))
        (zr 275 43 [yR p0, yI a1, yI a2, yI a3, yI a4, yI (a5 + i32 1)] [] h5)
        (zr 275 43 [yR p0, yI a1, yI a2, yI a3, yI a5, yI (a5 + i32 1)] [] h5)) := U_275 (zst [15, 21, 43]) 73 43 [yR p0, yI a1, yI a2, yI a3, yI a4, yI a5] [] h
/-! 276 Model_soundsBy (II)I -/
set_option maxRecDepth 100000 in
theorem e_Model_soundsBy (p0 : Option Nat) (a1 : Int32) (a2 : Int32) (h : zHeap) : zc 276 [zR p0, zI a1, zI a2] h =
    zbV (zv 12 236 [zR p0, zI a1] h) fun h1 =>
    zr 276 7 [yR p0, yI a1, yI a2, yI (i32 0), yI (i32 0)] [] h1 := U_276 (zst [7]) 28 0 [yR p0, yI a1, yI a2, none, none] [] h
set_option maxRecDepth 100000 in
theorem e_Model_soundsBy_7 (p0 : Option Nat) (a1 : Int32) (a2 : Int32) (a3 : Int32) (a4 : Int32) (h : zHeap) : zr 276 7 [yR p0, yI a1, yI a2, yI a3, yI a4] [] h =
    zoI (zgI h p0 781) fun x1 =>
    zif (decide (x1 ≤ a4))
      (some (zI a3, h))
      (zbI (zv 12 237 [zR p0, zI a2, zI a4] h) fun x3 h2 =>
      zif (decide (x3 ≠ (i32 (-1))))
        (zr 276 7 [yR p0, yI a1, yI a2, yI (a3 + (i32 1)), yI (a4 + i32 1)] [] h2)
        (zr 276 7 [yR p0, yI a1, yI a2, yI (a3 + (i32 0)), yI (a4 + i32 1)] [] h2)) := U_276 (zst [7]) 28 7 [yR p0, yI a1, yI a2, yI a3, yI a4] [] h
/-! 277 Model_wishOf (I)I -/
set_option maxRecDepth 100000 in
theorem e_Model_wishOf (p0 : Option Nat) (a1 : Int32) (h : zHeap) : zc 277 [zR p0, zI a1] h =
    zr 277 4 [yR p0, yI a1, yI (i32 (-1)), yI (i32 0)] [] h := U_277 (zst [4]) 36 0 [yR p0, yI a1, none, none] [] h
set_option maxRecDepth 100000 in
theorem e_Model_wishOf_4 (p0 : Option Nat) (a1 : Int32) (a2 : Int32) (a3 : Int32) (h : zHeap) : zr 277 4 [yR p0, yI a1, yI a2, yI a3] [] h =
    zoI (zgI h p0 779) fun x1 =>
    zif (decide (x1 ≤ a3))
      (some (zI a2, h))
      (zoR (zgR h p0 791) fun r2 =>
      zoI (zaI h r2 a1 0) fun x3 =>
      zif (decide (((zshr x3 a3) &&& (i32 1)) ≠ 0))
        (zr 277 4 [yR p0, yI a1, yI a2, yI (a3 + i32 1)] [] h)
        (zif (decide (a2 = (i32 (-1))))
          (zr 277 4 [yR p0, yI a1, yI a3, yI (a3 + i32 1)] [] h)
          (zbI (zv 12 276 [zR p0, zI a3, zI a1] h) fun x5 h4 =>
          zbI (zv 12 276 [zR p0, zI a2, zI a1] h4) fun x7 h6 =>
          zif (decide (x5 ≤ x7))
            (zr 277 4 [yR p0, yI a1, yI a2, yI (a3 + i32 1)] [] h6)
            (zr 277 4 [yR p0, yI a1, yI a3, yI (a3 + i32 1)] [] h6)))) := U_277 (zst [4]) 36 4 [yR p0, yI a1, yI a2, yI a3] [] h
/-! 278 Model_hasAny (I)Z -/
set_option maxRecDepth 100000 in
theorem e_Model_hasAny (p0 : Option Nat) (a1 : Int32) (h : zHeap) : zc 278 [zR p0, zI a1] h =
    zr 278 4 [yR p0, yI a1, yI (i32 0), yI (i32 0)] [] h := U_278 (zst [4]) 25 0 [yR p0, yI a1, none, none] [] h
set_option maxRecDepth 100000 in
theorem e_Model_hasAny_4 (p0 : Option Nat) (a1 : Int32) (a2 : Int32) (a3 : Int32) (h : zHeap) : zr 278 4 [yR p0, yI a1, yI a2, yI a3] [] h =
    zoI (zgI h p0 779) fun x1 =>
    zif (decide (x1 ≤ a3))
      (zrz a2 h)
      (zif (decide (a2 ≠ 0))
        (zr 278 4 [yR p0, yI a1, yI (i32 1), yI (a3 + i32 1)] [] h)
        (zoR (zgR h p0 790) fun r2 =>
        zoI (zaI h r2 a3 0) fun x3 =>
        zif (decide (x3 ≠ a1))
          (zr 278 4 [yR p0, yI a1, yI (i32 0), yI (a3 + i32 1)] [] h)
          (zr 278 4 [yR p0, yI a1, yI (i32 1), yI (a3 + i32 1)] [] h))) := U_278 (zst [4]) 25 4 [yR p0, yI a1, yI a2, yI a3] [] h
/-! 279 Model_asksAround ()Z -/
set_option maxRecDepth 100000 in
theorem e_Model_asksAround (p0 : Option Nat) (h : zHeap) : zc 279 [zR p0] h =
    zr 279 4 [yR p0, yI (i32 0), yI (i32 0), none, none] [] h := U_279 (zst [4, 17]) 69 0 [yR p0, none, none, none, none] [] h
set_option maxRecDepth 100000 in
theorem e_Model_asksAround_4 (p0 : Option Nat) (a1 : Int32) (a2 : Int32) (w3 : Option zVal) (w4 : Option zVal) (h : zHeap) : zr 279 4 [yR p0, yI a1, yI a2, w3, w4] [] h =
    zoI (zgI h p0 780) fun x1 =>
    zif (decide (x1 ≤ a2))
      (zrz a1 h)
      (zbI (zv 12 278 [zR p0, zI a2] h) fun x3 h2 =>
      zif (decide (x3 = 0))
        (zbI (zv 12 277 [zR p0, zI a2] h2) fun x5 h4 =>
        zr 279 17 [yR p0, yI a1, yI a2, w3, w4] [zI x5] h4)
        (zr 279 17 [yR p0, yI a1, yI a2, w3, w4] [zI (i32 (-1))] h2)) := U_279 (zst [4, 17]) 69 4 [yR p0, yI a1, yI a2, w3, w4] [] h
set_option maxRecDepth 100000 in
theorem e_Model_asksAround_17 (p0 : Option Nat) (a1 : Int32) (a2 : Int32) (w3 : Option zVal) (w4 : Option zVal) (s0 : Int32) (h : zHeap) : zr 279 17 [yR p0, yI a1, yI a2, w3, w4] [zI s0] h =
    zif (decide (s0 ≠ (i32 (-1))))
      (zoR (zgR h p0 791) fun r1 =>
      zoI (zaI h r1 a2 0) fun x2 =>
      zoH (zaS h r1 a2 (x2 ||| (zshl (i32 1) s0))) fun h3 =>
      zoR (zgR h3 p0 790) fun r4 =>
      zoI (zaI h3 r4 s0 0) fun x5 =>
      zif (decide (x5 = (i32 (-1))))
        (zoR (zgR h3 p0 790) fun r6 =>
        zoH (zaS h3 r6 s0 a2) fun h7 =>
        zr 279 4 [yR p0, yI (i32 1), yI (a2 + i32 1), yI s0, yI x5] [] h7)
        (zbI (zv 12 232 [zR p0, zI a2] h3) fun x9 h8 =>
        zbI (zv 12 232 [zR p0, zI x5] h8) fun x11 h10 =>
        zif (decide (x11 < x9))
          (zoR (zgR h10 p0 790) fun r12 =>
          zoH (zaS h10 r12 s0 a2) fun h13 =>
          zr 279 4 [yR p0, yI (i32 1), yI (a2 + i32 1), yI s0, yI x5] [] h13)
          (zbI (zv 12 232 [zR p0, zI a2] h10) fun x15 h14 =>
          zbI (zv 12 232 [zR p0, zI x5] h14) fun x17 h16 =>
          zif (decide (x15 ≠ x17))
            (zr 279 4 [yR p0, yI (i32 1), yI (a2 + i32 1), yI s0, yI x5] [] h16)
            (zif (decide (x5 ≤ a2))
              (zr 279 4 [yR p0, yI (i32 1), yI (a2 + i32 1), yI s0, yI x5] [] h16)
              (zoR (zgR h16 p0 790) fun r18 =>
              zoH (zaS h16 r18 s0 a2) fun h19 =>
              zr 279 4 [yR p0, yI (i32 1), yI (a2 + i32 1), yI s0, yI x5] [] h19)))))
      (zr 279 4 [yR p0, yI a1, yI (a2 + i32 1), yI s0, w4] [] h) := U_279 (zst [4, 17]) 69 17 [yR p0, yI a1, yI a2, w3, w4] [zI s0] h
/-! 280 Model_owns (IIZ)I -/
set_option maxRecDepth 100000 in
theorem e_Model_owns (p0 : Option Nat) (a1 : Int32) (a2 : Int32) (a3 : Int32) (h : zHeap) : zc 280 [zR p0, zI a1, zI a2, zI a3] h =
    zbI (zv 12 226 [zR p0, zI a1] h) fun x2 h1 =>
    zif (decide (x2 = 0))
      (some (zI (i32 (-2)), h1))
      (zif (decide (a3 = 0))
        (zbI (zv 12 228 [zR p0, zI a2] h1) fun x4 h3 =>
        zif (decide (x4 ≠ 0))
          (zr 280 19 [yR p0, yI a1, yI a2, yI a3, yI (i32 0), none] [] h3)
          (some (zI (i32 (-2)), h3)))
        (zbI (zv 12 227 [zR p0, zI a2] h1) fun x6 h5 =>
        zif (decide (x6 = 0))
          (some (zI (i32 (-2)), h5))
          (zr 280 19 [yR p0, yI a1, yI a2, yI a3, yI (i32 0), none] [] h5))) := U_280 (zst [19, 31, 43, 58]) 75 0 [yR p0, yI a1, yI a2, yI a3, none, none] [] h
set_option maxRecDepth 100000 in
theorem e_Model_owns_19 (p0 : Option Nat) (a1 : Int32) (a2 : Int32) (a3 : Int32) (a4 : Int32) (h : zHeap) : zr 280 19 [yR p0, yI a1, yI a2, yI a3, yI a4, none] [] h =
    zif (decide ((i32 6) ≤ a4))
      (zr 280 31 [yR p0, yI a1, yI a2, yI a3, yI (i32 0), none] [] h)
      (zoR (zgR h p0 790) fun r1 =>
      zoH (zaS h r1 a4 (i32 (-1))) fun h2 =>
      zr 280 19 [yR p0, yI a1, yI a2, yI a3, yI (a4 + i32 1), none] [] h2) := U_280 (zst [19, 31, 43, 58]) 75 19 [yR p0, yI a1, yI a2, yI a3, yI a4, none] [] h
set_option maxRecDepth 100000 in
theorem e_Model_owns_31 (p0 : Option Nat) (a1 : Int32) (a2 : Int32) (a3 : Int32) (a4 : Int32) (h : zHeap) : zr 280 31 [yR p0, yI a1, yI a2, yI a3, yI a4, none] [] h =
    zif (decide ((i32 4) ≤ a4))
      (zr 280 43 [yR p0, yI a1, yI a2, yI a3, yI (i32 1), none] [] h)
      (zoR (zgR h p0 791) fun r1 =>
      zoH (zaS h r1 a4 (i32 0)) fun h2 =>
      zr 280 31 [yR p0, yI a1, yI a2, yI a3, yI (a4 + i32 1), none] [] h2) := U_280 (zst [19, 31, 43, 58]) 75 31 [yR p0, yI a1, yI a2, yI a3, yI a4, none] [] h
set_option maxRecDepth 100000 in
theorem e_Model_owns_43 (p0 : Option Nat) (a1 : Int32) (a2 : Int32) (a3 : Int32) (a4 : Int32) (h : zHeap) : zr 280 43 [yR p0, yI a1, yI a2, yI a3, yI a4, none] [] h =
    zif (decide (a4 = 0))
      (zif (decide (a3 = 0))
        (zr 280 58 [yR p0, yI a1, yI a2, yI a3, yI a4, yI (i32 0)] [] h)
        (zoR (zgR h p0 790) fun r1 =>
        zoI (zaI h r1 a2 0) fun x2 =>
        some (zI x2, h)))
      (zbI (zv 12 279 [zR p0] h) fun x4 h3 =>
      zr 280 43 [yR p0, yI a1, yI a2, yI a3, yI x4, none] [] h3) := U_280 (zst [19, 31, 43, 58]) 75 43 [yR p0, yI a1, yI a2, yI a3, yI a4, none] [] h
set_option maxRecDepth 100000 in
theorem e_Model_owns_58 (p0 : Option Nat) (a1 : Int32) (a2 : Int32) (a3 : Int32) (a4 : Int32) (a5 : Int32) (h : zHeap) : zr 280 58 [yR p0, yI a1, yI a2, yI a3, yI a4, yI a5] [] h =
    zoI (zgI h p0 779) fun x1 =>
    zif (decide (x1 ≤ a5))
      (some (zI (i32 (-1)), h))
      (zoR (zgR h p0 790) fun r2 =>
      zoI (zaI h r2 a5 0) fun x3 =>
      zif (decide (x3 ≠ a2))
        (zr 280 58 [yR p0, yI a1, yI a2, yI a3, yI a4, yI (a5 + i32 1)] [] h)
        (some (zI a5, h))) := U_280 (zst [19, 31, 43, 58]) 75 58 [yR p0, yI a1, yI a2, yI a3, yI a4, yI a5] [] h
/-! 281 Model_wets (II)I -/
set_option maxRecDepth 100000 in
theorem e_Model_wets (p0 : Option Nat) (a1 : Int32) (a2 : Int32) (h : zHeap) : zc 281 [zR p0, zI a1, zI a2] h =
    zbI (zv 12 226 [zR p0, zI a1] h) fun x2 h1 =>
    zif (decide (x2 = 0))
      (some (zI (i32 (-1)), h1))
      (zbI (zv 12 227 [zR p0, zI a2] h1) fun x4 h3 =>
      zif (decide (x4 ≠ 0))
        (zr 281 12 [yR p0, yI a1, yI a2, yI (i32 0), none, none, none] [] h3)
        (some (zI (i32 (-1)), h3))) := U_281 (zst [12, 40, 46]) 75 0 [yR p0, yI a1, yI a2, none, none, none, none] [] h
set_option maxRecDepth 100000 in
theorem e_Model_wets_12 (p0 : Option Nat) (a1 : Int32) (a2 : Int32) (a3 : Int32) (w4 : Option zVal) (w5 : Option zVal) (w6 : Option zVal) (h : zHeap) : zr 281 12 [yR p0, yI a1, yI a2, yI a3, w4, w5, w6] [] h =
    zif (decide ((i32 4) ≤ a3))
      (some (zI (i32 (-1)), h))
      (zbV (zv 12 236 [zR p0, zI a2] h) fun h1 =>
      zoI (zgI h1 p0 782) fun x2 =>
      zif (decide ((x2 + ((i32 3) * a3)) ≤ (i32 9)))
        (zoI (zgI h1 p0 782) fun x3 =>
        zoH (zpI h1 p0 782 (x3 + ((i32 3) * a3))) fun h4 =>
        zr 281 40 [yR p0, yI a1, yI a2, yI a3, yI (i32 1), yI (i32 0), w6] [] h4)
        (zoH (zpI h1 p0 782 (i32 9)) fun h5 =>
        zr 281 40 [yR p0, yI a1, yI a2, yI a3, yI (i32 1), yI (i32 0), w6] [] h5)) := U_281 (zst [12, 40, 46]) 75 12 [yR p0, yI a1, yI a2, yI a3, w4, w5, w6] [] h
set_option maxRecDepth 100000 in
theorem e_Model_wets_40 (p0 : Option Nat) (a1 : Int32) (a2 : Int32) (a3 : Int32) (a4 : Int32) (a5 : Int32) (w6 : Option zVal) (h : zHeap) : zr 281 40 [yR p0, yI a1, yI a2, yI a3, yI a4, yI a5, w6] [] h =
    zoI (zgI h p0 780) fun x1 =>
    zif (decide (x1 ≤ a5))
      (zif (decide (a4 = 0))
        (zr 281 12 [yR p0, yI a1, yI a2, yI (a3 + i32 1), yI a4, yI a5, w6] [] h)
        (some (zI a3, h)))
      (zr 281 46 [yR p0, yI a1, yI a2, yI a3, yI a4, yI a5, yI (i32 0)] [] h) := U_281 (zst [12, 40, 46]) 75 40 [yR p0, yI a1, yI a2, yI a3, yI a4, yI a5, w6] [] h
set_option maxRecDepth 100000 in
theorem e_Model_wets_46 (p0 : Option Nat) (a1 : Int32) (a2 : Int32) (a3 : Int32) (a4 : Int32) (a5 : Int32) (a6 : Int32) (h : zHeap) : zr 281 46 [yR p0, yI a1, yI a2, yI a3, yI a4, yI a5, yI a6] [] h =
    zoI (zgI h p0 781) fun x1 =>
    zif (decide (x1 ≤ a6))
      (zr 281 40 [yR p0, yI a1, yI a2, yI a3, yI a4, yI (a5 + i32 1), yI a6] [] h)
      (zif (decide (a4 = 0))
        (zr 281 46 [yR p0, yI a1, yI a2, yI a3, yI (i32 0), yI a5, yI (a6 + i32 1)] [] h)
        (zbI (zv 12 237 [zR p0, zI a5, zI a6] h) fun x3 h2 =>
        zif (decide (x3 = (i32 (-1))))
          (zr 281 46 [yR p0, yI a1, yI a2, yI a3, yI (i32 0), yI a5, yI (a6 + i32 1)] [] h2)
          (zr 281 46 [yR p0, yI a1, yI a2, yI a3, yI (i32 1), yI a5, yI (a6 + i32 1)] [] h2))) := U_281 (zst [12, 40, 46]) 75 46 [yR p0, yI a1, yI a2, yI a3, yI a4, yI a5, yI a6] [] h
/-! 282 Model_clearBy (II)I -/
set_option maxRecDepth 100000 in
theorem e_Model_clearBy (p0 : Option Nat) (a1 : Int32) (a2 : Int32) (h : zHeap) : zc 282 [zR p0, zI a1, zI a2] h =
    zr 282 4 [yR p0, yI a1, yI a2, yI (i32 0), yI (i32 0), none, none] [] h := U_282 (zst [4, 11]) 42 0 [yR p0, yI a1, yI a2, none, none, none, none] [] h
set_option maxRecDepth 100000 in
theorem e_Model_clearBy_4 (p0 : Option Nat) (a1 : Int32) (a2 : Int32) (a3 : Int32) (a4 : Int32) (w5 : Option zVal) (w6 : Option zVal) (h : zHeap) : zr 282 4 [yR p0, yI a1, yI a2, yI a3, yI a4, w5, w6] [] h =
    zif (decide ((i32 3) ≤ a4))
      (some (zI a3, h))
      (zr 282 11 [yR p0, yI a1, yI a2, yI a3, yI a4, yI (i32 0), yI (i32 0)] [] h) := U_282 (zst [4, 11]) 42 4 [yR p0, yI a1, yI a2, yI a3, yI a4, w5, w6] [] h
set_option maxRecDepth 100000 in
theorem e_Model_clearBy_11 (p0 : Option Nat) (a1 : Int32) (a2 : Int32) (a3 : Int32) (a4 : Int32) (a5 : Int32) (a6 : Int32) (h : zHeap) : zr 282 11 [yR p0, yI a1, yI a2, yI a3, yI a4, yI a5, yI a6] [] h =
    zoI (zgI h p0 780) fun x1 =>
    zif (decide (x1 ≤ a6))
      (zif (decide (a5 ≤ a3))
        (zr 282 4 [yR p0, yI a1, yI a2, yI a3, yI (a4 + i32 1), yI a5, yI a6] [] h)
        (zr 282 4 [yR p0, yI a1, yI a2, yI a5, yI (a4 + i32 1), yI a5, yI a6] [] h))
      (zbI (zv 12 268 [zR p0, zI a1, zI a6, zI a2] h) fun x3 h2 =>
      zif (decide (x3 ≠ a4))
        (zr 282 11 [yR p0, yI a1, yI a2, yI a3, yI a4, yI (a5 + (i32 0)), yI (a6 + i32 1)] [] h2)
        (zr 282 11 [yR p0, yI a1, yI a2, yI a3, yI a4, yI (a5 + (i32 1)), yI (a6 + i32 1)] [] h2)) := U_282 (zst [4, 11]) 42 11 [yR p0, yI a1, yI a2, yI a3, yI a4, yI a5, yI a6] [] h
/-! 283 Model_clearest (IIZ)I -/
set_option maxRecDepth 100000 in
theorem e_Model_clearest (p0 : Option Nat) (a1 : Int32) (a2 : Int32) (a3 : Int32) (h : zHeap) : zc 283 [zR p0, zI a1, zI a2, zI a3] h =
    zbI (zv 12 226 [zR p0, zI a1] h) fun x2 h1 =>
    zif (decide (x2 = 0))
      (some (zI (i32 (-2)), h1))
      (zbI (zv 12 229 [zR p0, zI a2] h1) fun x4 h3 =>
      zif (decide (x4 ≠ 0))
        (zoI (zgI h3 p0 779) fun x5 =>
        zif (decide (x5 ≠ 0))
          (zr 283 19 [yR p0, yI a1, yI a2, yI a3, yI (i32 0), yI (i32 1)] [] h3)
          (zr 283 19 [yR p0, yI a1, yI a2, yI a3, yI (i32 (-1)), yI (i32 1)] [] h3))
        (some (zI (i32 (-2)), h3))) := U_283 (zst [19]) 53 0 [yR p0, yI a1, yI a2, yI a3, none, none] [] h
set_option maxRecDepth 100000 in
theorem e_Model_clearest_19 (p0 : Option Nat) (a1 : Int32) (a2 : Int32) (a3 : Int32) (a4 : Int32) (a5 : Int32) (h : zHeap) : zr 283 19 [yR p0, yI a1, yI a2, yI a3, yI a4, yI a5] [] h =
    zoI (zgI h p0 779) fun x1 =>
    zif (decide (x1 ≤ a5))
      (zif (decide (a3 ≠ 0))
        (zif (decide (a4 ≠ (i32 (-1))))
          (zbI (zv 12 282 [zR p0, zI a4, zI a2] h) fun x3 h2 =>
          some (zI x3, h2))
          (some (zI (i32 0), h)))
        (some (zI a4, h)))
      (zbI (zv 12 282 [zR p0, zI a5, zI a2] h) fun x5 h4 =>
      zbI (zv 12 282 [zR p0, zI a4, zI a2] h4) fun x7 h6 =>
      zif (decide (x5 ≤ x7))
        (zr 283 19 [yR p0, yI a1, yI a2, yI a3, yI a4, yI (a5 + i32 1)] [] h6)
        (zr 283 19 [yR p0, yI a1, yI a2, yI a3, yI a5, yI (a5 + i32 1)] [] h6)) := U_283 (zst [19]) 53 19 [yR p0, yI a1, yI a2, yI a3, yI a4, yI a5] [] h
/-! 284 Model_fairBy (II)I -/
set_option maxRecDepth 100000 in
theorem e_Model_fairBy (p0 : Option Nat) (a1 : Int32) (a2 : Int32) (h : zHeap) : zc 284 [zR p0, zI a1, zI a2] h =
    zr 284 4 [yR p0, yI a1, yI a2, yI (i32 0), yI (i32 0), none, none] [] h := U_284 (zst [4, 16, 22]) 47 0 [yR p0, yI a1, yI a2, none, none, none, none] [] h
set_option maxRecDepth 100000 in
theorem e_Model_fairBy_4 (p0 : Option Nat) (a1 : Int32) (a2 : Int32) (a3 : Int32) (a4 : Int32) (w5 : Option zVal) (w6 : Option zVal) (h : zHeap) : zr 284 4 [yR p0, yI a1, yI a2, yI a3, yI a4, w5, w6] [] h =
    zoI (zgI h p0 779) fun x1 =>
    zif (decide (x1 ≤ a4))
      (some (zI a3, h))
      (zbV (zv 12 236 [zR p0, zI a4] h) fun h2 =>
      zoH (zpI h2 p0 784 a1) fun h3 =>
      zr 284 16 [yR p0, yI a1, yI a2, yI a3, yI a4, yI (i32 0), w6] [] h3) := U_284 (zst [4, 16, 22]) 47 4 [yR p0, yI a1, yI a2, yI a3, yI a4, w5, w6] [] h
set_option maxRecDepth 100000 in
theorem e_Model_fairBy_16 (p0 : Option Nat) (a1 : Int32) (a2 : Int32) (a3 : Int32) (a4 : Int32) (a5 : Int32) (w6 : Option zVal) (h : zHeap) : zr 284 16 [yR p0, yI a1, yI a2, yI a3, yI a4, yI a5, w6] [] h =
    zoI (zgI h p0 780) fun x1 =>
    zif (decide (x1 ≤ a5))
      (zr 284 4 [yR p0, yI a1, yI a2, yI a3, yI (a4 + i32 1), yI a5, w6] [] h)
      (zr 284 22 [yR p0, yI a1, yI a2, yI a3, yI a4, yI a5, yI (i32 0)] [] h) := U_284 (zst [4, 16, 22]) 47 16 [yR p0, yI a1, yI a2, yI a3, yI a4, yI a5, w6] [] h
set_option maxRecDepth 100000 in
theorem e_Model_fairBy_22 (p0 : Option Nat) (a1 : Int32) (a2 : Int32) (a3 : Int32) (a4 : Int32) (a5 : Int32) (a6 : Int32) (h : zHeap) : zr 284 22 [yR p0, yI a1, yI a2, yI a3, yI a4, yI a5, yI a6] [] h =
    zoI (zgI h p0 781) fun x1 =>
    zif (decide (x1 ≤ a6))
      (zr 284 16 [yR p0, yI a1, yI a2, yI a3, yI a4, yI (a5 + i32 1), yI a6] [] h)
      (zbI (zv 12 239 [zR p0, zI a5, zI a6] h) fun x3 h2 =>
      zif (decide (x3 ≠ a2))
        (zr 284 22 [yR p0, yI a1, yI a2, yI (a3 + (i32 0)), yI a4, yI a5, yI (a6 + i32 1)] [] h2)
        (zr 284 22 [yR p0, yI a1, yI a2, yI (a3 + (i32 1)), yI a4, yI a5, yI (a6 + i32 1)] [] h2)) := U_284 (zst [4, 16, 22]) 47 22 [yR p0, yI a1, yI a2, yI a3, yI a4, yI a5, yI a6] [] h
/-! 285 Model_fairest (IIZ)I -/
set_option maxRecDepth 100000 in
theorem e_Model_fairest (p0 : Option Nat) (a1 : Int32) (a2 : Int32) (a3 : Int32) (h : zHeap) : zc 285 [zR p0, zI a1, zI a2, zI a3] h =
    zbI (zv 12 226 [zR p0, zI a1] h) fun x2 h1 =>
    zif (decide (x2 = 0))
      (some (zI (i32 (-1)), h1))
      (zbI (zc 200 [zI a2, zI (i32 0), zI (i32 2)] h1) fun x4 h3 =>
      zif (decide (x4 ≠ 0))
        (zr 285 15 [yR p0, yI a1, yI a2, yI a3, yI (i32 0), yI (i32 1)] [] h3)
        (some (zI (i32 (-1)), h3))) := U_285 (zst [15]) 43 0 [yR p0, yI a1, yI a2, yI a3, none, none] [] h
set_option maxRecDepth 100000 in
theorem e_Model_fairest_15 (p0 : Option Nat) (a1 : Int32) (a2 : Int32) (a3 : Int32) (a4 : Int32) (a5 : Int32) (h : zHeap) : zr 285 15 [yR p0, yI a1, yI a2, yI a3, yI a4, yI a5] [] h =
    zif (decide ((i32 10) ≤ a5))
      (zif (decide (a3 = 0))
        (some (zI a4, h))
        (zbI (zv 12 284 [zR p0, zI a4, zI a2] h) fun x2 h1 =>
        some (zI x2, h1)))
      (zbI (zv 12 284 [zR p0, zI a5, zI a2] h) fun x4 h3 =>
      zbI (zv 12 284 [zR p0, zI a4, zI a2] h3) fun x6 h5 =>
      zif (decide (x4 ≤ x6))
        (zr 285 15 [yR p0, yI a1, yI a2, yI a3, yI a4, yI (a5 + i32 1)] [] h5)
        (zr 285 15 [yR p0, yI a1, yI a2, yI a3, yI a5, yI (a5 + i32 1)] [] h5)) := U_285 (zst [15]) 43 15 [yR p0, yI a1, yI a2, yI a3, yI a4, yI a5] [] h
/-! 286 Model_isYear (I)Z -/
set_option maxRecDepth 100000 in
theorem e_Model_isYear (p0 : Option Nat) (a1 : Int32) (h : zHeap) : zc 286 [zR p0, zI a1] h =
    zbI (zv 12 223 [zR p0, zI (i32 1), zI a1] h) fun x2 h1 =>
    zif (decide (x2 ≠ 0))
      (zbI (zc 221 [zI (i32 1), zI a1] h1) fun x4 h3 =>
      zoH (zpI h3 p0 792 x4) fun h5 =>
      zrz (i32 1) h5)
      (zrz (i32 0) h1) := U_286 (zst []) 15 0 [yR p0, yI a1] [] h
/-! 287 Model_deed (III)I -/
set_option maxRecDepth 100000 in
theorem e_Model_deed (p0 : Option Nat) (a1 : Int32) (a2 : Int32) (a3 : Int32) (h : zHeap) : zc 287 [zR p0, zI a1, zI a2, zI a3] h =
    zbI (zv 12 286 [zR p0, zI a1] h) fun x2 h1 =>
    zif (decide (x2 ≠ 0))
      (zif (decide (a2 ≠ (i32 (-1))))
        (zoR (zgR h1 p0 768) fun r3 =>
        zoI (zgI h1 p0 792) fun x4 =>
        zoI (zaI h1 r3 x4 0) fun x5 =>
        zbI (zc 200 [zI a2, zI (i32 0), zI (x5 - (i32 1))] h1) fun x7 h6 =>
        zif (decide (x7 = 0))
          (some (zI (i32 (-2)), h6))
          (zbI (zc 200 [zI a3, zI (i32 0), zI (i32 5)] h6) fun x9 h8 =>
          zif (decide (x9 = 0))
            (some (zI (i32 (-2)), h8))
            (zoR (zgR h8 p0 768) fun r10 =>
            zoI (zgI h8 p0 792) fun x11 =>
            zoI (zaI h8 r10 (((x11 + (i32 1)) + ((i32 6) * a2)) + a3) 0) fun x12 =>
            some (zI x12, h8))))
        (zif (decide (a3 ≠ 0))
          (some (zI (i32 (-2)), h1))
          (zoR (zgR h1 p0 768) fun r13 =>
          zoI (zgI h1 p0 792) fun x14 =>
          zoI (zaI h1 r13 x14 0) fun x15 =>
          some (zI x15, h1))))
      (some (zI (i32 (-2)), h1)) := U_287 (zst []) 52 0 [yR p0, yI a1, yI a2, yI a3] [] h
/-! 288 Model_begins ()V -/
set_option maxRecDepth 100000 in
theorem e_Model_begins (p0 : Option Nat) (h : zHeap) : zc 288 [zR p0] h =
    zoH (zpI h p0 793 (i32 0)) fun h1 =>
    zoH (zpI h1 p0 794 (i32 0)) fun h2 =>
    zoH (zpI h2 p0 795 (i32 0)) fun h3 =>
    zoH (zpI h3 p0 796 (i32 0)) fun h4 =>
    zoH (zpI h4 p0 797 (i32 0)) fun h5 =>
    zoH (zpI h5 p0 798 (i32 0)) fun h6 =>
    zoR (zgR h6 p0 768) fun r7 =>
    zoI (zgI h6 p0 778) fun x8 =>
    zoI (zaI h6 r7 (x8 + (i32 3)) 0) fun x9 =>
    zoH (zpI h6 p0 799 x9) fun h10 =>
    zoH (zpI h10 p0 800 (i32 (-1))) fun h11 =>
    zoH (zpI h11 p0 801 (i32 0)) fun h12 =>
    zr 288 35 [yR p0, yI (i32 0)] [] h12 := U_288 (zst [35, 57, 69]) 81 0 [yR p0, none] [] h
set_option maxRecDepth 100000 in
theorem e_Model_begins_35 (p0 : Option Nat) (a1 : Int32) (h : zHeap) : zr 288 35 [yR p0, yI a1] [] h =
    zoI (zgI h p0 779) fun x1 =>
    zif (decide (x1 ≤ a1))
      (zr 288 57 [yR p0, yI (i32 0)] [] h)
      (zoR (zgR h p0 802) fun r2 =>
      zbI (zv 12 230 [zR p0, zI a1] h) fun x4 h3 =>
      zoH (zaS h3 r2 a1 x4) fun h5 =>
      zoR (zgR h5 p0 803) fun r6 =>
      zbI (zv 12 231 [zR p0, zI a1] h5) fun x8 h7 =>
      zoH (zaS h7 r6 a1 x8) fun h9 =>
      zr 288 35 [yR p0, yI (a1 + i32 1)] [] h9) := U_288 (zst [35, 57, 69]) 81 35 [yR p0, yI a1] [] h
set_option maxRecDepth 100000 in
theorem e_Model_begins_57 (p0 : Option Nat) (a1 : Int32) (h : zHeap) : zr 288 57 [yR p0, yI a1] [] h =
    zif (decide ((i32 4) ≤ a1))
      (zr 288 69 [yR p0, yI (i32 0)] [] h)
      (zoR (zgR h p0 804) fun r1 =>
      zoH (zaS h r1 a1 (i32 0)) fun h2 =>
      zr 288 57 [yR p0, yI (a1 + i32 1)] [] h2) := U_288 (zst [35, 57, 69]) 81 57 [yR p0, yI a1] [] h
set_option maxRecDepth 100000 in
theorem e_Model_begins_69 (p0 : Option Nat) (a1 : Int32) (h : zHeap) : zr 288 69 [yR p0, yI a1] [] h =
    zif (decide ((i32 8) ≤ a1))
      (some (zI 0, h))
      (zoR (zgR h p0 805) fun r1 =>
      zoH (zaS h r1 a1 (i32 (-1))) fun h2 =>
      zr 288 69 [yR p0, yI (a1 + i32 1)] [] h2) := U_288 (zst [35, 57, 69]) 81 69 [yR p0, yI a1] [] h
/-! 289 Model_isWhole (I)Z -/
set_option maxRecDepth 100000 in
theorem e_Model_isWhole (p0 : Option Nat) (a1 : Int32) (h : zHeap) : zc 289 [zR p0, zI a1] h =
    zbI (zv 12 227 [zR p0, zI a1] h) fun x2 h1 =>
    zif (decide (x2 = 0))
      (zrz (i32 0) h1)
      (zoI (zgI h1 p0 794) fun x3 =>
      zif (decide (((zshr x3 a1) &&& (i32 1)) ≠ 0))
        (zrz (i32 0) h1)
        (zrz (i32 1) h1)) := U_289 (zst []) 16 0 [yR p0, yI a1] [] h
/-! 290 Model_mayPlay (I)Z -/
set_option maxRecDepth 100000 in
theorem e_Model_mayPlay (p0 : Option Nat) (a1 : Int32) (h : zHeap) : zc 290 [zR p0, zI a1] h =
    zbI (zv 12 228 [zR p0, zI a1] h) fun x2 h1 =>
    zif (decide (x2 = 0))
      (zrz (i32 0) h1)
      (zoR (zgR h1 p0 804) fun r3 =>
      zoI (zaI h1 r3 a1 0) fun x4 =>
      zif (decide ((i32 3) ≤ x4))
        (zrz (i32 0) h1)
        (zrz (i32 1) h1)) := U_290 (zst []) 15 0 [yR p0, yI a1] [] h
/-! 291 Model_plays (III)I -/
set_option maxRecDepth 100000 in
theorem e_Model_plays (p0 : Option Nat) (a1 : Int32) (a2 : Int32) (a3 : Int32) (h : zHeap) : zc 291 [zR p0, zI a1, zI a2, zI a3] h =
    zoR (zgR h p0 802) fun r1 =>
    zoI (zaI h r1 a1 0) fun x2 =>
    zoH (zpI h p0 782 x2) fun h3 =>
    zoR (zgR h3 p0 803) fun r4 =>
    zoI (zaI h3 r4 a1 0) fun x5 =>
    zoH (zpI h3 p0 783 x5) fun h6 =>
    zoI (zgI h6 p0 799) fun x7 =>
    zoH (zpI h6 p0 784 x7) fun h8 =>
    zbI (zv 12 237 [zR p0, zI a2, zI a3] h8) fun x10 h9 =>
    zoR (zgR h9 p0 802) fun r11 =>
    zoI (zaI h9 r11 a1 0) fun x12 =>
    zoR (zgR h9 p0 802) fun r13 =>
    zoI (zaI h9 r13 a1 0) fun x14 =>
    zif (decide (x14 ≤ 0))
      (zoH (zaS h9 r11 a1 (x12 - (i32 0))) fun h15 =>
      zoR (zgR h15 p0 804) fun r16 =>
      zoI (zaI h15 r16 a2 0) fun x17 =>
      zoH (zaS h15 r16 a2 (x17 + (i32 1))) fun h18 =>
      some (zI x10, h18))
      (zoH (zaS h9 r11 a1 (x12 - (i32 1))) fun h19 =>
      zoR (zgR h19 p0 804) fun r20 =>
      zoI (zaI h19 r20 a2 0) fun x21 =>
      zoH (zaS h19 r20 a2 (x21 + (i32 1))) fun h22 =>
      some (zI x10, h22)) := U_291 (zst []) 47 0 [yR p0, yI a1, yI a2, yI a3, none] [] h
