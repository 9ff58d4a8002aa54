/-! 0 Acts_init ()V -/
set_option maxRecDepth 100000 in
theorem e_Acts_init (p0 : Nat) (h : zHeap) : zc 0 [zR (some p0)] h =
    zoN (zlen (i32 800)) fun n1 =>
    zoH (zpR (znA 0 n1 h) (some p0) 1 (some (hN h))) fun h2 =>
    zoN (zlen (i32 800)) fun n3 =>
    zoH (zpR (znA 0 n3 h2) (some p0) 2 (some (hN h2))) fun h4 =>
    some (zI 0, h4) := U_0 (zst []) 12 0 [yR (some p0)] [] h
/-! 1 Acts_seek (LReedOracles$Duchy;IIII)V -/
set_option maxRecDepth 100000 in
theorem e_Acts_seek (p0 : Option Nat) (p1 : Option Nat) (a2 : Int32) (a3 : Int32) (a4 : Int32) (a5 : Int32) (h : zHeap) : zc 1 [zR p0, zR p1, zI a2, zI a3, zI a4, zI a5] h =
    zoH (zpI h p0 0 (i32 (-1))) fun h1 =>
    zbI (zc 2 [zR p1, zI a3, zI a4, zI a5] h1) fun x3 h2 =>
    zif (decide (x3 = 0))
      (zoR (zgR h2 p0 1) fun r4 =>
      zbV (zc 324 [zR r4, zI (i32 (-1))] h2) fun h5 =>
      zoR (zgR h5 p1 132) fun r6 =>
      zoI (zaI h5 r6 a2 0) fun x7 =>
      zoR (zgR h5 p1 133) fun r8 =>
      zoI (zaI h5 r8 a2 0) fun x9 =>
      zoI (zgI h5 p1 131) fun x10 =>
      zbI (zc 7 [zI x7, zI x9, zI x10] h5) fun x12 h11 =>
      zoR (zgR h11 p0 1) fun r13 =>
      zoH (zaS h11 r13 x12 (i32 (-2))) fun h14 =>
      zoR (zgR h14 p0 2) fun r15 =>
      zoH (zaS h14 r15 (i32 0) x12) fun h16 =>
      zr 1 40 [yR p0, yR p1, yI a2, yI a3, yI a4, yI a5, yI x12, yI (i32 1), yI (i32 0), none, none] [] h16)
      (some (zI 0, h2)) := U_1 (zst [40]) 85 0 [yR p0, yR p1, yI a2, yI a3, yI a4, yI a5, none, none, none, none, none] [] h
set_option maxRecDepth 100000 in
theorem e_Acts_seek_40 (p0 : Option Nat) (p1 : Option Nat) (a2 : Int32) (a3 : Int32) (a4 : Int32) (a5 : Int32) (a6 : Int32) (a7 : Int32) (a8 : Int32) (w9 : Option zVal) (w10 : Option zVal) (h : zHeap) : zr 1 40 [yR p0, yR p1, yI a2, yI a3, yI a4, yI a5, yI a6, yI a7, yI a8, w9, w10] [] h =
    zif (decide (a7 ≤ a8))
      (some (zI 0, h))
      (zif (decide ((i32 800) ≤ a8))
        (some (zI 0, h))
        (zoR (zgR h p0 2) fun r1 =>
        zoI (zaI h r1 a8 0) fun x2 =>
        zbI (zc 8 [zI x2] h) fun x4 h3 =>
        zbI (zc 9 [zI x2] h3) fun x6 h5 =>
        zbI (zc 10 [zI x2] h5) fun x8 h7 =>
        zbI (zv 2 47 [zR p1, zI x4, zI x6, zI x8, zI a3, zI a4] h7) fun x10 h9 =>
        zbI (zv 2 50 [zR p1, zI x10] h9) fun x12 h11 =>
        zif (decide (x12 ≠ a5))
          (zbI (zv 0 3 [zR p0, zI x2, zI a7] h11) fun x14 h13 =>
          zr 1 40 [yR p0, yR p1, yI a2, yI a3, yI a4, yI a5, yI a6, yI x14, yI (a8 + i32 1), yI x2, yI x10] [] h13)
          (zoH (zpI h11 p0 3 x2) fun h15 =>
          zbI (zv 0 5 [zR p0, zI x2] h15) fun x17 h16 =>
          zoH (zpI h16 p0 0 x17) fun h18 =>
          some (zI 0, h18)))) := U_1 (zst [40]) 85 40 [yR p0, yR p1, yI a2, yI a3, yI a4, yI a5, yI a6, yI a7, yI a8, w9, w10] [] h
/-! 2 Acts_isBeyond (LReedOracles$Duchy;III)Z -/
set_option maxRecDepth 100000 in
theorem e_Acts_isBeyond (p0 : Option Nat) (a1 : Int32) (a2 : Int32) (a3 : Int32) (h : zHeap) : zc 2 [zR p0, zI a1, zI a2, zI a3] h =
    zr 2 4 [yR p0, yI a1, yI a2, yI a3, yI (i32 0), yI (i32 0)] [] h := U_2 (zst [4]) 34 0 [yR p0, yI a1, yI a2, yI a3, none, none] [] h
set_option maxRecDepth 100000 in
theorem e_Acts_isBeyond_4 (p0 : Option Nat) (a1 : Int32) (a2 : Int32) (a3 : Int32) (a4 : Int32) (a5 : Int32) (h : zHeap) : zr 2 4 [yR p0, yI a1, yI a2, yI a3, yI a4, yI a5] [] h =
    zif (decide ((i32 8) ≤ a5))
      (zif (decide (a4 = 0))
        (zrz (i32 1) h)
        (zbI (zv 2 46 [zR p0, zI (i32 9), zI a1, zI a2] h) fun x2 h1 =>
        zif (decide (x2 = 0))
          (zrz (i32 0) h1)
          (zrz (i32 1) h1)))
      (zif (decide (a4 ≠ 0))
        (zr 2 4 [yR p0, yI a1, yI a2, yI a3, yI (i32 1), yI (a5 + i32 1)] [] h)
        (zoR (zgR h p0 137) fun r3 =>
        zoI (zaI h r3 a5 0) fun x4 =>
        zif (decide (x4 ≠ a3))
          (zr 2 4 [yR p0, yI a1, yI a2, yI a3, yI (i32 0), yI (a5 + i32 1)] [] h)
          (zr 2 4 [yR p0, yI a1, yI a2, yI a3, yI (i32 1), yI (a5 + i32 1)] [] h))) := U_2 (zst [4]) 34 4 [yR p0, yI a1, yI a2, yI a3, yI a4, yI a5] [] h
/-! 3 Acts_spread (II)I -/
set_option maxRecDepth 100000 in
theorem e_Acts_spread (p0 : Option Nat) (a1 : Int32) (a2 : Int32) (h : zHeap) : zc 3 [zR p0, zI a1, zI a2] h =
    zr 3 4 [yR p0, yI a1, yI a2, yI a2, yI (i32 0), none] [] h := U_3 (zst [4]) 40 0 [yR p0, yI a1, yI a2, none, none, none] [] h
set_option maxRecDepth 100000 in
theorem e_Acts_spread_4 (p0 : Option Nat) (a1 : Int32) (a2 : Int32) (a3 : Int32) (a4 : Int32) (w5 : Option zVal) (h : zHeap) : zr 3 4 [yR p0, yI a1, yI a2, yI a3, yI a4, w5] [] h =
    zif (decide ((i32 5) ≤ a4))
      (some (zI a3, h))
      (zbI (zc 4 [zI a1, zI a4] h) fun x2 h1 =>
      zoR (zgR h1 p0 1) fun r3 =>
      zoI (zaI h1 r3 x2 0) fun x4 =>
      zif (decide (x4 ≠ (i32 (-1))))
        (zr 3 4 [yR p0, yI a1, yI a2, yI a3, yI (a4 + i32 1), yI x2] [] h1)
        (zif (decide ((i32 800) ≤ a3))
          (zr 3 4 [yR p0, yI a1, yI a2, yI a3, yI (a4 + i32 1), yI x2] [] h1)
          (zoR (zgR h1 p0 1) fun r5 =>
          zoH (zaS h1 r5 x2 ((a1 * (i32 5)) + a4)) fun h6 =>
          zoR (zgR h6 p0 2) fun r7 =>
          zoH (zaS h6 r7 a3 x2) fun h8 =>
          zr 3 4 [yR p0, yI a1, yI a2, yI (a3 + i32 1), yI (a4 + i32 1), yI x2] [] h8))) := U_3 (zst [4]) 40 4 [yR p0, yI a1, yI a2, yI a3, yI a4, w5] [] h
/-! 4 Acts_behind (II)I -/
set_option maxRecDepth 100000 in
theorem e_Acts_behind (a0 : Int32) (a1 : Int32) (h : zHeap) : zc 4 [zI a0, zI a1] h =
    zbI (zc 8 [zI a0] h) fun x2 h1 =>
    zbI (zc 9 [zI a0] h1) fun x4 h3 =>
    zbI (zc 10 [zI a0] h3) fun x6 h5 =>
    zif (decide (a1 = i32 0))
      (zbI (zc 194 [zI x2] h5) fun x8 h7 =>
      zbI (zc 7 [zI x8, zI x4, zI x6] h7) fun x10 h9 =>
      some (zI x10, h9))
      (zif (decide (a1 = i32 1))
      (zoI (if (i32 8) = 0 then none else some (zrem (x4 + (i32 1)) (i32 8))) fun x11 =>
      zbI (zc 7 [zI x2, zI x11, zI x6] h5) fun x13 h12 =>
      some (zI x13, h12))
      (zif (decide (a1 = i32 2))
      (zbI (zc 193 [zI x2, zI (i32 1)] h5) fun x15 h14 =>
      zbI (zc 7 [zI x15, zI x4, zI x6] h14) fun x17 h16 =>
      some (zI x17, h16))
      (zif (decide (a1 = i32 3))
      (zbI (zc 7 [zI x2, zI x4, zI (zmax (i32 0) (x6 - (i32 1)))] h5) fun x19 h18 =>
      some (zI x19, h18))
      (zbI (zc 7 [zI x2, zI x4, zI (zmin (i32 9) (x6 + (i32 1)))] h5) fun x21 h20 =>
      some (zI x21, h20))))) := U_4 (zst []) 52 0 [yI a0, yI a1, none, none, none] [] h
/-! 5 Acts_stepsTo (I)I -/
set_option maxRecDepth 100000 in
theorem e_Acts_stepsTo (p0 : Option Nat) (a1 : Int32) (h : zHeap) : zc 5 [zR p0, zI a1] h =
    zr 5 4 [yR p0, yI a1, yI (i32 0), yI a1] [] h := U_5 (zst [4]) 24 0 [yR p0, yI a1, none, none] [] h
set_option maxRecDepth 100000 in
theorem e_Acts_stepsTo_4 (p0 : Option Nat) (a1 : Int32) (a2 : Int32) (a3 : Int32) (h : zHeap) : zr 5 4 [yR p0, yI a1, yI a2, yI a3] [] h =
    zif (decide ((i32 800) ≤ a2))
      (some (zI a2, h))
      (zoR (zgR h p0 1) fun r1 =>
      zoI (zaI h r1 a3 0) fun x2 =>
      zif (decide (x2 < 0))
        (some (zI a2, h))
        (zoR (zgR h p0 1) fun r3 =>
        zoI (zaI h r3 a3 0) fun x4 =>
        zoI (if (i32 5) = 0 then none else some (x4 / (i32 5))) fun x5 =>
        zr 5 4 [yR p0, yI a1, yI (a2 + i32 1), yI x5] [] h)) := U_5 (zst [4]) 24 4 [yR p0, yI a1, yI a2, yI a3] [] h
/-! 6 Acts_actAt (I)I -/
set_option maxRecDepth 100000 in
theorem e_Acts_actAt (p0 : Option Nat) (a1 : Int32) (h : zHeap) : zc 6 [zR p0, zI a1] h =
    zif (decide (a1 < 0))
      (some (zI (i32 (-1)), h))
      (zoI (zgI h p0 0) fun x1 =>
      zif (decide (a1 < x1))
        (zoI (zgI h p0 3) fun x2 =>
        zoI (zgI h p0 0) fun x3 =>
        zr 6 16 [yR p0, yI a1, yI x2, yI (x3 - (i32 1))] [] h)
        (some (zI (i32 (-1)), h))) := U_6 (zst [16]) 48 0 [yR p0, yI a1, none, none] [] h
set_option maxRecDepth 100000 in
theorem e_Acts_actAt_16 (p0 : Option Nat) (a1 : Int32) (a2 : Int32) (a3 : Int32) (h : zHeap) : zr 6 16 [yR p0, yI a1, yI a2, yI a3] [] h =
    zif (decide (a3 ≤ a1))
      (zoR (zgR h p0 1) fun r1 =>
      zoI (zaI h r1 a2 0) fun x2 =>
      zif (decide (x2 < 0))
        (some (zI (i32 (-1)), h))
        (zoR (zgR h p0 1) fun r3 =>
        zoI (zaI h r3 a2 0) fun x4 =>
        zoI (if (i32 5) = 0 then none else some (zrem x4 (i32 5))) fun x5 =>
        some (zI x5, h)))
      (zoR (zgR h p0 1) fun r6 =>
      zoI (zaI h r6 a2 0) fun x7 =>
      zif (decide (x7 < 0))
        (zoR (zgR h p0 1) fun r8 =>
        zoI (zaI h r8 a2 0) fun x9 =>
        zif (decide (x9 < 0))
          (some (zI (i32 (-1)), h))
          (zoR (zgR h p0 1) fun r10 =>
          zoI (zaI h r10 a2 0) fun x11 =>
          zoI (if (i32 5) = 0 then none else some (zrem x11 (i32 5))) fun x12 =>
          some (zI x12, h)))
        (zoR (zgR h p0 1) fun r13 =>
        zoI (zaI h r13 a2 0) fun x14 =>
        zoI (if (i32 5) = 0 then none else some (x14 / (i32 5))) fun x15 =>
        zr 6 16 [yR p0, yI a1, yI x15, yI (a3 + i32 (-1))] [] h)) := U_6 (zst [16]) 48 16 [yR p0, yI a1, yI a2, yI a3] [] h
/-! 7 Acts_stateOf (III)I -/
set_option maxRecDepth 100000 in
theorem e_Acts_stateOf (a0 : Int32) (a1 : Int32) (a2 : Int32) (h : zHeap) : zc 7 [zI a0, zI a1, zI a2] h =
    some (zI ((((a0 * (i32 8)) + a1) * (i32 10)) + a2), h) := U_7 (zst []) 11 0 [yI a0, yI a1, yI a2] [] h
/-! 8 Acts_wetIn (I)I -/
set_option maxRecDepth 100000 in
theorem e_Acts_wetIn (a0 : Int32) (h : zHeap) : zc 8 [zI a0] h =
    zoI (if (i32 80) = 0 then none else some (a0 / (i32 80))) fun x1 =>
    some (zI x1, h) := U_8 (zst []) 5 0 [yI a0] [] h
/-! 9 Acts_keyIn (I)I -/
set_option maxRecDepth 100000 in
theorem e_Acts_keyIn (a0 : Int32) (h : zHeap) : zc 9 [zI a0] h =
    zoI (if (i32 10) = 0 then none else some (a0 / (i32 10))) fun x1 =>
    zoI (if (i32 8) = 0 then none else some (zrem x1 (i32 8))) fun x2 =>
    some (zI x2, h) := U_9 (zst []) 7 0 [yI a0] [] h
/-! 10 Acts_coldIn (I)I -/
set_option maxRecDepth 100000 in
theorem e_Acts_coldIn (a0 : Int32) (h : zHeap) : zc 10 [zI a0] h =
    zoI (if (i32 10) = 0 then none else some (zrem a0 (i32 10))) fun x1 =>
    some (zI x1, h) := U_10 (zst []) 5 0 [yI a0] [] h
/-! 11 Course_init ()V -/
set_option maxRecDepth 100000 in
theorem e_Course_init (p0 : Nat) (h : zHeap) : zc 11 [zR (some p0)] h =
    zoN (zlen (i32 6)) fun n1 =>
    zoH (zpR (znA 0 n1 h) (some p0) 66 (some (hN h))) fun h2 =>
    zoN (zlen (i32 6)) fun n3 =>
    zoH (zpR (znA 0 n3 h2) (some p0) 67 (some (hN h2))) fun h4 =>
    zoN (zlen (i32 4)) fun n5 =>
    zoH (zpR (znA 0 n5 h4) (some p0) 68 (some (hN h4))) fun h6 =>
    zoN (zlen (i32 4)) fun n7 =>
    zoH (zpR (znA 0 n7 h6) (some p0) 69 (some (hN h6))) fun h8 =>
    zoN (zlen (i32 8)) fun n9 =>
    zoH (zpR (znA 0 n9 h8) (some p0) 70 (some (hN h8))) fun h10 =>
    zoN (zlen (i32 8)) fun n11 =>
    zoH (zpR (znA 0 n11 h10) (some p0) 71 (some (hN h10))) fun h12 =>
    some (zI 0, h12) := U_11 (zst []) 28 0 [yR (some p0)] [] h
/-! 12 Course_begin (LReedOracles$Duchy;)V -/
set_option maxRecDepth 100000 in
theorem e_Course_begin (p0 : Option Nat) (p1 : Option Nat) (h : zHeap) : zc 12 [zR p0, zR p1] h =
    zoR (zgR h p1 132) fun r1 =>
    zoR (zgR h p0 66) fun r2 =>
    zoH (zaY h r1 (i32 0) r2 (i32 0) (i32 6)) fun h3 =>
    zoR (zgR h3 p1 133) fun r4 =>
    zoR (zgR h3 p0 67) fun r5 =>
    zoH (zaY h3 r4 (i32 0) r5 (i32 0) (i32 6)) fun h6 =>
    zoR (zgR h6 p0 68) fun r7 =>
    zbV (zc 324 [zR r7, zI (i32 0)] h6) fun h8 =>
    zoR (zgR h8 p0 69) fun r9 =>
    zbV (zc 324 [zR r9, zI (i32 0)] h8) fun h10 =>
    zoR (zgR h10 p0 70) fun r11 =>
    zbV (zc 324 [zR r11, zI (i32 0)] h10) fun h12 =>
    zoR (zgR h12 p0 71) fun r13 =>
    zbV (zc 324 [zR r13, zI (i32 (-1))] h12) fun h14 =>
    zoH (zpI h14 p0 64 (i32 0)) fun h15 =>
    zoH (zpI h15 p0 65 (i32 (-1))) fun h16 =>
    zoH (zpI h16 p0 72 (i32 0)) fun h17 =>
    zoH (zpI h17 p0 73 (i32 0)) fun h18 =>
    zoH (zpI h18 p0 74 (i32 0)) fun h19 =>
    zoH (zpI h19 p0 75 (i32 0)) fun h20 =>
    zoH (zpI h20 p0 76 (i32 0)) fun h21 =>
    zoH (zpI h21 p0 77 (i32 0)) fun h22 =>
    zoI (zgI h22 p1 131) fun x23 =>
    zoH (zpI h22 p0 78 x23) fun h24 =>
    zoH (zpI h24 p0 79 (i32 (-1))) fun h25 =>
    some (zI 0, h25) := U_12 (zst []) 65 0 [yR p0, yR p1] [] h
/-! 13 Course_run (LReedOracles$Duchy;LReedOracles$Year;I)V -/
set_option maxRecDepth 100000 in
theorem e_Course_run (p0 : Option Nat) (p1 : Option Nat) (p2 : Option Nat) (a3 : Int32) (h : zHeap) : zc 13 [zR p0, zR p1, zR p2, zI a3] h =
    zbV (zv 1 12 [zR p0, zR p1] h) fun h1 =>
    zr 13 5 [yR p0, yR p1, yR p2, yI a3, yI (i32 0)] [] h1 := U_13 (zst [5]) 29 0 [yR p0, yR p1, yR p2, yI a3, none] [] h
set_option maxRecDepth 100000 in
theorem e_Course_run_5 (p0 : Option Nat) (p1 : Option Nat) (p2 : Option Nat) (a3 : Int32) (a4 : Int32) (h : zHeap) : zr 13 5 [yR p0, yR p1, yR p2, yI a3, yI a4] [] h =
    zif (decide (a3 ≤ a4))
      (some (zI 0, h))
      (zoI (zgI h p2 640) fun x1 =>
      zif (decide (x1 ≤ a4))
        (some (zI 0, h))
        (zbI (zv 1 14 [zR p0, zR p1, zR p2, zI a4] h) fun x3 h2 =>
        zif (decide (x3 ≠ 0))
          (zoI (zgI h2 p0 64) fun x4 =>
          zoH (zpI h2 p0 64 (x4 + (i32 1))) fun h5 =>
          zr 13 5 [yR p0, yR p1, yR p2, yI a3, yI (a4 + i32 1)] [] h5)
          (some (zI 0, h2)))) := U_13 (zst [5]) 29 5 [yR p0, yR p1, yR p2, yI a3, yI a4] [] h
/-! 14 Course_apply (LReedOracles$Duchy;LReedOracles$Year;I)Z -/
set_option maxRecDepth 100000 in
theorem e_Course_apply (p0 : Option Nat) (p1 : Option Nat) (p2 : Option Nat) (a3 : Int32) (h : zHeap) : zc 14 [zR p0, zR p1, zR p2, zI a3] h =
    zbI (zv 10 147 [zR p2, zI a3, zI (i32 1)] h) fun x2 h1 =>
    zbI (zv 10 147 [zR p2, zI a3, zI (i32 2)] h1) fun x4 h3 =>
    zbI (zv 10 147 [zR p2, zI a3, zI (i32 3)] h3) fun x6 h5 =>
    zbI (zv 10 147 [zR p2, zI a3, zI (i32 0)] h5) fun x8 h7 =>
    zif (decide (x8 = i32 0))
      (zbI (zv 1 17 [zR p0, zR p1, zI x2, zI x4, zI x6] h7) fun x10 h9 =>
      zrz x10 h9)
      (zif (decide (x8 = i32 1))
      (zbI (zv 1 18 [zR p0, zR p1, zR p2, zI a3] h7) fun x12 h11 =>
      zrz x12 h11)
      (zif (decide (x8 = i32 2))
      (zbI (zv 1 21 [zR p0, zR p1, zI x2] h7) fun x14 h13 =>
      zrz x14 h13)
      (zif (decide (x8 = i32 3))
      (zbI (zv 1 22 [zR p0, zR p1, zI x2] h7) fun x16 h15 =>
      zrz x16 h15)
      (zif (decide (x8 = i32 4))
      (zoH (zpI h7 p0 78 x2) fun h17 =>
      zrz (i32 1) h17)
      (zif (decide (x8 = i32 5))
      (zbV (zv 1 23 [zR p0, zR p1] h7) fun h18 =>
      zrz (i32 1) h18)
      (zrz (i32 0) h7)))))) := U_14 (zst []) 56 0 [yR p0, yR p1, yR p2, yI a3, none, none, none] [] h
/-! 15 Course_isSound (LReedOracles$Duchy;I)Z -/
set_option maxRecDepth 100000 in
theorem e_Course_isSound (p0 : Option Nat) (p1 : Option Nat) (a2 : Int32) (h : zHeap) : zc 15 [zR p0, zR p1, zI a2] h =
    zbI (zv 2 39 [zR p1, zI a2] h) fun x2 h1 =>
    zif (decide (x2 = 0))
      (zrz (i32 0) h1)
      (zoI (zgI h1 p0 72) fun x3 =>
      zif (decide (((zshr x3 a2) &&& (i32 1)) ≠ 0))
        (zrz (i32 0) h1)
        (zrz (i32 1) h1)) := U_15 (zst []) 16 0 [yR p0, yR p1, yI a2] [] h
/-! 16 Course_mayPlay (LReedOracles$Duchy;I)Z -/
set_option maxRecDepth 100000 in
theorem e_Course_mayPlay (p0 : Option Nat) (p1 : Option Nat) (a2 : Int32) (h : zHeap) : zc 16 [zR p0, zR p1, zI a2] h =
    zbI (zv 2 40 [zR p1, zI a2] h) fun x2 h1 =>
    zif (decide (x2 = 0))
      (zrz (i32 0) h1)
      (zoR (zgR h1 p0 68) fun r3 =>
      zoI (zaI h1 r3 a2 0) fun x4 =>
      zif (decide ((i32 3) ≤ x4))
        (zrz (i32 0) h1)
        (zrz (i32 1) h1)) := U_16 (zst []) 15 0 [yR p0, yR p1, yI a2] [] h
/-! 17 Course_ask (LReedOracles$Duchy;III)Z -/
set_option maxRecDepth 100000 in
theorem e_Course_ask (p0 : Option Nat) (p1 : Option Nat) (a2 : Int32) (a3 : Int32) (a4 : Int32) (h : zHeap) : zc 17 [zR p0, zR p1, zI a2, zI a3, zI a4] h =
    zbI (zv 1 15 [zR p0, zR p1, zI a2] h) fun x2 h1 =>
    zif (decide (x2 = 0))
      (zrz (i32 0) h1)
      (zbI (zv 1 16 [zR p0, zR p1, zI a3] h1) fun x4 h3 =>
      zif (decide (x4 = 0))
        (zrz (i32 0) h3)
        (zbI (zv 2 41 [zR p1, zI a4] h3) fun x6 h5 =>
        zif (decide (x6 ≠ 0))
          (zbI (zv 1 19 [zR p0, zR p1, zI a2, zI a3, zI a4] h5) fun x8 h7 =>
          zoH (zpI h7 p0 79 x8) fun h9 =>
          zoR (zgR h9 p0 70) fun r10 =>
          zoI (zaI h9 r10 a4 0) fun x11 =>
          zoH (zaS h9 r10 a4 (x11 + (i32 1))) fun h12 =>
          zoI (zgI h12 p0 79) fun x13 =>
          zif (decide (x13 ≠ (i32 (-1))))
            (zr 17 42 [yR p0, yR p1, yI a2, yI a3, yI a4, none] [] h12)
            (zoI (zgI h12 p0 77) fun x14 =>
            zoH (zpI h12 p0 77 (x14 + (i32 1))) fun h15 =>
            zr 17 42 [yR p0, yR p1, yI a2, yI a3, yI a4, none] [] h15))
          (zrz (i32 0) h5))) := U_17 (zst [42]) 79 0 [yR p0, yR p1, yI a2, yI a3, yI a4, none] [] h
set_option maxRecDepth 100000 in
theorem e_Course_ask_42 (p0 : Option Nat) (p1 : Option Nat) (a2 : Int32) (a3 : Int32) (a4 : Int32) (h : zHeap) : zr 17 42 [yR p0, yR p1, yI a2, yI a3, yI a4, none] [] h =
    zoI (zgI h p0 79) fun x1 =>
    zif (decide (x1 ≠ 0))
      (zoI (zgI h p0 79) fun x2 =>
      zbI (zv 2 50 [zR p1, zI x2] h) fun x4 h3 =>
      zif (decide (x4 = (i32 1)))
        (zoR (zgR h3 p0 71) fun r5 =>
        zoI (zaI h3 r5 a4 0) fun x6 =>
        zbI (zc 195 [zI x4, zI x6] h3) fun x8 h7 =>
        zif (decide (x8 = 0))
          (zoR (zgR h7 p0 71) fun r9 =>
          zoH (zaS h7 r9 a4 x4) fun h10 =>
          zrz (i32 1) h10)
          (zbV (zv 1 20 [zR p0, zI a2] h7) fun h11 =>
          zoR (zgR h11 p0 71) fun r12 =>
          zoH (zaS h11 r12 a4 x4) fun h13 =>
          zrz (i32 1) h13))
        (zif (decide (x4 ≠ 0))
          (zrz (i32 1) h3)
          (zoR (zgR h3 p0 71) fun r14 =>
          zoI (zaI h3 r14 a4 0) fun x15 =>
          zbI (zc 195 [zI x4, zI x15] h3) fun x17 h16 =>
          zif (decide (x17 = 0))
            (zoR (zgR h16 p0 71) fun r18 =>
            zoH (zaS h16 r18 a4 x4) fun h19 =>
            zrz (i32 1) h19)
            (zbV (zv 1 20 [zR p0, zI a2] h16) fun h20 =>
            zoR (zgR h20 p0 71) fun r21 =>
            zoH (zaS h20 r21 a4 x4) fun h22 =>
            zrz (i32 1) h22))))
      (zoI (zgI h p0 74) fun x23 =>
      zoH (zpI h p0 74 (x23 + (i32 1))) fun h24 =>
      zoI (zgI h24 p0 79) fun x25 =>
      zbI (zv 2 50 [zR p1, zI x25] h24) fun x27 h26 =>
      zif (decide (x27 = (i32 1)))
        (zoR (zgR h26 p0 71) fun r28 =>
        zoI (zaI h26 r28 a4 0) fun x29 =>
        zbI (zc 195 [zI x27, zI x29] h26) fun x31 h30 =>
        zif (decide (x31 = 0))
          (zoR (zgR h30 p0 71) fun r32 =>
          zoH (zaS h30 r32 a4 x27) fun h33 =>
          zrz (i32 1) h33)
          (zbV (zv 1 20 [zR p0, zI a2] h30) fun h34 =>
          zoR (zgR h34 p0 71) fun r35 =>
          zoH (zaS h34 r35 a4 x27) fun h36 =>
          zrz (i32 1) h36))
        (zif (decide (x27 ≠ 0))
          (zrz (i32 1) h26)
          (zoR (zgR h26 p0 71) fun r37 =>
          zoI (zaI h26 r37 a4 0) fun x38 =>
          zbI (zc 195 [zI x27, zI x38] h26) fun x40 h39 =>
          zif (decide (x40 = 0))
            (zoR (zgR h39 p0 71) fun r41 =>
            zoH (zaS h39 r41 a4 x27) fun h42 =>
            zrz (i32 1) h42)
            (zbV (zv 1 20 [zR p0, zI a2] h39) fun h43 =>
            zoR (zgR h43 p0 71) fun r44 =>
            zoH (zaS h43 r44 a4 x27) fun h45 =>
            zrz (i32 1) h45)))) := U_17 (zst [42]) 79 42 [yR p0, yR p1, yI a2, yI a3, yI a4, none] [] h
/-! 18 Course_duet (LReedOracles$Duchy;LReedOracles$Year;I)Z -/
set_option maxRecDepth 100000 in
theorem e_Course_duet (p0 : Option Nat) (p1 : Option Nat) (p2 : Option Nat) (a3 : Int32) (h : zHeap) : zc 18 [zR p0, zR p1, zR p2, zI a3] h =
    zbI (zv 10 147 [zR p2, zI a3, zI (i32 1)] h) fun x2 h1 =>
    zbI (zv 10 147 [zR p2, zI a3, zI (i32 2)] h1) fun x4 h3 =>
    zbI (zv 10 147 [zR p2, zI a3, zI (i32 3)] h3) fun x6 h5 =>
    zbI (zv 10 147 [zR p2, zI a3, zI (i32 4)] h5) fun x8 h7 =>
    zbI (zv 10 147 [zR p2, zI a3, zI (i32 5)] h7) fun x10 h9 =>
    zbI (zv 1 15 [zR p0, zR p1, zI x2] h9) fun x12 h11 =>
    zif (decide (x12 = 0))
      (zrz (i32 0) h11)
      (zbI (zv 1 15 [zR p0, zR p1, zI x4] h11) fun x14 h13 =>
      zif (decide (x14 = 0))
        (zrz (i32 0) h13)
        (zbI (zv 1 16 [zR p0, zR p1, zI x6] h13) fun x16 h15 =>
        zif (decide (x16 = 0))
          (zrz (i32 0) h15)
          (zbI (zv 1 16 [zR p0, zR p1, zI x8] h15) fun x18 h17 =>
          zif (decide (x18 ≠ 0))
            (zbI (zv 2 41 [zR p1, zI x10] h17) fun x20 h19 =>
            zif (decide (x20 ≠ 0))
              (zoR (zgR h19 p0 70) fun r21 =>
              zoI (zaI h19 r21 x10 0) fun x22 =>
              zoH (zaS h19 r21 x10 (x22 + (i32 1))) fun h23 =>
              zbI (zv 1 19 [zR p0, zR p1, zI x2, zI x6, zI x10] h23) fun x25 h24 =>
              zbI (zv 2 50 [zR p1, zI x25] h24) fun x27 h26 =>
              zbI (zv 1 19 [zR p0, zR p1, zI x4, zI x8, zI x10] h26) fun x29 h28 =>
              zbI (zv 2 50 [zR p1, zI x29] h28) fun x31 h30 =>
              zif (decide (x27 = (i32 (-1))))
                (zbI (zc 195 [zI x27, zI x31] h30) fun x33 h32 =>
                zif (decide (x33 = 0))
                  (zrz (i32 1) h32)
                  (zoI (zgI h32 p0 76) fun x34 =>
                  zoH (zpI h32 p0 76 (x34 + (i32 1))) fun h35 =>
                  zrz (i32 1) h35))
                (zif (decide (x27 ≠ x31))
                  (zbI (zc 195 [zI x27, zI x31] h30) fun x37 h36 =>
                  zif (decide (x37 = 0))
                    (zrz (i32 1) h36)
                    (zoI (zgI h36 p0 76) fun x38 =>
                    zoH (zpI h36 p0 76 (x38 + (i32 1))) fun h39 =>
                    zrz (i32 1) h39))
                  (zoI (zgI h30 p0 75) fun x40 =>
                  zoH (zpI h30 p0 75 (x40 + (i32 1))) fun h41 =>
                  zrz (i32 1) h41)))
              (zrz (i32 0) h19))
            (zrz (i32 0) h17)))) := U_18 (zst []) 105 0 [yR p0, yR p1, yR p2, yI a3, none, none, none, none, none, none, none] [] h
/-! 19 Course_blow (LReedOracles$Duchy;III)I -/
set_option maxRecDepth 100000 in
theorem e_Course_blow (p0 : Option Nat) (p1 : Option Nat) (a2 : Int32) (a3 : Int32) (a4 : Int32) (h : zHeap) : zc 19 [zR p0, zR p1, zI a2, zI a3, zI a4] h =
    zoR (zgR h p0 66) fun r1 =>
    zoI (zaI h r1 a2 0) fun x2 =>
    zoR (zgR h p0 67) fun r3 =>
    zoI (zaI h r3 a2 0) fun x4 =>
    zoI (zgI h p0 78) fun x5 =>
    zbI (zv 2 47 [zR p1, zI x2, zI x4, zI x5, zI a3, zI a4] h) fun x7 h6 =>
    zoR (zgR h6 p0 66) fun r8 =>
    zoR (zgR h6 p0 66) fun r9 =>
    zoI (zaI h6 r9 a2 0) fun x10 =>
    zbI (zc 193 [zI x10, zI (i32 1)] h6) fun x12 h11 =>
    zoH (zaS h11 r8 a2 x12) fun h13 =>
    zoR (zgR h13 p0 68) fun r14 =>
    zoI (zaI h13 r14 a3 0) fun x15 =>
    zoH (zaS h13 r14 a3 (x15 + (i32 1))) fun h16 =>
    zoR (zgR h16 p0 69) fun r17 =>
    zoI (zaI h16 r17 a3 0) fun x18 =>
    zoH (zaS h16 r17 a3 (x18 + (i32 1))) fun h19 =>
    some (zI x7, h19) := U_19 (zst []) 44 0 [yR p0, yR p1, yI a2, yI a3, yI a4, none] [] h
/-! 20 Course_crack (I)V -/
set_option maxRecDepth 100000 in
theorem e_Course_crack (p0 : Option Nat) (a1 : Int32) (h : zHeap) : zc 20 [zR p0, zI a1] h =
    zoI (zgI h p0 72) fun x1 =>
    zif (decide (x1 ≠ 0))
      (zoI (zgI h p0 72) fun x2 =>
      zoH (zpI h p0 72 (x2 ||| (zshl (i32 1) a1))) fun h3 =>
      some (zI 0, h3))
      (zoI (zgI h p0 64) fun x4 =>
      zoH (zpI h p0 65 x4) fun h5 =>
      zoI (zgI h5 p0 72) fun x6 =>
      zoH (zpI h5 p0 72 (x6 ||| (zshl (i32 1) a1))) fun h7 =>
      some (zI 0, h7)) := U_20 (zst []) 17 0 [yR p0, yI a1] [] h
/-! 21 Course_moisten (LReedOracles$Duchy;I)Z -/
set_option maxRecDepth 100000 in
theorem e_Course_moisten (p0 : Option Nat) (p1 : Option Nat) (a2 : Int32) (h : zHeap) : zc 21 [zR p0, zR p1, zI a2] h =
    zbI (zv 1 15 [zR p0, zR p1, zI a2] h) fun x2 h1 =>
    zif (decide (x2 ≠ 0))
      (zoR (zgR h1 p0 66) fun r3 =>
      zoR (zgR h1 p0 66) fun r4 =>
      zoI (zaI h1 r4 a2 0) fun x5 =>
      zbI (zc 194 [zI x5] h1) fun x7 h6 =>
      zoH (zaS h6 r3 a2 x7) fun h8 =>
      zrz (i32 1) h8)
      (zrz (i32 0) h1) := U_21 (zst []) 19 0 [yR p0, yR p1, yI a2] [] h
/-! 22 Course_trim (LReedOracles$Duchy;I)Z -/
set_option maxRecDepth 100000 in
theorem e_Course_trim (p0 : Option Nat) (p1 : Option Nat) (a2 : Int32) (h : zHeap) : zc 22 [zR p0, zR p1, zI a2] h =
    zbI (zv 1 15 [zR p0, zR p1, zI a2] h) fun x2 h1 =>
    zif (decide (x2 ≠ 0))
      (zoR (zgR h1 p0 67) fun r3 =>
      zoR (zgR h1 p0 67) fun r4 =>
      zoI (zaI h1 r4 a2 0) fun x5 =>
      zoI (if (i32 8) = 0 then none else some (zrem (x5 + (i32 1)) (i32 8))) fun x6 =>
      zoH (zaS h1 r3 a2 x6) fun h7 =>
      zrz (i32 1) h7)
      (zrz (i32 0) h1) := U_22 (zst []) 22 0 [yR p0, yR p1, yI a2] [] h
/-! 23 Course_sleep (LReedOracles$Duchy;)V -/
set_option maxRecDepth 100000 in
theorem e_Course_sleep (p0 : Option Nat) (p1 : Option Nat) (h : zHeap) : zc 23 [zR p0, zR p1] h =
    zoI (zgI h p0 73) fun x1 =>
    zoH (zpI h p0 73 (x1 + (i32 1))) fun h2 =>
    zr 23 8 [yR p0, yR p1, yI (i32 0)] [] h2 := U_23 (zst [8]) 30 0 [yR p0, yR p1, none] [] h
set_option maxRecDepth 100000 in
theorem e_Course_sleep_8 (p0 : Option Nat) (p1 : Option Nat) (a2 : Int32) (h : zHeap) : zr 23 8 [yR p0, yR p1, yI a2] [] h =
    zoI (zgI h p1 128) fun x1 =>
    zif (decide (x1 ≤ a2))
      (zoR (zgR h p0 68) fun r2 =>
      zbV (zc 324 [zR r2, zI (i32 0)] h) fun h3 =>
      some (zI 0, h3))
      (zoR (zgR h p0 66) fun r4 =>
      zoR (zgR h p0 66) fun r5 =>
      zoI (zaI h r5 a2 0) fun x6 =>
      zbI (zc 193 [zI x6, zI (i32 1)] h) fun x8 h7 =>
      zoH (zaS h7 r4 a2 x8) fun h9 =>
      zr 23 8 [yR p0, yR p1, yI (a2 + i32 1)] [] h9) := U_23 (zst [8]) 30 8 [yR p0, yR p1, yI a2] [] h
/-! 24 Course_draw (LReedOracles$Duchy;II)V -/
set_option maxRecDepth 100000 in
theorem e_Course_draw (p0 : Option Nat) (p1 : Option Nat) (a2 : Int32) (a3 : Int32) (h : zHeap) : zc 24 [zR p0, zR p1, zI a2, zI a3] h =
    zbV (zv 1 12 [zR p0, zR p1] h) fun h1 =>
    zoH (zpI h1 p0 80 a2) fun h2 =>
    zr 24 8 [yR p0, yR p1, yI a2, yI a3, yI (i32 0)] [] h2 := U_24 (zst [8]) 18 0 [yR p0, yR p1, yI a2, yI a3, none] [] h
set_option maxRecDepth 100000 in
theorem e_Course_draw_8 (p0 : Option Nat) (p1 : Option Nat) (a2 : Int32) (a3 : Int32) (a4 : Int32) (h : zHeap) : zr 24 8 [yR p0, yR p1, yI a2, yI a3, yI a4] [] h =
    zif (decide (a3 ≤ a4))
      (some (zI 0, h))
      (zbV (zv 1 25 [zR p0, zR p1] h) fun h1 =>
      zr 24 8 [yR p0, yR p1, yI a2, yI a3, yI (a4 + i32 1)] [] h1) := U_24 (zst [8]) 18 8 [yR p0, yR p1, yI a2, yI a3, yI a4] [] h
/-! 25 Course_drawDeed (LReedOracles$Duchy;)V -/
set_option maxRecDepth 100000 in
theorem e_Course_drawDeed (p0 : Option Nat) (p1 : Option Nat) (h : zHeap) : zc 25 [zR p0, zR p1] h =
    zbI (zv 1 26 [zR p0, zI (i32 8)] h) fun x2 h1 =>
    zif (decide (x2 ≠ (i32 7)))
      (zif (decide (x2 ≠ (i32 6)))
        (zoI (zgI h1 p1 128) fun x3 =>
        zif (decide (x3 ≤ 0))
          (zr 25 35 [yR p0, yR p1, yI x2, none, none] [] h1)
          (zif (decide (x2 ≠ (i32 5)))
            (zr 25 35 [yR p0, yR p1, yI x2, none, none] [] h1)
            (zoI (zgI h1 p1 128) fun x4 =>
            zbI (zv 1 26 [zR p0, zI x4] h1) fun x6 h5 =>
            zbI (zv 1 22 [zR p0, zR p1, zI x6] h5) fun x8 h7 =>
            some (zI 0, h7))))
        (zbI (zv 1 26 [zR p0, zI (i32 10)] h1) fun x10 h9 =>
        zoH (zpI h9 p0 78 x10) fun h11 =>
        some (zI 0, h11)))
      (zbV (zv 1 23 [zR p0, zR p1] h1) fun h12 =>
      some (zI 0, h12)) := U_25 (zst [35]) 81 0 [yR p0, yR p1, none, none, none] [] h
set_option maxRecDepth 100000 in
theorem e_Course_drawDeed_35 (p0 : Option Nat) (p1 : Option Nat) (a2 : Int32) (h : zHeap) : zr 25 35 [yR p0, yR p1, yI a2, none, none] [] h =
    zoI (zgI h p1 128) fun x1 =>
    zif (decide (x1 ≤ 0))
      (zoI (zgI h p1 128) fun x2 =>
      zif (decide (x2 ≤ 0))
        (some (zI 0, h))
        (zoI (zgI h p1 129) fun x3 =>
        zif (decide (x3 ≤ 0))
          (some (zI 0, h))
          (zoI (zgI h p1 130) fun x4 =>
          zif (decide (x4 ≤ 0))
            (some (zI 0, h))
            (zoI (zgI h p1 128) fun x5 =>
            zbI (zv 1 26 [zR p0, zI x5] h) fun x7 h6 =>
            zoI (zgI h6 p1 129) fun x8 =>
            zbI (zv 1 26 [zR p0, zI x8] h6) fun x10 h9 =>
            zoI (zgI h9 p1 130) fun x11 =>
            zbI (zv 1 26 [zR p0, zI x11] h9) fun x13 h12 =>
            zbI (zv 1 17 [zR p0, zR p1, zI x7, zI x10, zI x13] h12) fun x15 h14 =>
            some (zI 0, h14)))))
      (zif (decide (a2 ≠ (i32 4)))
        (zoI (zgI h p1 128) fun x16 =>
        zif (decide (x16 ≤ 0))
          (some (zI 0, h))
          (zoI (zgI h p1 129) fun x17 =>
          zif (decide (x17 ≤ 0))
            (some (zI 0, h))
            (zoI (zgI h p1 130) fun x18 =>
            zif (decide (x18 ≤ 0))
              (some (zI 0, h))
              (zoI (zgI h p1 128) fun x19 =>
              zbI (zv 1 26 [zR p0, zI x19] h) fun x21 h20 =>
              zoI (zgI h20 p1 129) fun x22 =>
              zbI (zv 1 26 [zR p0, zI x22] h20) fun x24 h23 =>
              zoI (zgI h23 p1 130) fun x25 =>
              zbI (zv 1 26 [zR p0, zI x25] h23) fun x27 h26 =>
              zbI (zv 1 17 [zR p0, zR p1, zI x21, zI x24, zI x27] h26) fun x29 h28 =>
              some (zI 0, h28)))))
        (zoI (zgI h p1 128) fun x30 =>
        zbI (zv 1 26 [zR p0, zI x30] h) fun x32 h31 =>
        zbI (zv 1 21 [zR p0, zR p1, zI x32] h31) fun x34 h33 =>
        some (zI 0, h33))) := U_25 (zst [35]) 81 35 [yR p0, yR p1, yI a2, none, none] [] h
/-! 26 Course_below (I)I -/
set_option maxRecDepth 100000 in
theorem e_Course_below (p0 : Option Nat) (a1 : Int32) (h : zHeap) : zc 26 [zR p0, zI a1] h =
    zoI (zgI h p0 80) fun x1 =>
    zoH (zpI h p0 80 ((x1 * (i32 1103515245)) + (i32 12345))) fun h2 =>
    zif (decide (a1 ≤ 0))
      (some (zI (i32 0), h2))
      (zoI (zgI h2 p0 80) fun x3 =>
      zoI (if a1 = 0 then none else some (zrem (zushr x3 (i32 16)) a1)) fun x4 =>
      some (zI x4, h2)) := U_26 (zst []) 20 0 [yR p0, yI a1] [] h
/-! 27 Course_detail (LReedOracles$Duchy;I)I -/
set_option maxRecDepth 100000 in
theorem e_Course_detail (p0 : Option Nat) (p1 : Option Nat) (a2 : Int32) (h : zHeap) : zc 27 [zR p0, zR p1, zI a2] h =
    zif (decide (0 ≤ a2))
      (zoI (if (i32 10) = 0 then none else some (zrem a2 (i32 10))) fun x1 =>
      zoI (if (i32 10) = 0 then none else some (a2 / (i32 10))) fun x2 =>
      zif (decide (x2 = i32 0))
        (zbI (zv 1 28 [zR p0, zI x1] h) fun x4 h3 =>
        some (zI x4, h3))
        (zif (decide (x2 = i32 1))
        (zbI (zv 2 39 [zR p1, zI x1] h) fun x6 h5 =>
        zif (decide (x6 = 0))
          (some (zI (i32 (-2)), h5))
          (zoR (zgR h5 p0 66) fun r7 =>
          zoI (zaI h5 r7 x1 0) fun x8 =>
          some (zI x8, h5)))
        (zif (decide (x2 = i32 2))
        (zbI (zv 2 39 [zR p1, zI x1] h) fun x10 h9 =>
        zif (decide (x10 = 0))
          (some (zI (i32 (-2)), h9))
          (zoR (zgR h9 p0 67) fun r11 =>
          zoI (zaI h9 r11 x1 0) fun x12 =>
          some (zI x12, h9)))
        (zif (decide (x2 = i32 3))
        (zbI (zv 2 40 [zR p1, zI x1] h) fun x14 h13 =>
        zif (decide (x14 = 0))
          (some (zI (i32 (-2)), h13))
          (zoR (zgR h13 p0 68) fun r15 =>
          zoI (zaI h13 r15 x1 0) fun x16 =>
          some (zI x16, h13)))
        (zif (decide (x2 = i32 4))
        (zbI (zv 2 41 [zR p1, zI x1] h) fun x18 h17 =>
        zif (decide (x18 = 0))
          (some (zI (i32 (-2)), h17))
          (zoR (zgR h17 p0 71) fun r19 =>
          zoI (zaI h17 r19 x1 0) fun x20 =>
          some (zI x20, h17)))
        (some (zI (i32 (-2)), h)))))))
      (some (zI (i32 (-2)), h)) := U_27 (zst []) 63 0 [yR p0, yR p1, yI a2, none] [] h
/-! 28 Course_headline (I)I -/
set_option maxRecDepth 100000 in
theorem e_Course_headline (p0 : Option Nat) (a1 : Int32) (h : zHeap) : zc 28 [zR p0, zI a1] h =
    zif (decide (a1 = i32 0))
      (zoI (zgI h p0 73) fun x1 =>
      some (zI x1, h))
      (zif (decide (a1 = i32 1))
      (zoI (zgI h p0 72) fun x2 =>
      some (zI x2, h))
      (zif (decide (a1 = i32 2))
      (zoI (zgI h p0 74) fun x3 =>
      some (zI x3, h))
      (zif (decide (a1 = i32 3))
      (zoI (zgI h p0 75) fun x4 =>
      some (zI x4, h))
      (zif (decide (a1 = i32 4))
      (zoI (zgI h p0 76) fun x5 =>
      some (zI x5, h))
      (zif (decide (a1 = i32 5))
      (zoI (zgI h p0 77) fun x6 =>
      some (zI x6, h))
      (zif (decide (a1 = i32 6))
      (zoI (zgI h p0 78) fun x7 =>
      some (zI x7, h))
      (zif (decide (a1 = i32 7))
      (zoI (zgI h p0 79) fun x8 =>
      some (zI x8, h))
      (some (zI (i32 (-2)), h))))))))) := U_28 (zst []) 29 0 [yR p0, yI a1] [] h
/-! 29 Course_famous ()I -/
set_option maxRecDepth 100000 in
theorem e_Course_famous (p0 : Option Nat) (h : zHeap) : zc 29 [zR p0] h =
    zoR (zgR h p0 70) fun r1 =>
    zbI (zc 31 [zR r1] h) fun x3 h2 =>
    some (zI x3, h2) := U_29 (zst []) 5 0 [yR p0] [] h
/-! 30 Course_hoarse ()I -/
set_option maxRecDepth 100000 in
theorem e_Course_hoarse (p0 : Option Nat) (h : zHeap) : zc 30 [zR p0] h =
    zoR (zgR h p0 69) fun r1 =>
    zbI (zc 31 [zR r1] h) fun x3 h2 =>
    some (zI x3, h2) := U_30 (zst []) 5 0 [yR p0] [] h
/-! 31 Course_firstGreatest ([I)I -/
set_option maxRecDepth 100000 in
theorem e_Course_firstGreatest (p0 : Option Nat) (h : zHeap) : zc 31 [zR p0] h =
    zr 31 6 [yR p0, yI (i32 (-1)), yI (i32 0), yI (i32 0)] [] h := U_31 (zst [6]) 26 0 [yR p0, none, none, none] [] h
set_option maxRecDepth 100000 in
theorem e_Course_firstGreatest_6 (p0 : Option Nat) (a1 : Int32) (a2 : Int32) (a3 : Int32) (h : zHeap) : zr 31 6 [yR p0, yI a1, yI a2, yI a3] [] h =
    zoI (zaN h p0) fun x1 =>
    zif (decide (x1 ≤ a3))
      (some (zI a1, h))
      (zoI (zaI h p0 a3 0) fun x2 =>
      zif (decide (x2 ≤ a2))
        (zr 31 6 [yR p0, yI a1, yI a2, yI (a3 + i32 1)] [] h)
        (zoI (zaI h p0 a3 0) fun x3 =>
        zr 31 6 [yR p0, yI a3, yI x3, yI (a3 + i32 1)] [] h)) := U_31 (zst [6]) 26 6 [yR p0, yI a1, yI a2, yI a3] [] h
/-! 32 Course_driest (LReedOracles$Duchy;)I -/
set_option maxRecDepth 100000 in
theorem e_Course_driest (p0 : Option Nat) (p1 : Option Nat) (h : zHeap) : zc 32 [zR p0, zR p1] h =
    zr 32 4 [yR p0, yR p1, yI (i32 (-1)), yI (i32 0)] [] h := U_32 (zst [4]) 27 0 [yR p0, yR p1, none, none] [] h
set_option maxRecDepth 100000 in
theorem e_Course_driest_4 (p0 : Option Nat) (p1 : Option Nat) (a2 : Int32) (a3 : Int32) (h : zHeap) : zr 32 4 [yR p0, yR p1, yI a2, yI a3] [] h =
    zoI (zgI h p1 128) fun x1 =>
    zif (decide (x1 ≤ a3))
      (some (zI a2, h))
      (zif (decide (a2 = (i32 (-1))))
        (zr 32 4 [yR p0, yR p1, yI a3, yI (a3 + i32 1)] [] h)
        (zoR (zgR h p0 66) fun r2 =>
        zoI (zaI h r2 a3 0) fun x3 =>
        zoR (zgR h p0 66) fun r4 =>
        zoI (zaI h r4 a2 0) fun x5 =>
        zif (decide (x5 ≤ x3))
          (zr 32 4 [yR p0, yR p1, yI a2, yI (a3 + i32 1)] [] h)
          (zr 32 4 [yR p0, yR p1, yI a3, yI (a3 + i32 1)] [] h))) := U_32 (zst [4]) 27 4 [yR p0, yR p1, yI a2, yI a3] [] h
/-! 33 Duchy_init ()V -/
set_option maxRecDepth 100000 in
theorem e_Duchy_init (p0 : Nat) (h : zHeap) : zc 33 [zR (some p0)] h =
    zoN (zlen (i32 6)) fun n1 =>
    zoH (zpR (znA 0 n1 h) (some p0) 132 (some (hN h))) fun h2 =>
    zoN (zlen (i32 6)) fun n3 =>
    zoH (zpR (znA 0 n3 h2) (some p0) 133 (some (hN h2))) fun h4 =>
    zoN (zlen (i32 4)) fun n5 =>
    zoH (zpR (znA 0 n5 h4) (some p0) 134 (some (hN h4))) fun h6 =>
    zoN (zlen (i32 8)) fun n7 =>
    zoH (zpR (znA 0 n7 h6) (some p0) 135 (some (hN h6))) fun h8 =>
    zoN (zlen (i32 8)) fun n9 =>
    zoH (zpR (znA 0 n9 h8) (some p0) 136 (some (hN h8))) fun h10 =>
    zoN (zlen (i32 8)) fun n11 =>
    zoH (zpR (znA 0 n11 h10) (some p0) 137 (some (hN h10))) fun h12 =>
    some (zI 0, h12) := U_33 (zst []) 28 0 [yR (some p0)] [] h
/-! 34 Duchy_reset ()V -/
set_option maxRecDepth 100000 in
theorem e_Duchy_reset (p0 : Option Nat) (h : zHeap) : zc 34 [zR p0] h =
    zoH (zpI h p0 128 (i32 0)) fun h1 =>
    zoH (zpI h1 p0 129 (i32 0)) fun h2 =>
    zoH (zpI h2 p0 130 (i32 0)) fun h3 =>
    zoH (zpI h3 p0 131 (i32 0)) fun h4 =>
    zr 34 14 [yR p0, yI (i32 0)] [] h4 := U_34 (zst [14]) 32 0 [yR p0, none] [] h
set_option maxRecDepth 100000 in
theorem e_Duchy_reset_14 (p0 : Option Nat) (a1 : Int32) (h : zHeap) : zr 34 14 [yR p0, yI a1] [] h =
    zif (decide ((i32 8) ≤ a1))
      (some (zI 0, h))
      (zoR (zgR h p0 137) fun r1 =>
      zoI (if (i32 2) = 0 then none else some (zrem a1 (i32 2))) fun x2 =>
      zif (decide (x2 ≠ 0))
        (zoH (zaS h r1 a1 (i32 1)) fun h3 =>
        zr 34 14 [yR p0, yI (a1 + i32 1)] [] h3)
        (zoH (zaS h r1 a1 (i32 0)) fun h4 =>
        zr 34 14 [yR p0, yI (a1 + i32 1)] [] h4)) := U_34 (zst [14]) 32 14 [yR p0, yI a1] [] h
/-! 35 Duchy_copy (LReedOracles$Duchy;)V -/
set_option maxRecDepth 100000 in
theorem e_Duchy_copy (p0 : Option Nat) (p1 : Option Nat) (h : zHeap) : zc 35 [zR p0, zR p1] h =
    zoI (zgI h p1 128) fun x1 =>
    zoH (zpI h p0 128 x1) fun h2 =>
    zoI (zgI h2 p1 129) fun x3 =>
    zoH (zpI h2 p0 129 x3) fun h4 =>
    zoI (zgI h4 p1 130) fun x5 =>
    zoH (zpI h4 p0 130 x5) fun h6 =>
    zoI (zgI h6 p1 131) fun x7 =>
    zoH (zpI h6 p0 131 x7) fun h8 =>
    zoR (zgR h8 p1 132) fun r9 =>
    zoR (zgR h8 p0 132) fun r10 =>
    zoH (zaY h8 r9 (i32 0) r10 (i32 0) (i32 6)) fun h11 =>
    zoR (zgR h11 p1 133) fun r12 =>
    zoR (zgR h11 p0 133) fun r13 =>
    zoH (zaY h11 r12 (i32 0) r13 (i32 0) (i32 6)) fun h14 =>
    zoR (zgR h14 p1 134) fun r15 =>
    zoR (zgR h14 p0 134) fun r16 =>
    zoH (zaY h14 r15 (i32 0) r16 (i32 0) (i32 4)) fun h17 =>
    zoR (zgR h17 p1 135) fun r18 =>
    zoR (zgR h17 p0 135) fun r19 =>
    zoH (zaY h17 r18 (i32 0) r19 (i32 0) (i32 8)) fun h20 =>
    zoR (zgR h20 p1 136) fun r21 =>
    zoR (zgR h20 p0 136) fun r22 =>
    zoH (zaY h20 r21 (i32 0) r22 (i32 0) (i32 8)) fun h23 =>
    zoR (zgR h23 p1 137) fun r24 =>
    zoR (zgR h23 p0 137) fun r25 =>
    zoH (zaY h23 r24 (i32 0) r25 (i32 0) (i32 8)) fun h26 =>
    some (zI 0, h26) := U_35 (zst []) 66 0 [yR p0, yR p1] [] h
/-! 36 Duchy_addReed (II)V -/
set_option maxRecDepth 100000 in
theorem e_Duchy_addReed (p0 : Option Nat) (a1 : Int32) (a2 : Int32) (h : zHeap) : zc 36 [zR p0, zI a1, zI a2] h =
    zoI (zgI h p0 128) fun x1 =>
    zif (decide ((i32 6) ≤ x1))
      (some (zI 0, h))
      (zoR (zgR h p0 132) fun r2 =>
      zoI (zgI h p0 128) fun x3 =>
      zoH (zaS h r2 x3 a1) fun h4 =>
      zoR (zgR h4 p0 133) fun r5 =>
      zoI (zgI h4 p0 128) fun x6 =>
      zoH (zaS h4 r5 x6 a2) fun h7 =>
      zoI (zgI h7 p0 128) fun x8 =>
      zoH (zpI h7 p0 128 (x8 + (i32 1))) fun h9 =>
      some (zI 0, h9)) := U_36 (zst []) 24 0 [yR p0, yI a1, yI a2] [] h
/-! 37 Duchy_addPlayer (I)V -/
set_option maxRecDepth 100000 in
theorem e_Duchy_addPlayer (p0 : Option Nat) (a1 : Int32) (h : zHeap) : zc 37 [zR p0, zI a1] h =
    zoI (zgI h p0 129) fun x1 =>
    zif (decide ((i32 4) ≤ x1))
      (some (zI 0, h))
      (zoR (zgR h p0 134) fun r2 =>
      zoI (zgI h p0 129) fun x3 =>
      zoH (zaS h r2 x3 a1) fun h4 =>
      zoI (zgI h4 p0 129) fun x5 =>
      zoH (zpI h4 p0 129 (x5 + (i32 1))) fun h6 =>
      some (zI 0, h6)) := U_37 (zst []) 18 0 [yR p0, yI a1] [] h
/-! 38 Duchy_addQuestion (II)V -/
set_option maxRecDepth 100000 in
theorem e_Duchy_addQuestion (p0 : Option Nat) (a1 : Int32) (a2 : Int32) (h : zHeap) : zc 38 [zR p0, zI a1, zI a2] h =
    zoI (zgI h p0 130) fun x1 =>
    zif (decide ((i32 8) ≤ x1))
      (some (zI 0, h))
      (zoR (zgR h p0 135) fun r2 =>
      zoI (zgI h p0 130) fun x3 =>
      zoH (zaS h r2 x3 a1) fun h4 =>
      zoR (zgR h4 p0 136) fun r5 =>
      zoI (zgI h4 p0 130) fun x6 =>
      zoH (zaS h4 r5 x6 a2) fun h7 =>
      zoI (zgI h7 p0 130) fun x8 =>
      zoH (zpI h7 p0 130 (x8 + (i32 1))) fun h9 =>
      some (zI 0, h9)) := U_38 (zst []) 24 0 [yR p0, yI a1, yI a2] [] h
/-! 39 Duchy_hasReed (I)Z -/
set_option maxRecDepth 100000 in
theorem e_Duchy_hasReed (p0 : Option Nat) (a1 : Int32) (h : zHeap) : zc 39 [zR p0, zI a1] h =
    zif (decide (a1 < 0))
      (zrz (i32 0) h)
      (zoI (zgI h p0 128) fun x1 =>
      zif (decide (x1 ≤ a1))
        (zrz (i32 0) h)
        (zrz (i32 1) h)) := U_39 (zst []) 11 0 [yR p0, yI a1] [] h
/-! 40 Duchy_hasPlayer (I)Z -/
set_option maxRecDepth 100000 in
theorem e_Duchy_hasPlayer (p0 : Option Nat) (a1 : Int32) (h : zHeap) : zc 40 [zR p0, zI a1] h =
    zif (decide (a1 < 0))
      (zrz (i32 0) h)
      (zoI (zgI h p0 129) fun x1 =>
      zif (decide (x1 ≤ a1))
        (zrz (i32 0) h)
        (zrz (i32 1) h)) := U_40 (zst []) 11 0 [yR p0, yI a1] [] h
/-! 41 Duchy_hasQuestion (I)Z -/
set_option maxRecDepth 100000 in
theorem e_Duchy_hasQuestion (p0 : Option Nat) (a1 : Int32) (h : zHeap) : zc 41 [zR p0, zI a1] h =
    zif (decide (a1 < 0))
      (zrz (i32 0) h)
      (zoI (zgI h p0 130) fun x1 =>
      zif (decide (x1 ≤ a1))
        (zrz (i32 0) h)
        (zrz (i32 1) h)) := U_41 (zst []) 11 0 [yR p0, yI a1] [] h
/-! 42 Duchy_hasAll (III)Z -/
set_option maxRecDepth 100000 in
theorem e_Duchy_hasAll (p0 : Option Nat) (a1 : Int32) (a2 : Int32) (a3 : Int32) (h : zHeap) : zc 42 [zR p0, zI a1, zI a2, zI a3] h =
    zbI (zv 2 39 [zR p0, zI a1] h) fun x2 h1 =>
    zif (decide (x2 = 0))
      (zrz (i32 0) h1)
      (zbI (zv 2 40 [zR p0, zI a2] h1) fun x4 h3 =>
      zif (decide (x4 = 0))
        (zrz (i32 0) h3)
        (zbI (zv 2 41 [zR p0, zI a3] h3) fun x6 h5 =>
        zif (decide (x6 = 0))
          (zrz (i32 0) h5)
          (zrz (i32 1) h5))) := U_42 (zst []) 17 0 [yR p0, yI a1, yI a2, yI a3] [] h
/-! 43 Duchy_knows (LReedOracles$Log;)Z -/
set_option maxRecDepth 100000 in
theorem e_Duchy_knows (p0 : Option Nat) (p1 : Option Nat) (h : zHeap) : zc 43 [zR p0, zR p1] h =
    zr 43 2 [yR p0, yR p1, yI (i32 0)] [] h := U_43 (zst [2]) 27 0 [yR p0, yR p1, none] [] h
set_option maxRecDepth 100000 in
theorem e_Duchy_knows_2 (p0 : Option Nat) (p1 : Option Nat) (a2 : Int32) (h : zHeap) : zr 43 2 [yR p0, yR p1, yI a2] [] h =
    zoI (zgI h p1 192) fun x1 =>
    zif (decide (x1 ≤ a2))
      (zrz (i32 1) h)
      (zoR (zgR h p1 193) fun r2 =>
      zoI (zaI h r2 a2 0) fun x3 =>
      zbI (zv 2 40 [zR p0, zI x3] h) fun x5 h4 =>
      zif (decide (x5 = 0))
        (zrz (i32 0) h4)
        (zoR (zgR h4 p1 194) fun r6 =>
        zoI (zaI h4 r6 a2 0) fun x7 =>
        zbI (zv 2 41 [zR p0, zI x7] h4) fun x9 h8 =>
        zif (decide (x9 ≠ 0))
          (zr 43 2 [yR p0, yR p1, yI (a2 + i32 1)] [] h8)
          (zrz (i32 0) h8))) := U_43 (zst [2]) 27 2 [yR p0, yR p1, yI a2] [] h
/-! 44 Duchy_detail (I)I -/
set_option maxRecDepth 100000 in
theorem e_Duchy_detail (p0 : Option Nat) (a1 : Int32) (h : zHeap) : zc 44 [zR p0, zI a1] h =
    zif (decide (0 ≤ a1))
      (zoI (if (i32 10) = 0 then none else some (zrem a1 (i32 10))) fun x1 =>
      zoI (if (i32 10) = 0 then none else some (a1 / (i32 10))) fun x2 =>
      zif (decide (x2 = i32 0))
        (zbI (zv 2 45 [zR p0, zI x1] h) fun x4 h3 =>
        some (zI x4, h3))
        (zif (decide (x2 = i32 1))
        (zbI (zv 2 39 [zR p0, zI x1] h) fun x6 h5 =>
        zif (decide (x6 = 0))
          (some (zI (i32 (-1)), h5))
          (zoR (zgR h5 p0 132) fun r7 =>
          zoI (zaI h5 r7 x1 0) fun x8 =>
          some (zI x8, h5)))
        (zif (decide (x2 = i32 2))
        (zbI (zv 2 39 [zR p0, zI x1] h) fun x10 h9 =>
        zif (decide (x10 = 0))
          (some (zI (i32 (-1)), h9))
          (zoR (zgR h9 p0 133) fun r11 =>
          zoI (zaI h9 r11 x1 0) fun x12 =>
          some (zI x12, h9)))
        (zif (decide (x2 = i32 3))
        (zbI (zv 2 40 [zR p0, zI x1] h) fun x14 h13 =>
        zif (decide (x14 = 0))
          (some (zI (i32 (-1)), h13))
          (zoR (zgR h13 p0 134) fun r15 =>
          zoI (zaI h13 r15 x1 0) fun x16 =>
          some (zI x16, h13)))
        (zif (decide (x2 = i32 4))
        (zbI (zv 2 41 [zR p0, zI x1] h) fun x18 h17 =>
        zif (decide (x18 = 0))
          (some (zI (i32 (-1)), h17))
          (zoR (zgR h17 p0 135) fun r19 =>
          zoI (zaI h17 r19 x1 0) fun x20 =>
          some (zI x20, h17)))
        (zif (decide (x2 = i32 5))
        (zbI (zv 2 41 [zR p0, zI x1] h) fun x22 h21 =>
        zif (decide (x22 = 0))
          (some (zI (i32 (-1)), h21))
          (zoR (zgR h21 p0 136) fun r23 =>
          zoI (zaI h21 r23 x1 0) fun x24 =>
          some (zI x24, h21)))
        (zif (decide (x2 = i32 6))
        (zif (decide ((i32 8) ≤ x1))
          (some (zI (i32 (-1)), h))
          (zoR (zgR h p0 137) fun r25 =>
          zoI (zaI h r25 x1 0) fun x26 =>
          some (zI x26, h)))
        (some (zI (i32 (-1)), h)))))))))
      (some (zI (i32 (-1)), h)) := U_44 (zst []) 84 0 [yR p0, yI a1, none] [] h
/-! 45 Duchy_headline (I)I -/
set_option maxRecDepth 100000 in
theorem e_Duchy_headline (p0 : Option Nat) (a1 : Int32) (h : zHeap) : zc 45 [zR p0, zI a1] h =
    zif (decide (a1 = i32 0))
      (zoI (zgI h p0 128) fun x1 =>
      some (zI x1, h))
      (zif (decide (a1 = i32 1))
      (zoI (zgI h p0 129) fun x2 =>
      some (zI x2, h))
      (zif (decide (a1 = i32 2))
      (zoI (zgI h p0 130) fun x3 =>
      some (zI x3, h))
      (zif (decide (a1 = i32 3))
      (zoI (zgI h p0 131) fun x4 =>
      some (zI x4, h))
      (some (zI (i32 (-1)), h))))) := U_45 (zst []) 17 0 [yR p0, yI a1] [] h
/-! 46 Duchy_coughs (III)Z -/
set_option maxRecDepth 100000 in
theorem e_Duchy_coughs (p0 : Option Nat) (a1 : Int32) (a2 : Int32) (a3 : Int32) (h : zHeap) : zc 46 [zR p0, zI a1, zI a2, zI a3] h =
    zoR (zgR h p0 135) fun r1 =>
    zoI (zaI h r1 a3 0) fun x2 =>
    zoR (zgR h p0 134) fun r3 =>
    zoI (zaI h r3 a2 0) fun x4 =>
    zif (decide (x2 ≤ (a1 + x4)))
      (zrz (i32 0) h)
      (zrz (i32 1) h) := U_46 (zst []) 16 0 [yR p0, yI a1, yI a2, yI a3] [] h
/-! 47 Duchy_noteAt (IIIII)I -/
set_option maxRecDepth 100000 in
theorem e_Duchy_noteAt (p0 : Option Nat) (a1 : Int32) (a2 : Int32) (a3 : Int32) (a4 : Int32) (a5 : Int32) (h : zHeap) : zc 47 [zR p0, zI a1, zI a2, zI a3, zI a4, zI a5] h =
    zbI (zv 2 46 [zR p0, zI a1, zI a4, zI a5] h) fun x2 h1 =>
    zif (decide (x2 = 0))
      (zoR (zgR h1 p0 134) fun r3 =>
      zoI (zaI h1 r3 a4 0) fun x4 =>
      zoR (zgR h1 p0 136) fun r5 =>
      zoI (zaI h1 r5 a5 0) fun x6 =>
      zoR (zgR h1 p0 135) fun r7 =>
      zoI (zaI h1 r7 a5 0) fun x8 =>
      some (zI (((((((((i32 3) * a1) + x4) + a2) + ((i32 5) * x6)) + x8) + (i32 16)) - a3) &&& (i32 7)), h1))
      (some (zI (i32 (-1)), h1)) := U_47 (zst []) 40 0 [yR p0, yI a1, yI a2, yI a3, yI a4, yI a5, none] [] h
/-! 48 Duchy_noteOf (III)I -/
set_option maxRecDepth 100000 in
theorem e_Duchy_noteOf (p0 : Option Nat) (a1 : Int32) (a2 : Int32) (a3 : Int32) (h : zHeap) : zc 48 [zR p0, zI a1, zI a2, zI a3] h =
    zoR (zgR h p0 132) fun r1 =>
    zoI (zaI h r1 a1 0) fun x2 =>
    zoR (zgR h p0 133) fun r3 =>
    zoI (zaI h r3 a1 0) fun x4 =>
    zoI (zgI h p0 131) fun x5 =>
    zbI (zv 2 47 [zR p0, zI x2, zI x4, zI x5, zI a2, zI a3] h) fun x7 h6 =>
    some (zI x7, h6) := U_48 (zst []) 16 0 [yR p0, yI a1, yI a2, yI a3] [] h
/-! 49 Duchy_noteDried (IIII)I -/
set_option maxRecDepth 100000 in
theorem e_Duchy_noteDried (p0 : Option Nat) (a1 : Int32) (a2 : Int32) (a3 : Int32) (a4 : Int32) (h : zHeap) : zc 49 [zR p0, zI a1, zI a2, zI a3, zI a4] h =
    zoR (zgR h p0 132) fun r1 =>
    zoI (zaI h r1 a1 0) fun x2 =>
    zbI (zc 193 [zI x2, zI a2] h) fun x4 h3 =>
    zoR (zgR h3 p0 133) fun r5 =>
    zoI (zaI h3 r5 a1 0) fun x6 =>
    zoI (zgI h3 p0 131) fun x7 =>
    zbI (zv 2 47 [zR p0, zI x4, zI x6, zI x7, zI a3, zI a4] h3) fun x9 h8 =>
    some (zI x9, h8) := U_49 (zst []) 18 0 [yR p0, yI a1, yI a2, yI a3, yI a4] [] h
/-! 50 Duchy_meaning (I)I -/
set_option maxRecDepth 100000 in
theorem e_Duchy_meaning (p0 : Option Nat) (a1 : Int32) (h : zHeap) : zc 50 [zR p0, zI a1] h =
    zif (decide (a1 < 0))
      (some (zI (i32 (-1)), h))
      (zif (decide (a1 < (i32 8)))
        (zoR (zgR h p0 137) fun r1 =>
        zoI (zaI h r1 a1 0) fun x2 =>
        some (zI x2, h))
        (some (zI (i32 (-1)), h))) := U_50 (zst []) 13 0 [yR p0, yI a1] [] h
/-! 51 Duchy_answerOf (III)I -/
set_option maxRecDepth 100000 in
theorem e_Duchy_answerOf (p0 : Option Nat) (a1 : Int32) (a2 : Int32) (a3 : Int32) (h : zHeap) : zc 51 [zR p0, zI a1, zI a2, zI a3] h =
    zbI (zv 2 48 [zR p0, zI a1, zI a2, zI a3] h) fun x2 h1 =>
    zbI (zv 2 50 [zR p0, zI x2] h1) fun x4 h3 =>
    some (zI x4, h3) := U_51 (zst []) 9 0 [yR p0, yI a1, yI a2, yI a3] [] h
/-! 52 Log_init ()V -/
set_option maxRecDepth 100000 in
theorem e_Log_init (p0 : Nat) (h : zHeap) : zc 52 [zR (some p0)] h =
    zoN (zlen (i32 8)) fun n1 =>
    zoH (zpR (znA 0 n1 h) (some p0) 193 (some (hN h))) fun h2 =>
    zoN (zlen (i32 8)) fun n3 =>
    zoH (zpR (znA 0 n3 h2) (some p0) 194 (some (hN h2))) fun h4 =>
    zoN (zlen (i32 8)) fun n5 =>
    zoH (zpR (znA 0 n5 h4) (some p0) 195 (some (hN h4))) fun h6 =>
    some (zI 0, h6) := U_52 (zst []) 16 0 [yR (some p0)] [] h
/-! 53 Log_copy (LReedOracles$Log;)V -/
set_option maxRecDepth 100000 in
theorem e_Log_copy (p0 : Option Nat) (p1 : Option Nat) (h : zHeap) : zc 53 [zR p0, zR p1] h =
    zoR (zgR h p1 193) fun r1 =>
    zoR (zgR h p0 193) fun r2 =>
    zoI (zgI h p1 192) fun x3 =>
    zoH (zaY h r1 (i32 0) r2 (i32 0) x3) fun h4 =>
    zoR (zgR h4 p1 194) fun r5 =>
    zoR (zgR h4 p0 194) fun r6 =>
    zoI (zgI h4 p1 192) fun x7 =>
    zoH (zaY h4 r5 (i32 0) r6 (i32 0) x7) fun h8 =>
    zoR (zgR h8 p1 195) fun r9 =>
    zoR (zgR h8 p0 195) fun r10 =>
    zoI (zgI h8 p1 192) fun x11 =>
    zoH (zaY h8 r9 (i32 0) r10 (i32 0) x11) fun h12 =>
    zoI (zgI h12 p1 192) fun x13 =>
    zoH (zpI h12 p0 192 x13) fun h14 =>
    some (zI 0, h14) := U_53 (zst []) 33 0 [yR p0, yR p1] [] h
/-! 54 Log_add (III)V -/
set_option maxRecDepth 100000 in
theorem e_Log_add (p0 : Option Nat) (a1 : Int32) (a2 : Int32) (a3 : Int32) (h : zHeap) : zc 54 [zR p0, zI a1, zI a2, zI a3] h =
    zoI (zgI h p0 192) fun x1 =>
    zif (decide ((i32 8) ≤ x1))
      (some (zI 0, h))
      (zoR (zgR h p0 193) fun r2 =>
      zoI (zgI h p0 192) fun x3 =>
      zoH (zaS h r2 x3 a1) fun h4 =>
      zoR (zgR h4 p0 194) fun r5 =>
      zoI (zgI h4 p0 192) fun x6 =>
      zoH (zaS h4 r5 x6 a2) fun h7 =>
      zoR (zgR h7 p0 195) fun r8 =>
      zoI (zgI h7 p0 192) fun x9 =>
      zoH (zaS h7 r8 x9 a3) fun h10 =>
      zoI (zgI h10 p0 192) fun x11 =>
      zoH (zpI h10 p0 192 (x11 + (i32 1))) fun h12 =>
      some (zI 0, h12)) := U_54 (zst []) 30 0 [yR p0, yI a1, yI a2, yI a3] [] h
/-! 55 Log_detail (II)I -/
set_option maxRecDepth 100000 in
theorem e_Log_detail (p0 : Option Nat) (a1 : Int32) (a2 : Int32) (h : zHeap) : zc 55 [zR p0, zI a1, zI a2] h =
    zif (decide (a1 ≠ (i32 (-1))))
      (zif (decide (a1 < 0))
        (some (zI (i32 (-2)), h))
        (zoI (zgI h p0 192) fun x1 =>
        zif (decide (a1 < x1))
          (zif (decide (a2 = i32 0))
            (zoR (zgR h p0 193) fun r2 =>
            zoI (zaI h r2 a1 0) fun x3 =>
            some (zI x3, h))
            (zif (decide (a2 = i32 1))
            (zoR (zgR h p0 194) fun r4 =>
            zoI (zaI h r4 a1 0) fun x5 =>
            some (zI x5, h))
            (zif (decide (a2 = i32 2))
            (zoR (zgR h p0 195) fun r6 =>
            zoI (zaI h r6 a1 0) fun x7 =>
            some (zI x7, h))
            (some (zI (i32 (-2)), h)))))
          (some (zI (i32 (-2)), h))))
      (zif (decide (a2 ≠ 0))
        (zif (decide (a1 < 0))
          (some (zI (i32 (-2)), h))
          (zoI (zgI h p0 192) fun x8 =>
          zif (decide (a1 < x8))
            (zif (decide (a2 = i32 0))
              (zoR (zgR h p0 193) fun r9 =>
              zoI (zaI h r9 a1 0) fun x10 =>
              some (zI x10, h))
              (zif (decide (a2 = i32 1))
              (zoR (zgR h p0 194) fun r11 =>
              zoI (zaI h r11 a1 0) fun x12 =>
              some (zI x12, h))
              (zif (decide (a2 = i32 2))
              (zoR (zgR h p0 195) fun r13 =>
              zoI (zaI h r13 a1 0) fun x14 =>
              some (zI x14, h))
              (some (zI (i32 (-2)), h)))))
            (some (zI (i32 (-2)), h))))
        (zoI (zgI h p0 192) fun x15 =>
        some (zI x15, h))) := U_55 (zst []) 36 0 [yR p0, yI a1, yI a2] [] h
/-! 56 Plans_init ()V -/
set_option maxRecDepth 100000 in
theorem e_Plans_init (p0 : Nat) (h : zHeap) : zc 56 [zR (some p0)] h =
    zoN (zlen (i32 576)) fun n1 =>
    zoH (zpR (znA 0 n1 h) (some p0) 256 (some (hN h))) fun h2 =>
    zoN (zlen (i32 8)) fun n3 =>
    zoH (zpR (znA 0 n3 h2) (some p0) 257 (some (hN h2))) fun h4 =>
    zoN (zlen (i32 256)) fun n5 =>
    zoH (zpR (znA 0 n5 h4) (some p0) 258 (some (hN h4))) fun h6 =>
    zoN (zlen (i32 8)) fun n7 =>
    zoH (zpR (znA 0 n7 h6) (some p0) 259 (some (hN h6))) fun h8 =>
    some (zI 0, h8) := U_56 (zst []) 20 0 [yR (some p0)] [] h
/-! 57 Plans_share (LReedOracles$Duchy;II)V -/
set_option maxRecDepth 100000 in
theorem e_Plans_share (p0 : Option Nat) (p1 : Option Nat) (a2 : Int32) (a3 : Int32) (h : zHeap) : zc 57 [zR p0, zR p1, zI a2, zI a3] h =
    zoI (zgI h p1 128) fun x1 =>
    zr 57 7 [yR p0, yR p1, yI a2, yI a3, yI (zshl (i32 1) x1), yI (i32 0), none] [] h := U_57 (zst [7, 27, 36, 61]) 82 0 [yR p0, yR p1, yI a2, yI a3, none, none, none] [] h
set_option maxRecDepth 100000 in
theorem e_Plans_share_7 (p0 : Option Nat) (p1 : Option Nat) (a2 : Int32) (a3 : Int32) (a4 : Int32) (a5 : Int32) (h : zHeap) : zr 57 7 [yR p0, yR p1, yI a2, yI a3, yI a4, yI a5, none] [] h =
    zif (decide (a4 ≤ a5))
      (zoI (zgI h p1 130) fun x1 =>
      zr 57 27 [yR p0, yR p1, yI a2, yI a3, yI a4, yI (x1 - (i32 1)), none] [] h)
      (zoR (zgR h p0 256) fun r2 =>
      zoI (zgI h p1 130) fun x3 =>
      zoH (zaS h r2 ((x3 * (i32 64)) + a5) (i32 0)) fun h4 =>
      zr 57 7 [yR p0, yR p1, yI a2, yI a3, yI a4, yI (a5 + i32 1), none] [] h4) := U_57 (zst [7, 27, 36, 61]) 82 7 [yR p0, yR p1, yI a2, yI a3, yI a4, yI a5, none] [] h
set_option maxRecDepth 100000 in
theorem e_Plans_share_27 (p0 : Option Nat) (p1 : Option Nat) (a2 : Int32) (a3 : Int32) (a4 : Int32) (a5 : Int32) (w6 : Option zVal) (h : zHeap) : zr 57 27 [yR p0, yR p1, yI a2, yI a3, yI a4, yI a5, w6] [] h =
    zif (decide (a5 < 0))
      (some (zI 0, h))
      (zoR (zgR h p0 257) fun r1 =>
      zoH (zaS h r1 a5 (i32 0)) fun h2 =>
      zr 57 36 [yR p0, yR p1, yI a2, yI a3, yI a4, yI a5, yI (i32 0)] [] h2) := U_57 (zst [7, 27, 36, 61]) 82 27 [yR p0, yR p1, yI a2, yI a3, yI a4, yI a5, w6] [] h
set_option maxRecDepth 100000 in
theorem e_Plans_share_36 (p0 : Option Nat) (p1 : Option Nat) (a2 : Int32) (a3 : Int32) (a4 : Int32) (a5 : Int32) (a6 : Int32) (h : zHeap) : zr 57 36 [yR p0, yR p1, yI a2, yI a3, yI a4, yI a5, yI a6] [] h =
    zoI (zgI h p1 128) fun x1 =>
    zif (decide (x1 ≤ a6))
      (zr 57 61 [yR p0, yR p1, yI a2, yI a3, yI a4, yI a5, yI (i32 0)] [] h)
      (zbI (zv 2 51 [zR p1, zI a6, zI a2, zI a5] h) fun x3 h2 =>
      zif (decide (x3 ≠ a3))
        (zr 57 36 [yR p0, yR p1, yI a2, yI a3, yI a4, yI a5, yI (a6 + i32 1)] [] h2)
        (zoR (zgR h2 p0 257) fun r4 =>
        zoI (zaI h2 r4 a5 0) fun x5 =>
        zoH (zaS h2 r4 a5 (x5 ||| (zshl (i32 1) a6))) fun h6 =>
        zr 57 36 [yR p0, yR p1, yI a2, yI a3, yI a4, yI a5, yI (a6 + i32 1)] [] h6)) := U_57 (zst [7, 27, 36, 61]) 82 36 [yR p0, yR p1, yI a2, yI a3, yI a4, yI a5, yI a6] [] h
set_option maxRecDepth 100000 in
theorem e_Plans_share_61 (p0 : Option Nat) (p1 : Option Nat) (a2 : Int32) (a3 : Int32) (a4 : Int32) (a5 : Int32) (a6 : Int32) (h : zHeap) : zr 57 61 [yR p0, yR p1, yI a2, yI a3, yI a4, yI a5, yI a6] [] h =
    zif (decide (a4 ≤ a6))
      (zr 57 27 [yR p0, yR p1, yI a2, yI a3, yI a4, yI (a5 + i32 (-1)), yI a6] [] h)
      (zoR (zgR h p0 256) fun r1 =>
      zbI (zv 4 58 [zR p0, zI a5, zI a6] h) fun x3 h2 =>
      zoH (zaS h2 r1 ((a5 * (i32 64)) + a6) x3) fun h4 =>
      zr 57 61 [yR p0, yR p1, yI a2, yI a3, yI a4, yI a5, yI (a6 + i32 1)] [] h4) := U_57 (zst [7, 27, 36, 61]) 82 61 [yR p0, yR p1, yI a2, yI a3, yI a4, yI a5, yI a6] [] h
/-! 58 Plans_bestShare (II)I -/
set_option maxRecDepth 100000 in
theorem e_Plans_bestShare (p0 : Option Nat) (a1 : Int32) (a2 : Int32) (h : zHeap) : zc 58 [zR p0, zI a1, zI a2] h =
    zoR (zgR h p0 256) fun r1 =>
    zoI (zaI h r1 (((a1 + (i32 1)) * (i32 64)) + a2) 0) fun x2 =>
    zoR (zgR h p0 257) fun r3 =>
    zoI (zaI h r3 a1 0) fun x4 =>
    zr 58 22 [yR p0, yI a1, yI a2, yI x2, yI (x4 &&& (a2 ^^^ (i32 (-1)))), yI (i32 0)] [] h := U_58 (zst [22]) 45 0 [yR p0, yI a1, yI a2, none, none, none] [] h
set_option maxRecDepth 100000 in
theorem e_Plans_bestShare_22 (p0 : Option Nat) (a1 : Int32) (a2 : Int32) (a3 : Int32) (a4 : Int32) (a5 : Int32) (h : zHeap) : zr 58 22 [yR p0, yI a1, yI a2, yI a3, yI a4, yI a5] [] h =
    zif (decide ((i32 6) ≤ a5))
      (some (zI a3, h))
      (zif (decide (((zshr a4 a5) &&& (i32 1)) ≠ (i32 1)))
        (zr 58 22 [yR p0, yI a1, yI a2, yI a3, yI a4, yI (a5 + i32 1)] [] h)
        (zbI (zv 4 59 [zR p0, zI a1, zI a2, zI a5] h) fun x2 h1 =>
        zr 58 22 [yR p0, yI a1, yI a2, yI (zmax a3 x2), yI a4, yI (a5 + i32 1)] [] h1)) := U_58 (zst [22]) 45 22 [yR p0, yI a1, yI a2, yI a3, yI a4, yI a5] [] h
/-! 59 Plans_shareBy (III)I -/
set_option maxRecDepth 100000 in
theorem e_Plans_shareBy (p0 : Option Nat) (a1 : Int32) (a2 : Int32) (a3 : Int32) (h : zHeap) : zc 59 [zR p0, zI a1, zI a2, zI a3] h =
    zoR (zgR h p0 257) fun r1 =>
    zoI (zaI h r1 a1 0) fun x2 =>
    zoR (zgR h p0 256) fun r3 =>
    zoI (zaI h r3 (((a1 + (i32 1)) * (i32 64)) + (a2 ||| (zshl (i32 1) a3))) 0) fun x4 =>
    some (zI (((zshr x2 a3) &&& (i32 1)) + x4), h) := U_59 (zst []) 27 0 [yR p0, yI a1, yI a2, yI a3, none] [] h
/-! 60 Plans_mostShared ()I -/
set_option maxRecDepth 100000 in
theorem e_Plans_mostShared (p0 : Option Nat) (h : zHeap) : zc 60 [zR p0] h =
    zoR (zgR h p0 256) fun r1 =>
    zoI (zaI h r1 (i32 0) 0) fun x2 =>
    some (zI x2, h) := U_60 (zst []) 6 0 [yR p0] [] h
/-! 61 Plans_sharedReed (LReedOracles$Duchy;I)I -/
set_option maxRecDepth 100000 in
theorem e_Plans_sharedReed (p0 : Option Nat) (p1 : Option Nat) (a2 : Int32) (h : zHeap) : zc 61 [zR p0, zR p1, zI a2] h =
    zr 61 6 [yR p0, yR p1, yI a2, yI (i32 0), yI (i32 6), yI (i32 0)] [] h := U_61 (zst [6]) 29 0 [yR p0, yR p1, yI a2, none, none, none] [] h
set_option maxRecDepth 100000 in
theorem e_Plans_sharedReed_6 (p0 : Option Nat) (p1 : Option Nat) (a2 : Int32) (a3 : Int32) (a4 : Int32) (a5 : Int32) (h : zHeap) : zr 61 6 [yR p0, yR p1, yI a2, yI a3, yI a4, yI a5] [] h =
    zif (decide (a2 < a5))
      (some (zI a4, h))
      (zbI (zv 4 62 [zR p0, zR p1, zI a5, zI a3] h) fun x2 h1 =>
      zif (decide ((i32 6) ≤ x2))
        (zr 61 6 [yR p0, yR p1, yI a2, yI a3, yI x2, yI (a5 + i32 1)] [] h1)
        (zr 61 6 [yR p0, yR p1, yI a2, yI (a3 ||| (zshl (i32 1) x2)), yI x2, yI (a5 + i32 1)] [] h1)) := U_61 (zst [6]) 29 6 [yR p0, yR p1, yI a2, yI a3, yI a4, yI a5] [] h
/-! 62 Plans_firstShare (LReedOracles$Duchy;II)I -/
set_option maxRecDepth 100000 in
theorem e_Plans_firstShare (p0 : Option Nat) (p1 : Option Nat) (a2 : Int32) (a3 : Int32) (h : zHeap) : zc 62 [zR p0, zR p1, zI a2, zI a3] h =
    zoR (zgR h p0 256) fun r1 =>
    zoI (zaI h r1 ((a2 * (i32 64)) + a3) 0) fun x2 =>
    zr 62 11 [yR p0, yR p1, yI a2, yI a3, yI x2, yI (i32 0)] [] h := U_62 (zst [11]) 35 0 [yR p0, yR p1, yI a2, yI a3, none, none] [] h
set_option maxRecDepth 100000 in
theorem e_Plans_firstShare_11 (p0 : Option Nat) (p1 : Option Nat) (a2 : Int32) (a3 : Int32) (a4 : Int32) (a5 : Int32) (h : zHeap) : zr 62 11 [yR p0, yR p1, yI a2, yI a3, yI a4, yI a5] [] h =
    zoI (zgI h p1 128) fun x1 =>
    zif (decide (x1 ≤ a5))
      (some (zI (i32 6), h))
      (zif (decide (((zshr a3 a5) &&& (i32 1)) ≠ 0))
        (zr 62 11 [yR p0, yR p1, yI a2, yI a3, yI a4, yI (a5 + i32 1)] [] h)
        (zbI (zv 4 59 [zR p0, zI a2, zI a3, zI a5] h) fun x3 h2 =>
        zif (decide (x3 ≠ a4))
          (zr 62 11 [yR p0, yR p1, yI a2, yI a3, yI a4, yI (a5 + i32 1)] [] h2)
          (some (zI a5, h2)))) := U_62 (zst [11]) 35 11 [yR p0, yR p1, yI a2, yI a3, yI a4, yI a5] [] h
/-! 63 Plans_findLost (LReedOracles$Duchy;II)V -/
set_option maxRecDepth 100000 in
theorem e_Plans_findLost (p0 : Option Nat) (p1 : Option Nat) (a2 : Int32) (a3 : Int32) (h : zHeap) : zc 63 [zR p0, zR p1, zI a2, zI a3] h =
    zr 63 2 [yR p0, yR p1, yI a2, yI a3, yI (i32 0), none] [] h := U_63 (zst [2, 13]) 40 0 [yR p0, yR p1, yI a2, yI a3, none, none] [] h
set_option maxRecDepth 100000 in
theorem e_Plans_findLost_2 (p0 : Option Nat) (p1 : Option Nat) (a2 : Int32) (a3 : Int32) (a4 : Int32) (w5 : Option zVal) (h : zHeap) : zr 63 2 [yR p0, yR p1, yI a2, yI a3, yI a4, w5] [] h =
    zoI (zgI h p1 130) fun x1 =>
    zif (decide (x1 ≤ a4))
      (some (zI 0, h))
      (zoR (zgR h p0 259) fun r2 =>
      zoH (zaS h r2 a4 (i32 0)) fun h3 =>
      zr 63 13 [yR p0, yR p1, yI a2, yI a3, yI a4, yI (i32 0)] [] h3) := U_63 (zst [2, 13]) 40 2 [yR p0, yR p1, yI a2, yI a3, yI a4, w5] [] h
set_option maxRecDepth 100000 in
theorem e_Plans_findLost_13 (p0 : Option Nat) (p1 : Option Nat) (a2 : Int32) (a3 : Int32) (a4 : Int32) (a5 : Int32) (h : zHeap) : zr 63 13 [yR p0, yR p1, yI a2, yI a3, yI a4, yI a5] [] h =
    zoI (zgI h p1 130) fun x1 =>
    zif (decide (x1 ≤ a5))
      (zr 63 2 [yR p0, yR p1, yI a2, yI a3, yI (a4 + i32 1), yI a5] [] h)
      (zbI (zv 2 49 [zR p1, zI a2, zI a4, zI a3, zI a5] h) fun x3 h2 =>
      zif (decide (0 < x3))
        (zr 63 13 [yR p0, yR p1, yI a2, yI a3, yI a4, yI (a5 + i32 1)] [] h2)
        (zoR (zgR h2 p0 259) fun r4 =>
        zoI (zaI h2 r4 a4 0) fun x5 =>
        zoH (zaS h2 r4 a4 (x5 ||| (zshl (i32 1) a5))) fun h6 =>
        zr 63 13 [yR p0, yR p1, yI a2, yI a3, yI a4, yI (a5 + i32 1)] [] h6)) := U_63 (zst [2, 13]) 40 13 [yR p0, yR p1, yI a2, yI a3, yI a4, yI a5] [] h
/-! 64 Plans_isLost (II)Z -/
set_option maxRecDepth 100000 in
theorem e_Plans_isLost (p0 : Option Nat) (a1 : Int32) (a2 : Int32) (h : zHeap) : zc 64 [zR p0, zI a1, zI a2] h =
    zbI (zc 325 [zI a1] h) fun x2 h1 =>
    zif (decide ((i32 8) ≤ x2))
      (zrz (i32 1) h1)
      (zoR (zgR h1 p0 259) fun r3 =>
      zoI (zaI h1 r3 x2 0) fun x4 =>
      zif (decide (((zshr x4 a2) &&& (i32 1)) ≠ (i32 1)))
        (zrz (i32 0) h1)
        (zrz (i32 1) h1)) := U_64 (zst []) 21 0 [yR p0, yI a1, yI a2, none] [] h
/-! 65 Plans_play (LReedOracles$Duchy;II)V -/
set_option maxRecDepth 100000 in
theorem e_Plans_play (p0 : Option Nat) (p1 : Option Nat) (a2 : Int32) (a3 : Int32) (h : zHeap) : zc 65 [zR p0, zR p1, zI a2, zI a3] h =
    zbV (zv 4 63 [zR p0, zR p1, zI a2, zI a3] h) fun h1 =>
    zoI (zgI h1 p1 130) fun x2 =>
    zoR (zgR h1 p0 258) fun r3 =>
    zoH (zaS h1 r3 ((zshl (i32 1) x2) - (i32 1)) (i32 0)) fun h4 =>
    zr 65 21 [yR p0, yR p1, yI a2, yI a3, yI ((zshl (i32 1) x2) - (i32 1)), yI (((zshl (i32 1) x2) - (i32 1)) - (i32 1)), none, none] [] h4 := U_65 (zst [21, 27]) 58 0 [yR p0, yR p1, yI a2, yI a3, none, none, none, none] [] h
set_option maxRecDepth 100000 in
theorem e_Plans_play_21 (p0 : Option Nat) (p1 : Option Nat) (a2 : Int32) (a3 : Int32) (a4 : Int32) (a5 : Int32) (w6 : Option zVal) (w7 : Option zVal) (h : zHeap) : zr 65 21 [yR p0, yR p1, yI a2, yI a3, yI a4, yI a5, w6, w7] [] h =
    zif (decide (a5 < 0))
      (some (zI 0, h))
      (zr 65 27 [yR p0, yR p1, yI a2, yI a3, yI a4, yI a5, yI (i32 (-1)), yI (i32 0)] [] h) := U_65 (zst [21, 27]) 58 21 [yR p0, yR p1, yI a2, yI a3, yI a4, yI a5, w6, w7] [] h
set_option maxRecDepth 100000 in
theorem e_Plans_play_27 (p0 : Option Nat) (p1 : Option Nat) (a2 : Int32) (a3 : Int32) (a4 : Int32) (a5 : Int32) (a6 : Int32) (a7 : Int32) (h : zHeap) : zr 65 27 [yR p0, yR p1, yI a2, yI a3, yI a4, yI a5, yI a6, yI a7] [] h =
    zoI (zgI h p1 130) fun x1 =>
    zif (decide (x1 ≤ a7))
      (zoR (zgR h p0 258) fun r2 =>
      zoH (zaS h r2 a5 a6) fun h3 =>
      zr 65 21 [yR p0, yR p1, yI a2, yI a3, yI a4, yI (a5 + i32 (-1)), yI a6, yI a7] [] h3)
      (zif (decide ((i32 1) ≤ a6))
        (zoR (zgR h p0 258) fun r4 =>
        zoH (zaS h r4 a5 a6) fun h5 =>
        zr 65 21 [yR p0, yR p1, yI a2, yI a3, yI a4, yI (a5 + i32 (-1)), yI a6, yI a7] [] h5)
        (zif (decide (((zshr a5 a7) &&& (i32 1)) ≠ 0))
          (zr 65 27 [yR p0, yR p1, yI a2, yI a3, yI a4, yI a5, yI a6, yI (a7 + i32 1)] [] h)
          (zbI (zv 4 66 [zR p0, zI a5, zI a7] h) fun x7 h6 =>
          zr 65 27 [yR p0, yR p1, yI a2, yI a3, yI a4, yI a5, yI (zmax a6 x7), yI (a7 + i32 1)] [] h6))) := U_65 (zst [21, 27]) 58 27 [yR p0, yR p1, yI a2, yI a3, yI a4, yI a5, yI a6, yI a7] [] h
/-! 66 Plans_dareWorth (II)I -/
set_option maxRecDepth 100000 in
theorem e_Plans_dareWorth (p0 : Option Nat) (a1 : Int32) (a2 : Int32) (h : zHeap) : zc 66 [zR p0, zI a1, zI a2] h =
    zbI (zv 4 64 [zR p0, zI a1, zI a2] h) fun x2 h1 =>
    zif (decide (x2 = 0))
      (zoR (zgR h1 p0 258) fun r3 =>
      zoI (zaI h1 r3 (a1 ||| (zshl (i32 1) a2)) 0) fun x4 =>
      some (zI (-x4), h1))
      (some (zI (i32 (-1)), h1)) := U_66 (zst []) 18 0 [yR p0, yI a1, yI a2] [] h
/-! 67 Plans_outcome ()I -/
set_option maxRecDepth 100000 in
theorem e_Plans_outcome (p0 : Option Nat) (h : zHeap) : zc 67 [zR p0] h =
    zoR (zgR h p0 258) fun r1 =>
    zoI (zaI h r1 (i32 0) 0) fun x2 =>
    zif (decide (x2 = i32 0))
      (some (zI (i32 2), h))
      (zif (decide (x2 = i32 1))
      (some (zI (i32 1), h))
      (some (zI (i32 0), h))) := U_67 (zst []) 12 0 [yR p0] [] h
/-! 68 Plans_firstDare (LReedOracles$Duchy;)I -/
set_option maxRecDepth 100000 in
theorem e_Plans_firstDare (p0 : Option Nat) (p1 : Option Nat) (h : zHeap) : zc 68 [zR p0, zR p1] h =
    zr 68 2 [yR p0, yR p1, yI (i32 0)] [] h := U_68 (zst [2]) 22 0 [yR p0, yR p1, none] [] h
set_option maxRecDepth 100000 in
theorem e_Plans_firstDare_2 (p0 : Option Nat) (p1 : Option Nat) (a2 : Int32) (h : zHeap) : zr 68 2 [yR p0, yR p1, yI a2] [] h =
    zoI (zgI h p1 130) fun x1 =>
    zif (decide (x1 ≤ a2))
      (some (zI (i32 (-1)), h))
      (zbI (zv 4 66 [zR p0, zI (i32 0), zI a2] h) fun x3 h2 =>
      zoR (zgR h2 p0 258) fun r4 =>
      zoI (zaI h2 r4 (i32 0) 0) fun x5 =>
      zif (decide (x3 ≠ x5))
        (zr 68 2 [yR p0, yR p1, yI (a2 + i32 1)] [] h2)
        (some (zI a2, h2))) := U_68 (zst [2]) 22 2 [yR p0, yR p1, yI a2] [] h
/-! 69 Plans_compose (LReedOracles$Duchy;II)V -/
set_option maxRecDepth 100000 in
theorem e_Plans_compose (p0 : Option Nat) (p1 : Option Nat) (a2 : Int32) (a3 : Int32) (h : zHeap) : zc 69 [zR p0, zR p1, zI a2, zI a3] h =
    zbV (zv 4 63 [zR p0, zR p1, zI a2, zI a3] h) fun h1 =>
    zoI (zgI h1 p1 130) fun x2 =>
    zoR (zgR h1 p0 258) fun r3 =>
    zoH (zaS h1 r3 ((zshl (i32 1) x2) - (i32 1)) (i32 0)) fun h4 =>
    zr 69 21 [yR p0, yR p1, yI a2, yI a3, yI ((zshl (i32 1) x2) - (i32 1)), yI (((zshl (i32 1) x2) - (i32 1)) - (i32 1)), none, none] [] h4 := U_69 (zst [21, 27]) 55 0 [yR p0, yR p1, yI a2, yI a3, none, none, none, none] [] h
set_option maxRecDepth 100000 in
theorem e_Plans_compose_21 (p0 : Option Nat) (p1 : Option Nat) (a2 : Int32) (a3 : Int32) (a4 : Int32) (a5 : Int32) (w6 : Option zVal) (w7 : Option zVal) (h : zHeap) : zr 69 21 [yR p0, yR p1, yI a2, yI a3, yI a4, yI a5, w6, w7] [] h =
    zif (decide (a5 < 0))
      (some (zI 0, h))
      (zr 69 27 [yR p0, yR p1, yI a2, yI a3, yI a4, yI a5, yI (i32 0), yI (i32 0)] [] h) := U_69 (zst [21, 27]) 55 21 [yR p0, yR p1, yI a2, yI a3, yI a4, yI a5, w6, w7] [] h
set_option maxRecDepth 100000 in
theorem e_Plans_compose_27 (p0 : Option Nat) (p1 : Option Nat) (a2 : Int32) (a3 : Int32) (a4 : Int32) (a5 : Int32) (a6 : Int32) (a7 : Int32) (h : zHeap) : zr 69 27 [yR p0, yR p1, yI a2, yI a3, yI a4, yI a5, yI a6, yI a7] [] h =
    zoI (zgI h p1 130) fun x1 =>
    zif (decide (x1 ≤ a7))
      (zoR (zgR h p0 258) fun r2 =>
      zoH (zaS h r2 a5 a6) fun h3 =>
      zr 69 21 [yR p0, yR p1, yI a2, yI a3, yI a4, yI (a5 + i32 (-1)), yI a6, yI a7] [] h3)
      (zif (decide (((zshr a5 a7) &&& (i32 1)) ≠ 0))
        (zr 69 27 [yR p0, yR p1, yI a2, yI a3, yI a4, yI a5, yI a6, yI (a7 + i32 1)] [] h)
        (zbI (zv 4 70 [zR p0, zI a5, zI a7] h) fun x5 h4 =>
        zr 69 27 [yR p0, yR p1, yI a2, yI a3, yI a4, yI a5, yI (zmax a6 x5), yI (a7 + i32 1)] [] h4)) := U_69 (zst [21, 27]) 55 27 [yR p0, yR p1, yI a2, yI a3, yI a4, yI a5, yI a6, yI a7] [] h
/-! 70 Plans_programWorth (II)I -/
set_option maxRecDepth 100000 in
theorem e_Plans_programWorth (p0 : Option Nat) (a1 : Int32) (a2 : Int32) (h : zHeap) : zc 70 [zR p0, zI a1, zI a2] h =
    zbI (zv 4 64 [zR p0, zI a1, zI a2] h) fun x2 h1 =>
    zif (decide (x2 = 0))
      (zoR (zgR h1 p0 258) fun r3 =>
      zoI (zaI h1 r3 (a1 ||| (zshl (i32 1) a2)) 0) fun x4 =>
      some (zI ((i32 1) + x4), h1))
      (some (zI (i32 0), h1)) := U_70 (zst []) 19 0 [yR p0, yI a1, yI a2] [] h
/-! 71 Plans_longest ()I -/
set_option maxRecDepth 100000 in
theorem e_Plans_longest (p0 : Option Nat) (h : zHeap) : zc 71 [zR p0] h =
    zoR (zgR h p0 258) fun r1 =>
    zoI (zaI h r1 (i32 0) 0) fun x2 =>
    some (zI x2, h) := U_71 (zst []) 6 0 [yR p0] [] h
/-! 72 Plans_programAt (LReedOracles$Duchy;I)I -/
set_option maxRecDepth 100000 in
theorem e_Plans_programAt (p0 : Option Nat) (p1 : Option Nat) (a2 : Int32) (h : zHeap) : zc 72 [zR p0, zR p1, zI a2] h =
    zif (decide (a2 < 0))
      (some (zI (i32 (-1)), h))
      (zoR (zgR h p0 258) fun r1 =>
      zoI (zaI h r1 (i32 0) 0) fun x2 =>
      zif (decide (a2 < x2))
        (zr 72 16 [yR p0, yR p1, yI a2, yI (i32 0), yI (i32 (-1)), yI (i32 0)] [] h)
        (some (zI (i32 (-1)), h))) := U_72 (zst [16]) 40 0 [yR p0, yR p1, yI a2, none, none, none] [] h
set_option maxRecDepth 100000 in
theorem e_Plans_programAt_16 (p0 : Option Nat) (p1 : Option Nat) (a2 : Int32) (a3 : Int32) (a4 : Int32) (a5 : Int32) (h : zHeap) : zr 72 16 [yR p0, yR p1, yI a2, yI a3, yI a4, yI a5] [] h =
    zif (decide (a2 < a5))
      (some (zI a4, h))
      (zbI (zv 4 73 [zR p0, zR p1, zI a3] h) fun x2 h1 =>
      zif (decide (x2 ≠ (i32 (-1))))
        (zr 72 16 [yR p0, yR p1, yI a2, yI (a3 ||| (zshl (i32 1) x2)), yI x2, yI (a5 + i32 1)] [] h1)
        (some (zI (i32 (-1)), h1))) := U_72 (zst [16]) 40 16 [yR p0, yR p1, yI a2, yI a3, yI a4, yI a5] [] h
/-! 73 Plans_firstProgram (LReedOracles$Duchy;I)I -/
set_option maxRecDepth 100000 in
theorem e_Plans_firstProgram (p0 : Option Nat) (p1 : Option Nat) (a2 : Int32) (h : zHeap) : zc 73 [zR p0, zR p1, zI a2] h =
    zr 73 2 [yR p0, yR p1, yI a2, yI (i32 0)] [] h := U_73 (zst [2]) 28 0 [yR p0, yR p1, yI a2, none] [] h
set_option maxRecDepth 100000 in
theorem e_Plans_firstProgram_2 (p0 : Option Nat) (p1 : Option Nat) (a2 : Int32) (a3 : Int32) (h : zHeap) : zr 73 2 [yR p0, yR p1, yI a2, yI a3] [] h =
    zoI (zgI h p1 130) fun x1 =>
    zif (decide (x1 ≤ a3))
      (some (zI (i32 (-1)), h))
      (zif (decide (((zshr a2 a3) &&& (i32 1)) ≠ 0))
        (zr 73 2 [yR p0, yR p1, yI a2, yI (a3 + i32 1)] [] h)
        (zbI (zv 4 70 [zR p0, zI a2, zI a3] h) fun x3 h2 =>
        zoR (zgR h2 p0 258) fun r4 =>
        zoI (zaI h2 r4 a2 0) fun x5 =>
        zif (decide (x3 ≠ x5))
          (zr 73 2 [yR p0, yR p1, yI a2, yI (a3 + i32 1)] [] h2)
          (some (zI a3, h2)))) := U_73 (zst [2]) 28 2 [yR p0, yR p1, yI a2, yI a3] [] h
/-! 74 Reader_init (LReedOracles$Tape;)V -/
set_option maxRecDepth 100000 in
theorem e_Reader_init (p0 : Nat) (p1 : Option Nat) (h : zHeap) : zc 74 [zR (some p0), zR p1] h =
    zoH (zpR h (some p0) 325 p1) fun h1 =>
    zbV (zv 2 33 [zR (some (hN h1))] (znO zTb 2 h1)) fun h2 =>
    zoH (zpR h2 (some p0) 320 (some (hN h1))) fun h3 =>
    zbV (zv 10 144 [zR (some (hN h3))] (znO zTb 10 h3)) fun h4 =>
    zoH (zpR h4 (some p0) 321 (some (hN h3))) fun h5 =>
    zbV (zv 3 52 [zR (some (hN h5))] (znO zTb 3 h5)) fun h6 =>
    zoH (zpR h6 (some p0) 322 (some (hN h5))) fun h7 =>
    zoN (zlen (i32 5)) fun n8 =>
    zoH (zpR (znA 0 n8 h7) (some p0) 326 (some (hN h7))) fun h9 =>
    some (zI 0, h9) := U_74 (zst []) 26 0 [yR (some p0), yR p1] [] h
/-! 75 Reader_read (I)V -/
set_option maxRecDepth 100000 in
theorem e_Reader_read (p0 : Option Nat) (a1 : Int32) (h : zHeap) : zc 75 [zR p0, zI a1] h =
    zoR (zgR h p0 320) fun r1 =>
    zbV (zv 2 34 [zR r1] h) fun h2 =>
    zoR (zgR h2 p0 321) fun r3 =>
    zoH (zpI h2 r3 640 (i32 0)) fun h4 =>
    zoR (zgR h4 p0 322) fun r5 =>
    zoH (zpI h4 r5 192 (i32 0)) fun h6 =>
    zoH (zpI h6 p0 323 (i32 0)) fun h7 =>
    zoH (zpI h7 p0 324 (i32 (-1))) fun h8 =>
    zoH (zpI h8 p0 327 (i32 0)) fun h9 =>
    zbV (zv 5 87 [zR p0] h9) fun h10 =>
    zr 75 24 [yR p0, yI a1, yI (i32 0)] [] h10 := U_75 (zst [24]) 47 0 [yR p0, yI a1, none] [] h
set_option maxRecDepth 100000 in
theorem e_Reader_read_24 (p0 : Option Nat) (a1 : Int32) (a2 : Int32) (h : zHeap) : zr 75 24 [yR p0, yI a1, yI a2] [] h =
    zif (decide ((i32 600) ≤ a2))
      (some (zI 0, h))
      (zoI (zgI h p0 329) fun x1 =>
      zif (decide (x1 = (i32 3)))
        (some (zI 0, h))
        (zbI (zv 5 76 [zR p0, zI a1] h) fun x3 h2 =>
        zif (decide (x3 ≠ 0))
          (zr 75 24 [yR p0, yI a1, yI (a2 + i32 1)] [] h2)
          (zoH (zpI h2 p0 323 (i32 1)) fun h4 =>
          zoI (zgI h4 p0 328) fun x5 =>
          zoH (zpI h4 p0 324 x5) fun h6 =>
          some (zI 0, h6)))) := U_75 (zst [24]) 47 24 [yR p0, yI a1, yI a2] [] h
/-! 76 Reader_readLine (I)Z -/
set_option maxRecDepth 100000 in
theorem e_Reader_readLine (p0 : Option Nat) (a1 : Int32) (h : zHeap) : zc 76 [zR p0, zI a1] h =
    zoI (zgI h p0 329) fun x1 =>
    zif (decide (x1 ≠ 0))
      (zif (decide ((i32 (-1)) ≠ (i32 (-1))))
        (zbI (zv 5 78 [zR p0, zI (i32 (-1))] h) fun x3 h2 =>
        zif (decide (x3 = 0))
          (zbV (zv 5 87 [zR p0] h2) fun h4 =>
          zr 76 25 [yR p0, yI a1, yI (i32 (-1)), yI (i32 0)] [] h4)
          (zbV (zv 5 77 [zR p0, zI (i32 3)] h2) fun h5 =>
          zbV (zv 5 87 [zR p0] h5) fun h6 =>
          zr 76 25 [yR p0, yI a1, yI (i32 (-1)), yI (i32 0)] [] h6))
        (zrz (i32 0) h))
      (zbI (zv 5 81 [zR p0, zI a1] h) fun x8 h7 =>
      zif (decide (x8 ≠ (i32 (-1))))
        (zbI (zv 5 78 [zR p0, zI x8] h7) fun x10 h9 =>
        zif (decide (x10 = 0))
          (zbV (zv 5 87 [zR p0] h9) fun h11 =>
          zr 76 25 [yR p0, yI a1, yI x8, yI (i32 0)] [] h11)
          (zbV (zv 5 77 [zR p0, zI (i32 3)] h9) fun h12 =>
          zbV (zv 5 87 [zR p0] h12) fun h13 =>
          zr 76 25 [yR p0, yI a1, yI x8, yI (i32 0)] [] h13))
        (zrz (i32 0) h7)) := U_76 (zst [25]) 92 0 [yR p0, yI a1, none, none] [] h
set_option maxRecDepth 100000 in
theorem e_Reader_readLine_25 (p0 : Option Nat) (a1 : Int32) (a2 : Int32) (a3 : Int32) (h : zHeap) : zr 76 25 [yR p0, yI a1, yI a2, yI a3] [] h =
    zoI (zaI h (some 1000002) a2 0) fun x1 =>
    zif (decide (x1 ≤ a3))
      (zif (decide (a2 ≠ (i32 4)))
        (zoI (zgI h p0 329) fun x2 =>
        zif (decide (x2 = (i32 2)))
          (zoI (zgI h p0 323) fun x3 =>
          zif (decide (x3 ≠ 0))
            (zbV (zv 5 87 [zR p0] h) fun h4 =>
            zrz (i32 1) h4)
            (zbV (zv 5 80 [zR p0, zI a2, zI (i32 (-1))] h) fun h5 =>
            zbV (zv 5 87 [zR p0] h5) fun h6 =>
            zrz (i32 1) h6))
          (zrz (i32 0) h))
        (zoI (zgI h p0 329) fun x7 =>
        zif (decide (x7 ≠ 0))
          (zif (decide ((i32 (-1)) ≠ (i32 (-1))))
            (zbV (zv 5 87 [zR p0] h) fun h8 =>
            zoI (zgI h8 p0 329) fun x9 =>
            zif (decide (x9 = (i32 2)))
              (zoI (zgI h8 p0 323) fun x10 =>
              zif (decide (x10 ≠ 0))
                (zbV (zv 5 87 [zR p0] h8) fun h11 =>
                zrz (i32 1) h11)
                (zbV (zv 5 80 [zR p0, zI a2, zI (i32 (-1))] h8) fun h12 =>
                zbV (zv 5 87 [zR p0] h12) fun h13 =>
                zrz (i32 1) h13))
              (zrz (i32 0) h8))
            (zrz (i32 0) h))
          (zbI (zv 5 85 [zR p0] h) fun x15 h14 =>
          zif (decide (x15 ≠ (i32 (-1))))
            (zbV (zv 5 87 [zR p0] h14) fun h16 =>
            zoI (zgI h16 p0 329) fun x17 =>
            zif (decide (x17 = (i32 2)))
              (zoI (zgI h16 p0 323) fun x18 =>
              zif (decide (x18 ≠ 0))
                (zbV (zv 5 87 [zR p0] h16) fun h19 =>
                zrz (i32 1) h19)
                (zbV (zv 5 80 [zR p0, zI a2, zI x15] h16) fun h20 =>
                zbV (zv 5 87 [zR p0] h20) fun h21 =>
                zrz (i32 1) h21))
              (zrz (i32 0) h16))
            (zrz (i32 0) h14))))
      (zoI (zgI h p0 329) fun x22 =>
      zif (decide (x22 = (i32 1)))
        (zoR (zgR h p0 326) fun r23 =>
        zoI (zgI h p0 330) fun x24 =>
        zoH (zaS h r23 a3 x24) fun h25 =>
        zbI (zv 5 79 [zR p0, zI a2, zI a3] h25) fun x27 h26 =>
        zif (decide (x27 ≠ 0))
          (zbV (zv 5 87 [zR p0] h26) fun h28 =>
          zr 76 25 [yR p0, yI a1, yI a2, yI (a3 + i32 1)] [] h28)
          (zbV (zv 5 77 [zR p0, zI (i32 2)] h26) fun h29 =>
          zbV (zv 5 87 [zR p0] h29) fun h30 =>
          zr 76 25 [yR p0, yI a1, yI a2, yI (a3 + i32 1)] [] h30))
        (zrz (i32 0) h)) := U_76 (zst [25]) 92 25 [yR p0, yI a1, yI a2, yI a3] [] h
/-! 77 Reader_blame (I)V -/
set_option maxRecDepth 100000 in
theorem e_Reader_blame (p0 : Option Nat) (a1 : Int32) (h : zHeap) : zc 77 [zR p0, zI a1] h =
    zoI (zgI h p0 323) fun x1 =>
    zif (decide (x1 ≠ 0))
      (some (zI 0, h))
      (zoH (zpI h p0 323 a1) fun h2 =>
      zoI (zgI h2 p0 328) fun x3 =>
      zoH (zpI h2 p0 324 x3) fun h4 =>
      some (zI 0, h4)) := U_77 (zst []) 12 0 [yR p0, yI a1] [] h
/-! 78 Reader_isFull (I)Z -/
set_option maxRecDepth 100000 in
theorem e_Reader_isFull (p0 : Option Nat) (a1 : Int32) (h : zHeap) : zc 78 [zR p0, zI a1] h =
    zif (decide (a1 = i32 0))
      (zoR (zgR h p0 320) fun r1 =>
      zoI (zgI h r1 128) fun x2 =>
      zif (decide (x2 < (i32 6)))
        (zrz (i32 0) h)
        (zrz (i32 1) h))
      (zif (decide (a1 = i32 1))
      (zoR (zgR h p0 320) fun r3 =>
      zoI (zgI h r3 129) fun x4 =>
      zif (decide (x4 < (i32 4)))
        (zrz (i32 0) h)
        (zrz (i32 1) h))
      (zif (decide (a1 = i32 2))
      (zoR (zgR h p0 320) fun r5 =>
      zoI (zgI h r5 130) fun x6 =>
      zif (decide (x6 < (i32 8)))
        (zrz (i32 0) h)
        (zrz (i32 1) h))
      (zif (decide (a1 = i32 3))
      (zrz (i32 0) h)
      (zif (decide (a1 = i32 4))
      (zrz (i32 0) h)
      (zif (decide (a1 = i32 5))
      (zoR (zgR h p0 321) fun r7 =>
      zoI (zgI h r7 640) fun x8 =>
      zif (decide (x8 < (i32 40)))
        (zrz (i32 0) h)
        (zrz (i32 1) h))
      (zif (decide (a1 = i32 6))
      (zoR (zgR h p0 321) fun r9 =>
      zoI (zgI h r9 640) fun x10 =>
      zif (decide (x10 < (i32 40)))
        (zrz (i32 0) h)
        (zrz (i32 1) h))
      (zif (decide (a1 = i32 7))
      (zoR (zgR h p0 321) fun r11 =>
      zoI (zgI h r11 640) fun x12 =>
      zif (decide (x12 < (i32 40)))
        (zrz (i32 0) h)
        (zrz (i32 1) h))
      (zif (decide (a1 = i32 8))
      (zoR (zgR h p0 321) fun r13 =>
      zoI (zgI h r13 640) fun x14 =>
      zif (decide (x14 < (i32 40)))
        (zrz (i32 0) h)
        (zrz (i32 1) h))
      (zif (decide (a1 = i32 9))
      (zoR (zgR h p0 321) fun r15 =>
      zoI (zgI h r15 640) fun x16 =>
      zif (decide (x16 < (i32 40)))
        (zrz (i32 0) h)
        (zrz (i32 1) h))
      (zif (decide (a1 = i32 10))
      (zoR (zgR h p0 321) fun r17 =>
      zoI (zgI h r17 640) fun x18 =>
      zif (decide (x18 < (i32 40)))
        (zrz (i32 0) h)
        (zrz (i32 1) h))
      (zif (decide (a1 = i32 11))
      (zoR (zgR h p0 322) fun r19 =>
      zoI (zgI h r19 192) fun x20 =>
      zif (decide (x20 < (i32 8)))
        (zrz (i32 0) h)
        (zrz (i32 1) h))
      (zif (decide (a1 = i32 12))
      (zoR (zgR h p0 322) fun r21 =>
      zoI (zgI h r21 192) fun x22 =>
      zif (decide (x22 < (i32 8)))
        (zrz (i32 0) h)
        (zrz (i32 1) h))
      (zoR (zgR h p0 321) fun r23 =>
      zoI (zgI h r23 640) fun x24 =>
      zif (decide (x24 < (i32 40)))
        (zrz (i32 0) h)
        (zrz (i32 1) h)))))))))))))) := U_78 (zst []) 61 0 [yR p0, yI a1] [] h
/-! 79 Reader_canBe (II)Z -/
set_option maxRecDepth 100000 in
theorem e_Reader_canBe (p0 : Option Nat) (a1 : Int32) (a2 : Int32) (h : zHeap) : zc 79 [zR p0, zI a1, zI a2] h =
    zif (decide (a2 ≠ 0))
      (zr 79 7 [yR p0, yI a1, yI a2, none, none] [zI (i32 0)] h)
      (zoI (zaI h (some 1000003) a1 0) fun x1 =>
      zr 79 7 [yR p0, yI a1, yI a2, none, none] [zI x1] h) := U_79 (zst [7]) 59 0 [yR p0, yI a1, yI a2, none, none] [] h
set_option maxRecDepth 100000 in
theorem e_Reader_canBe_7 (p0 : Option Nat) (a1 : Int32) (a2 : Int32) (s0 : Int32) (h : zHeap) : zr 79 7 [yR p0, yI a1, yI a2, none, none] [zI s0] h =
    zoR (zgR h p0 326) fun r1 =>
    zoI (zaI h r1 a2 0) fun x2 =>
    zif (decide (x2 < s0))
      (zrz (i32 0) h)
      (zoR (zgR h p0 326) fun r3 =>
      zoI (zaI h r3 a2 0) fun x4 =>
      zoI (zaI h (some 1000004) ((a1 * (i32 5)) + a2) 0) fun x5 =>
      zif (decide (x4 ≤ x5))
        (zif (decide (a1 ≠ (i32 6)))
          (zif (decide ((i32 0) = 0))
            (zrz (i32 1) h)
            (zoR (zgR h p0 326) fun r6 =>
            zoI (zaI h r6 a2 0) fun x7 =>
            zoR (zgR h p0 326) fun r8 =>
            zoI (zaI h r8 (a2 - (i32 1)) 0) fun x9 =>
            zif (decide (x7 = x9))
              (zrz (i32 0) h)
              (zrz (i32 1) h)))
          (zif (decide (a2 = (i32 1)))
            (zif (decide ((i32 1) = 0))
              (zrz (i32 1) h)
              (zoR (zgR h p0 326) fun r10 =>
              zoI (zaI h r10 a2 0) fun x11 =>
              zoR (zgR h p0 326) fun r12 =>
              zoI (zaI h r12 (a2 - (i32 1)) 0) fun x13 =>
              zif (decide (x11 = x13))
                (zrz (i32 0) h)
                (zrz (i32 1) h)))
            (zif (decide (a2 ≠ (i32 3)))
              (zif (decide ((i32 0) = 0))
                (zrz (i32 1) h)
                (zoR (zgR h p0 326) fun r14 =>
                zoI (zaI h r14 a2 0) fun x15 =>
                zoR (zgR h p0 326) fun r16 =>
                zoI (zaI h r16 (a2 - (i32 1)) 0) fun x17 =>
                zif (decide (x15 = x17))
                  (zrz (i32 0) h)
                  (zrz (i32 1) h)))
              (zif (decide ((i32 1) = 0))
                (zrz (i32 1) h)
                (zoR (zgR h p0 326) fun r18 =>
                zoI (zaI h r18 a2 0) fun x19 =>
                zoR (zgR h p0 326) fun r20 =>
                zoI (zaI h r20 (a2 - (i32 1)) 0) fun x21 =>
                zif (decide (x19 = x21))
                  (zrz (i32 0) h)
                  (zrz (i32 1) h))))))
        (zrz (i32 0) h)) := U_79 (zst [7]) 59 7 [yR p0, yI a1, yI a2, none, none] [zI s0] h
/-! 80 Reader_keep (II)V -/
set_option maxRecDepth 100000 in
theorem e_Reader_keep (p0 : Option Nat) (a1 : Int32) (a2 : Int32) (h : zHeap) : zc 80 [zR p0, zI a1, zI a2] h =
    zif (decide (a1 = i32 0))
      (zoR (zgR h p0 320) fun r1 =>
      zoR (zgR h p0 326) fun r2 =>
      zoI (zaI h r2 (i32 0) 0) fun x3 =>
      zoR (zgR h p0 326) fun r4 =>
      zoI (zaI h r4 (i32 1) 0) fun x5 =>
      zbV (zv 2 36 [zR r1, zI x3, zI x5] h) fun h6 =>
      some (zI 0, h6))
      (zif (decide (a1 = i32 1))
      (zoR (zgR h p0 320) fun r7 =>
      zoR (zgR h p0 326) fun r8 =>
      zoI (zaI h r8 (i32 0) 0) fun x9 =>
      zbV (zv 2 37 [zR r7, zI x9] h) fun h10 =>
      some (zI 0, h10))
      (zif (decide (a1 = i32 2))
      (zoR (zgR h p0 320) fun r11 =>
      zoR (zgR h p0 326) fun r12 =>
      zoI (zaI h r12 (i32 0) 0) fun x13 =>
      zoR (zgR h p0 326) fun r14 =>
      zoI (zaI h r14 (i32 1) 0) fun x15 =>
      zbV (zv 2 38 [zR r11, zI x13, zI x15] h) fun h16 =>
      some (zI 0, h16))
      (zif (decide (a1 = i32 3))
      (zoR (zgR h p0 320) fun r17 =>
      zoR (zgR h p0 326) fun r18 =>
      zoI (zaI h r18 (i32 0) 0) fun x19 =>
      zoH (zpI h r17 131 x19) fun h20 =>
      some (zI 0, h20))
      (zif (decide (a1 = i32 4))
      (zoR (zgR h p0 320) fun r21 =>
      zoR (zgR h r21 137) fun r22 =>
      zoR (zgR h p0 326) fun r23 =>
      zoI (zaI h r23 (i32 0) 0) fun x24 =>
      zoH (zaS h r22 x24 a2) fun h25 =>
      some (zI 0, h25))
      (zif (decide (a1 = i32 5))
      (zr 80 81 [yR p0, yI a1, yI a2] [] h)
      (zif (decide (a1 = i32 6))
      (zr 80 81 [yR p0, yI a1, yI a2] [] h)
      (zif (decide (a1 = i32 7))
      (zr 80 81 [yR p0, yI a1, yI a2] [] h)
      (zif (decide (a1 = i32 8))
      (zr 80 81 [yR p0, yI a1, yI a2] [] h)
      (zif (decide (a1 = i32 9))
      (zr 80 81 [yR p0, yI a1, yI a2] [] h)
      (zif (decide (a1 = i32 10))
      (zr 80 81 [yR p0, yI a1, yI a2] [] h)
      (zif (decide (a1 = i32 11))
      (zoR (zgR h p0 322) fun r26 =>
      zoR (zgR h p0 326) fun r27 =>
      zoI (zaI h r27 (i32 0) 0) fun x28 =>
      zoR (zgR h p0 326) fun r29 =>
      zoI (zaI h r29 (i32 1) 0) fun x30 =>
      zoR (zgR h p0 326) fun r31 =>
      zoI (zaI h r31 (i32 2) 0) fun x32 =>
      zbV (zv 3 54 [zR r26, zI x28, zI x30, zI x32] h) fun h33 =>
      some (zI 0, h33))
      (zif (decide (a1 = i32 12))
      (zoR (zgR h p0 322) fun r34 =>
      zoR (zgR h p0 326) fun r35 =>
      zoI (zaI h r35 (i32 0) 0) fun x36 =>
      zoR (zgR h p0 326) fun r37 =>
      zoI (zaI h r37 (i32 1) 0) fun x38 =>
      zbV (zv 3 54 [zR r34, zI x36, zI x38, zI (i32 (-1))] h) fun h39 =>
      some (zI 0, h39))
      (zr 80 81 [yR p0, yI a1, yI a2] [] h))))))))))))) := U_80 (zst [81]) 94 0 [yR p0, yI a1, yI a2] [] h
set_option maxRecDepth 100000 in
theorem e_Reader_keep_81 (p0 : Option Nat) (a1 : Int32) (a2 : Int32) (h : zHeap) : zr 80 81 [yR p0, yI a1, yI a2] [] h =
    zoR (zgR h p0 321) fun r1 =>
    zoR (zgR h p0 326) fun r2 =>
    zoI (zaI h (some 1000002) a1 0) fun x3 =>
    zbV (zv 10 146 [zR r1, zI (a1 - (i32 5)), zR r2, zI x3] h) fun h4 =>
    some (zI 0, h4) := U_80 (zst [81]) 94 81 [yR p0, yI a1, yI a2] [] h
