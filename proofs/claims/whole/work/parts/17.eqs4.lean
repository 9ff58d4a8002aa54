/-! 292 Model_asks (III)Z -/
set_option maxRecDepth 100000 in
theorem e_Model_asks (p0 : Option Nat) (a1 : Int32) (a2 : Int32) (a3 : Int32) (h : zHeap) : zc 292 [zR p0, zI a1, zI a2, zI a3] h =
    zbI (zv 12 289 [zR p0, zI a1] h) fun x2 h1 =>
    zif (decide (x2 = 0))
      (zrz (i32 0) h1)
      (zbI (zv 12 290 [zR p0, zI a2] h1) fun x4 h3 =>
      zif (decide (x4 = 0))
        (zrz (i32 0) h3)
        (zbI (zv 12 229 [zR p0, zI a3] h3) fun x6 h5 =>
        zif (decide (x6 ≠ 0))
          (zbI (zv 12 291 [zR p0, zI a1, zI a2, zI a3] h5) fun x8 h7 =>
          zoH (zpI h7 p0 800 x8) fun h9 =>
          zoI (zgI h9 p0 800) fun x10 =>
          zbI (zv 12 238 [zR p0, zI x10] h9) fun x12 h11 =>
          zoI (zgI h11 p0 798) fun x13 =>
          zoI (zgI h11 p0 800) fun x14 =>
          zif (decide (x14 ≠ (i32 (-1))))
            (zr 292 36 [yR p0, yI a1, yI a2, yI a3, yI x12] [zI (i32 0), zI x13, zR p0] h11)
            (zr 292 36 [yR p0, yI a1, yI a2, yI a3, yI x12] [zI (i32 1), zI x13, zR p0] h11))
          (zrz (i32 0) h5))) := U_292 (zst [36]) 82 0 [yR p0, yI a1, yI a2, yI a3, none] [] h
set_option maxRecDepth 100000 in
theorem e_Model_asks_36 (p0 : Option Nat) (a1 : Int32) (a2 : Int32) (a3 : Int32) (a4 : Int32) (q0 : Option Nat) (s1 : Int32) (s2 : Int32) (h : zHeap) : zr 292 36 [yR p0, yI a1, yI a2, yI a3, yI a4] [zI s2, zI s1, zR q0] h =
    zoH (zpI h q0 798 (s1 + s2)) fun h1 =>
    zoI (zgI h1 p0 795) fun x2 =>
    zoI (zgI h1 p0 800) fun x3 =>
    zif (decide (x3 ≠ 0))
      (zoH (zpI h1 p0 795 (x2 + (i32 0))) fun h4 =>
      zbI (zc 200 [zI a4, zI (i32 0), zI (i32 1)] h4) fun x6 h5 =>
      zif (decide (x6 ≠ 0))
        (zoI (zgI h5 p0 794) fun x7 =>
        zoR (zgR h5 p0 805) fun r8 =>
        zoI (zaI h5 r8 a3 0) fun x9 =>
        zif (decide (x9 ≠ ((i32 1) - a4)))
          (zoH (zpI h5 p0 794 (x7 ||| (i32 0))) fun h10 =>
          zoR (zgR h10 p0 805) fun r11 =>
          zoH (zaS h10 r11 a3 a4) fun h12 =>
          zrz (i32 1) h12)
          (zoH (zpI h5 p0 794 (x7 ||| (zshl (i32 1) a1))) fun h13 =>
          zoR (zgR h13 p0 805) fun r14 =>
          zoH (zaS h13 r14 a3 a4) fun h15 =>
          zrz (i32 1) h15))
        (zrz (i32 1) h5))
      (zoH (zpI h1 p0 795 (x2 + (i32 1))) fun h16 =>
      zbI (zc 200 [zI a4, zI (i32 0), zI (i32 1)] h16) fun x18 h17 =>
      zif (decide (x18 ≠ 0))
        (zoI (zgI h17 p0 794) fun x19 =>
        zoR (zgR h17 p0 805) fun r20 =>
        zoI (zaI h17 r20 a3 0) fun x21 =>
        zif (decide (x21 ≠ ((i32 1) - a4)))
          (zoH (zpI h17 p0 794 (x19 ||| (i32 0))) fun h22 =>
          zoR (zgR h22 p0 805) fun r23 =>
          zoH (zaS h22 r23 a3 a4) fun h24 =>
          zrz (i32 1) h24)
          (zoH (zpI h17 p0 794 (x19 ||| (zshl (i32 1) a1))) fun h25 =>
          zoR (zgR h25 p0 805) fun r26 =>
          zoH (zaS h25 r26 a3 a4) fun h27 =>
          zrz (i32 1) h27))
        (zrz (i32 1) h17)) := U_292 (zst [36]) 82 36 [yR p0, yI a1, yI a2, yI a3, yI a4] [zI s2, zI s1, zR q0] h
/-! 293 Model_duets (IIIII)Z -/
set_option maxRecDepth 100000 in
theorem e_Model_duets (p0 : Option Nat) (a1 : Int32) (a2 : Int32) (a3 : Int32) (a4 : Int32) (a5 : Int32) (h : zHeap) : zc 293 [zR p0, zI a1, zI a2, zI a3, zI a4, zI a5] h =
    zbI (zv 12 289 [zR p0, zI a1] h) fun x2 h1 =>
    zif (decide (x2 = 0))
      (zrz (i32 0) h1)
      (zbI (zv 12 289 [zR p0, zI a2] h1) fun x4 h3 =>
      zif (decide (x4 = 0))
        (zrz (i32 0) h3)
        (zif (decide (a1 = a2))
          (zrz (i32 0) h3)
          (zif (decide (a3 = a4))
            (zrz (i32 0) h3)
            (zbI (zv 12 290 [zR p0, zI a3] h3) fun x6 h5 =>
            zif (decide (x6 = 0))
              (zrz (i32 0) h5)
              (zbI (zv 12 290 [zR p0, zI a4] h5) fun x8 h7 =>
              zif (decide (x8 = 0))
                (zrz (i32 0) h7)
                (zbI (zv 12 229 [zR p0, zI a5] h7) fun x10 h9 =>
                zif (decide (x10 ≠ 0))
                  (zbI (zv 12 291 [zR p0, zI a1, zI a3, zI a5] h9) fun x12 h11 =>
                  zbI (zv 12 238 [zR p0, zI x12] h11) fun x14 h13 =>
                  zbI (zv 12 291 [zR p0, zI a2, zI a4, zI a5] h13) fun x16 h15 =>
                  zbI (zv 12 238 [zR p0, zI x16] h15) fun x18 h17 =>
                  zoI (zgI h17 p0 796) fun x19 =>
                  zif (decide (x14 = (i32 (-1))))
                    (zr 293 55 [yR p0, yI a1, yI a2, yI a3, yI a4, yI a5, yI x14, yI x18] [zI x19, zR p0] h17)
                    (zif (decide (x14 ≠ x18))
                      (zr 293 55 [yR p0, yI a1, yI a2, yI a3, yI a4, yI a5, yI x14, yI x18] [zI x19, zR p0] h17)
                      (zoH (zpI h17 p0 796 (x19 + (i32 1))) fun h20 =>
                      zoI (zgI h20 p0 797) fun x21 =>
                      zbI (zc 200 [zI x14, zI (i32 0), zI (i32 1)] h20) fun x23 h22 =>
                      zif (decide (x23 = 0))
                        (zoH (zpI h22 p0 797 (x21 + (i32 0))) fun h24 =>
                        zrz (i32 1) h24)
                        (zif (decide (x18 ≠ ((i32 1) - x14)))
                          (zoH (zpI h22 p0 797 (x21 + (i32 0))) fun h25 =>
                          zrz (i32 1) h25)
                          (zoH (zpI h22 p0 797 (x21 + (i32 1))) fun h26 =>
                          zrz (i32 1) h26)))))
                  (zrz (i32 0) h9))))))) := U_293 (zst [55]) 79 0 [yR p0, yI a1, yI a2, yI a3, yI a4, yI a5, none, none] [] h
set_option maxRecDepth 100000 in
theorem e_Model_duets_55 (p0 : Option Nat) (a1 : Int32) (a2 : Int32) (a3 : Int32) (a4 : Int32) (a5 : Int32) (a6 : Int32) (a7 : Int32) (q0 : Option Nat) (s1 : Int32) (h : zHeap) : zr 293 55 [yR p0, yI a1, yI a2, yI a3, yI a4, yI a5, yI a6, yI a7] [zI s1, zR q0] h =
    zoH (zpI h q0 796 (s1 + (i32 0))) fun h1 =>
    zoI (zgI h1 p0 797) fun x2 =>
    zbI (zc 200 [zI a6, zI (i32 0), zI (i32 1)] h1) fun x4 h3 =>
    zif (decide (x4 = 0))
      (zoH (zpI h3 p0 797 (x2 + (i32 0))) fun h5 =>
      zrz (i32 1) h5)
      (zif (decide (a7 ≠ ((i32 1) - a6)))
        (zoH (zpI h3 p0 797 (x2 + (i32 0))) fun h6 =>
        zrz (i32 1) h6)
        (zoH (zpI h3 p0 797 (x2 + (i32 1))) fun h7 =>
        zrz (i32 1) h7)) := U_293 (zst [55]) 79 55 [yR p0, yI a1, yI a2, yI a3, yI a4, yI a5, yI a6, yI a7] [zI s1, zR q0] h
/-! 294 Model_treats (IZ)Z -/
set_option maxRecDepth 100000 in
theorem e_Model_treats (p0 : Option Nat) (a1 : Int32) (a2 : Int32) (h : zHeap) : zc 294 [zR p0, zI a1, zI a2] h =
    zbI (zv 12 289 [zR p0, zI a1] h) fun x2 h1 =>
    zif (decide (x2 ≠ 0))
      (zif (decide (a2 = 0))
        (zoR (zgR h1 p0 802) fun r3 =>
        zoR (zgR h1 p0 802) fun r4 =>
        zoI (zaI h1 r4 a1 0) fun x5 =>
        zif (decide (x5 ≤ (i32 6)))
          (zoR (zgR h1 p0 802) fun r6 =>
          zoI (zaI h1 r6 a1 0) fun x7 =>
          zoH (zaS h1 r3 a1 (x7 + (i32 3))) fun h8 =>
          zrz (i32 1) h8)
          (zoH (zaS h1 r3 a1 (i32 9)) fun h9 =>
          zrz (i32 1) h9))
        (zoR (zgR h1 p0 803) fun r10 =>
        zoR (zgR h1 p0 803) fun r11 =>
        zoI (zaI h1 r11 a1 0) fun x12 =>
        zoI (if (i32 8) = 0 then none else some (zrem (x12 + (i32 1)) (i32 8))) fun x13 =>
        zoH (zaS h1 r10 a1 x13) fun h14 =>
        zrz (i32 1) h14))
      (zrz (i32 0) h1) := U_294 (zst []) 42 0 [yR p0, yI a1, yI a2] [] h
/-! 295 Model_sleeps ()Z -/
set_option maxRecDepth 100000 in
theorem e_Model_sleeps (p0 : Option Nat) (h : zHeap) : zc 295 [zR p0] h =
    zoI (zgI h p0 793) fun x1 =>
    zif (decide (x1 ≠ (i32 99)))
      (zoI (zgI h p0 793) fun x2 =>
      zoH (zpI h p0 793 (x2 + (i32 1))) fun h3 =>
      zr 295 14 [yR p0, yI (i32 0)] [] h3)
      (zrz (i32 0) h) := U_295 (zst [14, 37]) 50 0 [yR p0, none] [] h
set_option maxRecDepth 100000 in
theorem e_Model_sleeps_14 (p0 : Option Nat) (a1 : Int32) (h : zHeap) : zr 295 14 [yR p0, yI a1] [] h =
    zoI (zgI h p0 779) fun x1 =>
    zif (decide (x1 ≤ a1))
      (zr 295 37 [yR p0, yI (i32 0)] [] h)
      (zoR (zgR h p0 802) fun r2 =>
      zoI (zaI h r2 a1 0) fun x3 =>
      zoR (zgR h p0 802) fun r4 =>
      zoI (zaI h r4 a1 0) fun x5 =>
      zif (decide (x5 ≤ 0))
        (zoH (zaS h r2 a1 (x3 - (i32 0))) fun h6 =>
        zr 295 14 [yR p0, yI (a1 + i32 1)] [] h6)
        (zoH (zaS h r2 a1 (x3 - (i32 1))) fun h7 =>
        zr 295 14 [yR p0, yI (a1 + i32 1)] [] h7)) := U_295 (zst [14, 37]) 50 14 [yR p0, yI a1] [] h
set_option maxRecDepth 100000 in
theorem e_Model_sleeps_37 (p0 : Option Nat) (a1 : Int32) (h : zHeap) : zr 295 37 [yR p0, yI a1] [] h =
    zif (decide ((i32 4) ≤ a1))
      (zrz (i32 1) h)
      (zoR (zgR h p0 804) fun r1 =>
      zoH (zaS h r1 a1 (i32 0)) fun h2 =>
      zr 295 37 [yR p0, yI (a1 + i32 1)] [] h2) := U_295 (zst [14, 37]) 50 37 [yR p0, yI a1] [] h
/-! 296 Model_does (IIIIII)Z -/
set_option maxRecDepth 100000 in
theorem e_Model_does (p0 : Option Nat) (a1 : Int32) (a2 : Int32) (a3 : Int32) (a4 : Int32) (a5 : Int32) (a6 : Int32) (h : zHeap) : zc 296 [zR p0, zI a1, zI a2, zI a3, zI a4, zI a5, zI a6] h =
    zif (decide (a1 = i32 0))
      (zbI (zv 12 292 [zR p0, zI a2, zI a3, zI a4] h) fun x2 h1 =>
      zrz x2 h1)
      (zif (decide (a1 = i32 1))
      (zbI (zv 12 293 [zR p0, zI a2, zI a3, zI a4, zI a5, zI a6] h) fun x4 h3 =>
      zrz x4 h3)
      (zif (decide (a1 = i32 2))
      (zif (decide (a1 ≠ (i32 3)))
        (zbI (zv 12 294 [zR p0, zI a2, zI (i32 0)] h) fun x6 h5 =>
        zrz x6 h5)
        (zbI (zv 12 294 [zR p0, zI a2, zI (i32 1)] h) fun x8 h7 =>
        zrz x8 h7))
      (zif (decide (a1 = i32 3))
      (zif (decide (a1 ≠ (i32 3)))
        (zbI (zv 12 294 [zR p0, zI a2, zI (i32 0)] h) fun x10 h9 =>
        zrz x10 h9)
        (zbI (zv 12 294 [zR p0, zI a2, zI (i32 1)] h) fun x12 h11 =>
        zrz x12 h11))
      (zif (decide (a1 = i32 4))
      (zoH (zpI h p0 799 a2) fun h13 =>
      zrz (i32 1) h13)
      (zbI (zv 12 295 [zR p0] h) fun x15 h14 =>
      zrz x15 h14))))) := U_296 (zst []) 35 0 [yR p0, yI a1, yI a2, yI a3, yI a4, yI a5, yI a6] [] h
/-! 297 Model_doesTold (I)Z -/
set_option maxRecDepth 100000 in
theorem e_Model_doesTold (p0 : Option Nat) (a1 : Int32) (h : zHeap) : zc 297 [zR p0, zI a1] h =
    zoI (zgI h p0 792) fun x1 =>
    zoR (zgR h p0 768) fun r2 =>
    zoI (zaI h r2 ((x1 + (i32 1)) + ((i32 6) * a1)) 0) fun x3 =>
    zoR (zgR h p0 768) fun r4 =>
    zoI (zaI h r4 (((x1 + (i32 1)) + ((i32 6) * a1)) + (i32 1)) 0) fun x5 =>
    zoR (zgR h p0 768) fun r6 =>
    zoI (zaI h r6 (((x1 + (i32 1)) + ((i32 6) * a1)) + (i32 2)) 0) fun x7 =>
    zoR (zgR h p0 768) fun r8 =>
    zoI (zaI h r8 (((x1 + (i32 1)) + ((i32 6) * a1)) + (i32 3)) 0) fun x9 =>
    zoR (zgR h p0 768) fun r10 =>
    zoI (zaI h r10 (((x1 + (i32 1)) + ((i32 6) * a1)) + (i32 4)) 0) fun x11 =>
    zoR (zgR h p0 768) fun r12 =>
    zoI (zaI h r12 (((x1 + (i32 1)) + ((i32 6) * a1)) + (i32 5)) 0) fun x13 =>
    zbI (zv 12 296 [zR p0, zI x3, zI x5, zI x7, zI x9, zI x11, zI x13] h) fun x15 h14 =>
    zrz x15 h14 := U_297 (zst []) 47 0 [yR p0, yI a1, none] [] h
/-! 298 Model_runs (I)V -/
set_option maxRecDepth 100000 in
theorem e_Model_runs (p0 : Option Nat) (a1 : Int32) (h : zHeap) : zc 298 [zR p0, zI a1] h =
    zbV (zv 12 288 [zR p0] h) fun h1 =>
    zr 298 2 [yR p0, yI a1] [] h1 := U_298 (zst [2]) 28 0 [yR p0, yI a1] [] h
set_option maxRecDepth 100000 in
theorem e_Model_runs_2 (p0 : Option Nat) (a1 : Int32) (h : zHeap) : zr 298 2 [yR p0, yI a1] [] h =
    zoI (zgI h p0 801) fun x1 =>
    zif (decide (a1 ≤ x1))
      (some (zI 0, h))
      (zoI (zgI h p0 801) fun x2 =>
      zoR (zgR h p0 768) fun r3 =>
      zoI (zgI h p0 792) fun x4 =>
      zoI (zaI h r3 x4 0) fun x5 =>
      zif (decide (x5 ≤ x2))
        (some (zI 0, h))
        (zoI (zgI h p0 801) fun x6 =>
        zbI (zv 12 297 [zR p0, zI x6] h) fun x8 h7 =>
        zif (decide (x8 = 0))
          (some (zI 0, h7))
          (zoI (zgI h7 p0 801) fun x9 =>
          zoH (zpI h7 p0 801 (x9 + (i32 1))) fun h10 =>
          zr 298 2 [yR p0, yI a1] [] h10))) := U_298 (zst [2]) 28 2 [yR p0, yI a1] [] h
/-! 299 Model_stop (II)I -/
set_option maxRecDepth 100000 in
theorem e_Model_stop (p0 : Option Nat) (a1 : Int32) (a2 : Int32) (h : zHeap) : zc 299 [zR p0, zI a1, zI a2] h =
    zbI (zv 12 226 [zR p0, zI a1] h) fun x2 h1 =>
    zif (decide (x2 = 0))
      (some (zI (i32 (-1)), h1))
      (zbI (zv 12 286 [zR p0, zI a2] h1) fun x4 h3 =>
      zif (decide (x4 ≠ 0))
        (zbV (zv 12 298 [zR p0, zI (i32 40)] h3) fun h5 =>
        zoI (zgI h5 p0 801) fun x6 =>
        some (zI x6, h5))
        (some (zI (i32 (-1)), h3))) := U_299 (zst []) 17 0 [yR p0, yI a1, yI a2] [] h
/-! 300 Model_mostOf ([II)I -/
set_option maxRecDepth 100000 in
theorem e_Model_mostOf (p0 : Option Nat) (a1 : Int32) (h : zHeap) : zc 300 [zR p0, zI a1] h =
    zr 300 4 [yR p0, yI a1, yI (i32 0), yI (i32 1)] [] h := U_300 (zst [4]) 31 0 [yR p0, yI a1, none, none] [] h
set_option maxRecDepth 100000 in
theorem e_Model_mostOf_4 (p0 : Option Nat) (a1 : Int32) (a2 : Int32) (a3 : Int32) (h : zHeap) : zr 300 4 [yR p0, yI a1, yI a2, yI a3] [] h =
    zif (decide (a1 ≤ a3))
      (zif (decide (a1 = 0))
        (some (zI (i32 (-1)), h))
        (zoI (zaI h p0 a2 0) fun x1 =>
        zif (decide (x1 ≠ 0))
          (some (zI a2, h))
          (some (zI (i32 (-1)), h))))
      (zoI (zaI h p0 a3 0) fun x2 =>
      zoI (zaI h p0 a2 0) fun x3 =>
      zif (decide (x2 ≤ x3))
        (zr 300 4 [yR p0, yI a1, yI a2, yI (a3 + i32 1)] [] h)
        (zr 300 4 [yR p0, yI a1, yI a3, yI (a3 + i32 1)] [] h)) := U_300 (zst [4]) 31 4 [yR p0, yI a1, yI a2, yI a3] [] h
/-! 301 Model_after (III)I -/
set_option maxRecDepth 100000 in
theorem e_Model_after (p0 : Option Nat) (a1 : Int32) (a2 : Int32) (a3 : Int32) (h : zHeap) : zc 301 [zR p0, zI a1, zI a2, zI a3] h =
    zbI (zv 12 226 [zR p0, zI a1] h) fun x2 h1 =>
    zif (decide (x2 = 0))
      (some (zI (i32 (-2)), h1))
      (zbI (zv 12 286 [zR p0, zI a2] h1) fun x4 h3 =>
      zif (decide (x4 = 0))
        (some (zI (i32 (-2)), h3))
        (zbI (zc 200 [zI a3, zI (i32 0), zI (i32 3)] h3) fun x6 h5 =>
        zif (decide (x6 ≠ 0))
          (zbV (zv 12 288 [zR p0] h5) fun h7 =>
          zr 301 19 [yR p0, yI a1, yI a2, yI a3, yI (i32 0), none, none] [] h7)
          (some (zI (i32 (-2)), h5)))) := U_301 (zst [19, 38, 135, 154]) 198 0 [yR p0, yI a1, yI a2, yI a3, none, none, none] [] h
set_option maxRecDepth 100000 in
theorem e_Model_after_19 (p0 : Option Nat) (a1 : Int32) (a2 : Int32) (a3 : Int32) (a4 : Int32) (h : zHeap) : zr 301 19 [yR p0, yI a1, yI a2, yI a3, yI a4, none, none] [] h =
    zif (decide ((i32 8) ≤ a4))
      (zr 301 38 [yR p0, yI a1, yI a2, yI a3, yI (i32 (-1)), yI (i32 0), none] [] h)
      (zoR (zgR h p0 806) fun r1 =>
      zoH (zaS h r1 a4 (i32 0)) fun h2 =>
      zoR (zgR h2 p0 807) fun r3 =>
      zoH (zaS h2 r3 a4 (i32 0)) fun h4 =>
      zr 301 19 [yR p0, yI a1, yI a2, yI a3, yI (a4 + i32 1), none, none] [] h4) := U_301 (zst [19, 38, 135, 154]) 198 19 [yR p0, yI a1, yI a2, yI a3, yI a4, none, none] [] h
set_option maxRecDepth 100000 in
theorem e_Model_after_38 (p0 : Option Nat) (a1 : Int32) (a2 : Int32) (a3 : Int32) (a4 : Int32) (a5 : Int32) (w6 : Option zVal) (h : zHeap) : zr 301 38 [yR p0, yI a1, yI a2, yI a3, yI a4, yI a5, w6] [] h =
    zoR (zgR h p0 768) fun r1 =>
    zoI (zgI h p0 792) fun x2 =>
    zoI (zaI h r1 x2 0) fun x3 =>
    zif (decide (x3 ≤ a5))
      (zoI (zgI h p0 779) fun x4 =>
      zif (decide (x4 ≠ 0))
        (zr 301 154 [yR p0, yI a1, yI a2, yI a3, yI a4, yI (i32 0), yI (i32 1)] [] h)
        (zr 301 154 [yR p0, yI a1, yI a2, yI a3, yI a4, yI (i32 (-1)), yI (i32 1)] [] h))
      (zbI (zv 12 297 [zR p0, zI a5] h) fun x6 h5 =>
      zif (decide (x6 = 0))
        (zoI (zgI h5 p0 779) fun x7 =>
        zif (decide (x7 ≠ 0))
          (zr 301 154 [yR p0, yI a1, yI a2, yI a3, yI a4, yI (i32 0), yI (i32 1)] [] h5)
          (zr 301 154 [yR p0, yI a1, yI a2, yI a3, yI a4, yI (i32 (-1)), yI (i32 1)] [] h5))
        (zoI (zgI h5 p0 792) fun x8 =>
        zoR (zgR h5 p0 768) fun r9 =>
        zoI (zaI h5 r9 ((x8 + (i32 1)) + ((i32 6) * a5)) 0) fun x10 =>
        zif (decide (x10 ≠ 0))
          (zoR (zgR h5 p0 768) fun r11 =>
          zoI (zaI h5 r11 ((x8 + (i32 1)) + ((i32 6) * a5)) 0) fun x12 =>
          zif (decide (x12 ≠ (i32 1)))
            (zr 301 135 [yR p0, yI a1, yI a2, yI a3, yI a4, yI a5, yI ((x8 + (i32 1)) + ((i32 6) * a5))] [] h5)
            (zoR (zgR h5 p0 806) fun r13 =>
            zoR (zgR h5 p0 768) fun r14 =>
            zoI (zaI h5 r14 (((x8 + (i32 1)) + ((i32 6) * a5)) + (i32 5)) 0) fun x15 =>
            zoI (zaI h5 r13 x15 0) fun x16 =>
            zoH (zaS h5 r13 x15 (x16 + (i32 1))) fun h17 =>
            zoR (zgR h17 p0 807) fun r18 =>
            zoR (zgR h17 p0 768) fun r19 =>
            zoI (zaI h17 r19 (((x8 + (i32 1)) + ((i32 6) * a5)) + (i32 3)) 0) fun x20 =>
            zoI (zaI h17 r18 x20 0) fun x21 =>
            zoH (zaS h17 r18 x20 (x21 + (i32 1))) fun h22 =>
            zoR (zgR h22 p0 807) fun r23 =>
            zoR (zgR h22 p0 768) fun r24 =>
            zoI (zaI h22 r24 (((x8 + (i32 1)) + ((i32 6) * a5)) + (i32 4)) 0) fun x25 =>
            zoI (zaI h22 r23 x25 0) fun x26 =>
            zoH (zaS h22 r23 x25 (x26 + (i32 1))) fun h27 =>
            zr 301 135 [yR p0, yI a1, yI a2, yI a3, yI a4, yI a5, yI ((x8 + (i32 1)) + ((i32 6) * a5))] [] h27))
          (zoR (zgR h5 p0 806) fun r28 =>
          zoR (zgR h5 p0 768) fun r29 =>
          zoI (zaI h5 r29 (((x8 + (i32 1)) + ((i32 6) * a5)) + (i32 3)) 0) fun x30 =>
          zoI (zaI h5 r28 x30 0) fun x31 =>
          zoH (zaS h5 r28 x30 (x31 + (i32 1))) fun h32 =>
          zoR (zgR h32 p0 807) fun r33 =>
          zoR (zgR h32 p0 768) fun r34 =>
          zoI (zaI h32 r34 (((x8 + (i32 1)) + ((i32 6) * a5)) + (i32 2)) 0) fun x35 =>
          zoI (zaI h32 r33 x35 0) fun x36 =>
          zoH (zaS h32 r33 x35 (x36 + (i32 1))) fun h37 =>
          zr 301 135 [yR p0, yI a1, yI a2, yI a3, yI a4, yI a5, yI ((x8 + (i32 1)) + ((i32 6) * a5))] [] h37))) := U_301 (zst [19, 38, 135, 154]) 198 38 [yR p0, yI a1, yI a2, yI a3, yI a4, yI a5, w6] [] h
set_option maxRecDepth 100000 in
theorem e_Model_after_135 (p0 : Option Nat) (a1 : Int32) (a2 : Int32) (a3 : Int32) (a4 : Int32) (a5 : Int32) (a6 : Int32) (h : zHeap) : zr 301 135 [yR p0, yI a1, yI a2, yI a3, yI a4, yI a5, yI a6] [] h =
    zif (decide (a4 ≠ (i32 (-1))))
      (zr 301 38 [yR p0, yI a1, yI a2, yI a3, yI a4, yI (a5 + i32 1), yI a6] [] h)
      (zoI (zgI h p0 794) fun x1 =>
      zif (decide (x1 = 0))
        (zr 301 38 [yR p0, yI a1, yI a2, yI a3, yI a4, yI (a5 + i32 1), yI a6] [] h)
        (zr 301 38 [yR p0, yI a1, yI a2, yI a3, yI a5, yI (a5 + i32 1), yI a6] [] h)) := U_301 (zst [19, 38, 135, 154]) 198 135 [yR p0, yI a1, yI a2, yI a3, yI a4, yI a5, yI a6] [] h
set_option maxRecDepth 100000 in
theorem e_Model_after_154 (p0 : Option Nat) (a1 : Int32) (a2 : Int32) (a3 : Int32) (a4 : Int32) (a5 : Int32) (a6 : Int32) (h : zHeap) : zr 301 154 [yR p0, yI a1, yI a2, yI a3, yI a4, yI a5, yI a6] [] h =
    zoI (zgI h p0 779) fun x1 =>
    zif (decide (x1 ≤ a6))
      (zif (decide (a3 ≠ 0))
        (zif (decide (a3 ≠ (i32 1)))
          (zif (decide (a3 ≠ (i32 2)))
            (some (zI a5, h))
            (zoR (zgR h p0 807) fun r2 =>
            zoI (zgI h p0 780) fun x3 =>
            zbI (zc 300 [zR r2, zI x3] h) fun x5 h4 =>
            some (zI x5, h4)))
          (zoR (zgR h p0 806) fun r6 =>
          zoI (zgI h p0 781) fun x7 =>
          zbI (zc 300 [zR r6, zI x7] h) fun x9 h8 =>
          some (zI x9, h8)))
        (some (zI a4, h)))
      (zoR (zgR h p0 802) fun r10 =>
      zoI (zaI h r10 a6 0) fun x11 =>
      zoR (zgR h p0 802) fun r12 =>
      zoI (zaI h r12 a5 0) fun x13 =>
      zif (decide (x13 ≤ x11))
        (zr 301 154 [yR p0, yI a1, yI a2, yI a3, yI a4, yI a5, yI (a6 + i32 1)] [] h)
        (zr 301 154 [yR p0, yI a1, yI a2, yI a3, yI a4, yI a6, yI (a6 + i32 1)] [] h)) := U_301 (zst [19, 38, 135, 154]) 198 154 [yR p0, yI a1, yI a2, yI a3, yI a4, yI a5, yI a6] [] h
/-! 302 Model_nowOf (I)I -/
set_option maxRecDepth 100000 in
theorem e_Model_nowOf (p0 : Option Nat) (a1 : Int32) (h : zHeap) : zc 302 [zR p0, zI a1] h =
    zoI (if (i32 10) = 0 then none else some (zrem a1 (i32 10))) fun x1 =>
    zif (decide (a1 = i32 0))
      (zoI (zgI h p0 793) fun x2 =>
      some (zI x2, h))
      (zif (decide (a1 = i32 1))
      (zoI (zgI h p0 794) fun x3 =>
      some (zI x3, h))
      (zif (decide (a1 = i32 2))
      (zoI (zgI h p0 795) fun x4 =>
      some (zI x4, h))
      (zif (decide (a1 = i32 3))
      (zoI (zgI h p0 796) fun x5 =>
      some (zI x5, h))
      (zif (decide (a1 = i32 4))
      (zoI (zgI h p0 797) fun x6 =>
      some (zI x6, h))
      (zif (decide (a1 = i32 5))
      (zoI (zgI h p0 798) fun x7 =>
      some (zI x7, h))
      (zif (decide (a1 = i32 6))
      (zoI (zgI h p0 799) fun x8 =>
      some (zI x8, h))
      (zif (decide (a1 = i32 7))
      (zoI (zgI h p0 800) fun x9 =>
      some (zI x9, h))
      (zoI (if (i32 10) = 0 then none else some (a1 / (i32 10))) fun x10 =>
      zif (decide (x10 = i32 1))
        (zbI (zv 12 227 [zR p0, zI x1] h) fun x12 h11 =>
        zif (decide (x12 = 0))
          (some (zI (i32 (-2)), h11))
          (zoR (zgR h11 p0 802) fun r13 =>
          zoI (zaI h11 r13 x1 0) fun x14 =>
          some (zI x14, h11)))
        (zif (decide (x10 = i32 2))
        (zbI (zv 12 227 [zR p0, zI x1] h) fun x16 h15 =>
        zif (decide (x16 = 0))
          (some (zI (i32 (-2)), h15))
          (zoR (zgR h15 p0 803) fun r17 =>
          zoI (zaI h15 r17 x1 0) fun x18 =>
          some (zI x18, h15)))
        (zif (decide (x10 = i32 3))
        (zbI (zv 12 228 [zR p0, zI x1] h) fun x20 h19 =>
        zif (decide (x20 = 0))
          (some (zI (i32 (-2)), h19))
          (zoR (zgR h19 p0 804) fun r21 =>
          zoI (zaI h19 r21 x1 0) fun x22 =>
          some (zI x22, h19)))
        (zif (decide (x10 = i32 4))
        (zbI (zv 12 229 [zR p0, zI x1] h) fun x24 h23 =>
        zif (decide (x24 = 0))
          (some (zI (i32 (-2)), h23))
          (zoR (zgR h23 p0 805) fun r25 =>
          zoI (zaI h23 r25 x1 0) fun x26 =>
          some (zI x26, h23)))
        (some (zI (i32 (-2)), h))))))))))))) := U_302 (zst []) 81 0 [yR p0, yI a1, none] [] h
/-! 303 Model_state (IIII)I -/
set_option maxRecDepth 100000 in
theorem e_Model_state (p0 : Option Nat) (a1 : Int32) (a2 : Int32) (a3 : Int32) (a4 : Int32) (h : zHeap) : zc 303 [zR p0, zI a1, zI a2, zI a3, zI a4] h =
    zbI (zv 12 226 [zR p0, zI a1] h) fun x2 h1 =>
    zif (decide (x2 = 0))
      (some (zI (i32 (-2)), h1))
      (zbI (zv 12 286 [zR p0, zI a2] h1) fun x4 h3 =>
      zif (decide (x4 = 0))
        (some (zI (i32 (-2)), h3))
        (zif (decide (a3 < 0))
          (some (zI (i32 (-2)), h3))
          (zif (decide (0 ≤ a4))
            (zbV (zv 12 298 [zR p0, zI a3] h3) fun h5 =>
            zoI (zgI h5 p0 801) fun x6 =>
            zif (decide (x6 ≠ a3))
              (some (zI (i32 (-2)), h5))
              (zbI (zv 12 302 [zR p0, zI a4] h5) fun x8 h7 =>
              some (zI x8, h7)))
            (some (zI (i32 (-2)), h3))))) := U_303 (zst []) 28 0 [yR p0, yI a1, yI a2, yI a3, yI a4] [] h
/-! 304 Model_isLog (I)Z -/
set_option maxRecDepth 100000 in
theorem e_Model_isLog (p0 : Option Nat) (a1 : Int32) (h : zHeap) : zc 304 [zR p0, zI a1] h =
    zbI (zv 12 223 [zR p0, zI (i32 2), zI a1] h) fun x2 h1 =>
    zif (decide (x2 ≠ 0))
      (zbI (zc 221 [zI (i32 2), zI a1] h1) fun x4 h3 =>
      zoH (zpI h3 p0 808 x4) fun h5 =>
      zrz (i32 1) h5)
      (zrz (i32 0) h1) := U_304 (zst []) 15 0 [yR p0, yI a1] [] h
/-! 305 Model_fact (III)I -/
set_option maxRecDepth 100000 in
theorem e_Model_fact (p0 : Option Nat) (a1 : Int32) (a2 : Int32) (a3 : Int32) (h : zHeap) : zc 305 [zR p0, zI a1, zI a2, zI a3] h =
    zbI (zv 12 304 [zR p0, zI a1] h) fun x2 h1 =>
    zif (decide (x2 ≠ 0))
      (zif (decide (a2 ≠ (i32 (-1))))
        (zoR (zgR h1 p0 768) fun r3 =>
        zoI (zgI h1 p0 808) fun x4 =>
        zoI (zaI h1 r3 x4 0) fun x5 =>
        zbI (zc 200 [zI a2, zI (i32 0), zI (x5 - (i32 1))] h1) fun x7 h6 =>
        zif (decide (x7 = 0))
          (some (zI (i32 (-2)), h6))
          (zbI (zc 200 [zI a3, zI (i32 0), zI (i32 2)] h6) fun x9 h8 =>
          zif (decide (x9 = 0))
            (some (zI (i32 (-2)), h8))
            (zoR (zgR h8 p0 768) fun r10 =>
            zoI (zgI h8 p0 808) fun x11 =>
            zoI (zaI h8 r10 (((x11 + (i32 1)) + ((i32 3) * a2)) + a3) 0) fun x12 =>
            some (zI x12, h8))))
        (zif (decide (a3 ≠ 0))
          (some (zI (i32 (-2)), h1))
          (zoR (zgR h1 p0 768) fun r13 =>
          zoI (zgI h1 p0 808) fun x14 =>
          zoI (zaI h1 r13 x14 0) fun x15 =>
          some (zI x15, h1))))
      (some (zI (i32 (-2)), h1)) := U_305 (zst []) 52 0 [yR p0, yI a1, yI a2, yI a3] [] h
/-! 306 Model_noteBy (IIII)I -/
set_option maxRecDepth 100000 in
theorem e_Model_noteBy (p0 : Option Nat) (a1 : Int32) (a2 : Int32) (a3 : Int32) (a4 : Int32) (h : zHeap) : zc 306 [zR p0, zI a1, zI a2, zI a3, zI a4] h =
    zoI (if (i32 8) = 0 then none else some (a1 / (i32 8))) fun x1 =>
    zif (decide (x1 ≤ a2))
      (zoH (zpI h p0 782 (i32 0)) fun h2 =>
      zoI (if (i32 8) = 0 then none else some (zrem a1 (i32 8))) fun x3 =>
      zoH (zpI h2 p0 783 x3) fun h4 =>
      zoR (zgR h4 p0 768) fun r5 =>
      zoI (zgI h4 p0 778) fun x6 =>
      zoI (zaI h4 r5 (x6 + (i32 3)) 0) fun x7 =>
      zoH (zpI h4 p0 784 x7) fun h8 =>
      zbI (zv 12 237 [zR p0, zI a3, zI a4] h8) fun x10 h9 =>
      some (zI x10, h9))
      (zoI (if (i32 8) = 0 then none else some (a1 / (i32 8))) fun x11 =>
      zoH (zpI h p0 782 (x11 - a2)) fun h12 =>
      zoI (if (i32 8) = 0 then none else some (zrem a1 (i32 8))) fun x13 =>
      zoH (zpI h12 p0 783 x13) fun h14 =>
      zoR (zgR h14 p0 768) fun r15 =>
      zoI (zgI h14 p0 778) fun x16 =>
      zoI (zaI h14 r15 (x16 + (i32 3)) 0) fun x17 =>
      zoH (zpI h14 p0 784 x17) fun h18 =>
      zbI (zv 12 237 [zR p0, zI a3, zI a4] h18) fun x20 h19 =>
      some (zI x20, h19)) := U_306 (zst []) 34 0 [yR p0, yI a1, yI a2, yI a3, yI a4] [] h
/-! 307 Model_isSo (I)Z -/
set_option maxRecDepth 100000 in
theorem e_Model_isSo (p0 : Option Nat) (a1 : Int32) (h : zHeap) : zc 307 [zR p0, zI a1] h =
    zr 307 4 [yR p0, yI a1, yI (i32 1), yI (i32 0), none] [] h := U_307 (zst [4]) 52 0 [yR p0, yI a1, none, none, none] [] h
set_option maxRecDepth 100000 in
theorem e_Model_isSo_4 (p0 : Option Nat) (a1 : Int32) (a2 : Int32) (a3 : Int32) (w4 : Option zVal) (h : zHeap) : zr 307 4 [yR p0, yI a1, yI a2, yI a3, w4] [] h =
    zoR (zgR h p0 768) fun r1 =>
    zoI (zgI h p0 808) fun x2 =>
    zoI (zaI h r1 x2 0) fun x3 =>
    zif (decide (x3 ≤ a3))
      (zrz a2 h)
      (zoI (zgI h p0 808) fun x4 =>
      zif (decide (a2 = 0))
        (zr 307 4 [yR p0, yI a1, yI (i32 0), yI (a3 + i32 1), yI ((x4 + (i32 1)) + ((i32 3) * a3))] [] h)
        (zoR (zgR h p0 768) fun r5 =>
        zoI (zaI h r5 ((x4 + (i32 1)) + ((i32 3) * a3)) 0) fun x6 =>
        zoR (zgR h p0 768) fun r7 =>
        zoI (zaI h r7 (((x4 + (i32 1)) + ((i32 3) * a3)) + (i32 1)) 0) fun x8 =>
        zbI (zv 12 306 [zR p0, zI a1, zI a3, zI x6, zI x8] h) fun x10 h9 =>
        zoR (zgR h9 p0 768) fun r11 =>
        zoI (zaI h9 r11 (((x4 + (i32 1)) + ((i32 3) * a3)) + (i32 2)) 0) fun x12 =>
        zif (decide (x10 ≠ x12))
          (zr 307 4 [yR p0, yI a1, yI (i32 0), yI (a3 + i32 1), yI ((x4 + (i32 1)) + ((i32 3) * a3))] [] h9)
          (zr 307 4 [yR p0, yI a1, yI (i32 1), yI (a3 + i32 1), yI ((x4 + (i32 1)) + ((i32 3) * a3))] [] h9))) := U_307 (zst [4]) 52 4 [yR p0, yI a1, yI a2, yI a3, w4] [] h
/-! 308 Model_areThere ()Z -/
set_option maxRecDepth 100000 in
theorem e_Model_areThere (p0 : Option Nat) (h : zHeap) : zc 308 [zR p0] h =
    zr 308 4 [yR p0, yI (i32 1), yI (i32 0)] [] h := U_308 (zst [4]) 50 0 [yR p0, none, none] [] h
set_option maxRecDepth 100000 in
theorem e_Model_areThere_4 (p0 : Option Nat) (a1 : Int32) (a2 : Int32) (h : zHeap) : zr 308 4 [yR p0, yI a1, yI a2] [] h =
    zoR (zgR h p0 768) fun r1 =>
    zoI (zgI h p0 808) fun x2 =>
    zoI (zaI h r1 x2 0) fun x3 =>
    zif (decide (x3 ≤ a2))
      (zrz a1 h)
      (zif (decide (a1 = 0))
        (zr 308 4 [yR p0, yI (i32 0), yI (a2 + i32 1)] [] h)
        (zoR (zgR h p0 768) fun r4 =>
        zoI (zgI h p0 808) fun x5 =>
        zoI (zaI h r4 ((x5 + (i32 1)) + ((i32 3) * a2)) 0) fun x6 =>
        zoI (zgI h p0 780) fun x7 =>
        zif (decide (x7 ≤ x6))
          (zr 308 4 [yR p0, yI (i32 0), yI (a2 + i32 1)] [] h)
          (zoR (zgR h p0 768) fun r8 =>
          zoI (zgI h p0 808) fun x9 =>
          zoI (zaI h r8 ((x9 + (i32 2)) + ((i32 3) * a2)) 0) fun x10 =>
          zoI (zgI h p0 781) fun x11 =>
          zif (decide (x11 ≤ x10))
            (zr 308 4 [yR p0, yI (i32 0), yI (a2 + i32 1)] [] h)
            (zr 308 4 [yR p0, yI (i32 1), yI (a2 + i32 1)] [] h)))) := U_308 (zst [4]) 50 4 [yR p0, yI a1, yI a2] [] h
/-! 309 Model_greatestBy (II)I -/
set_option maxRecDepth 100000 in
theorem e_Model_greatestBy (p0 : Option Nat) (a1 : Int32) (a2 : Int32) (h : zHeap) : zc 309 [zR p0, zI a1, zI a2] h =
    zr 309 2 [yR p0, yI a1, yI a2, yI (i32 0), none, none] [] h := U_309 (zst [2, 16]) 63 0 [yR p0, yI a1, yI a2, none, none, none] [] h
set_option maxRecDepth 100000 in
theorem e_Model_greatestBy_2 (p0 : Option Nat) (a1 : Int32) (a2 : Int32) (a3 : Int32) (h : zHeap) : zr 309 2 [yR p0, yI a1, yI a2, yI a3, none, none] [] h =
    zif (decide ((i32 9) ≤ a3))
      (zr 309 16 [yR p0, yI a1, yI a2, yI (i32 0), yI (i32 0), none] [] h)
      (zoR (zgR h p0 809) fun r1 =>
      zoH (zaS h r1 a3 (i32 0)) fun h2 =>
      zr 309 2 [yR p0, yI a1, yI a2, yI (a3 + i32 1), none, none] [] h2) := U_309 (zst [2, 16]) 63 2 [yR p0, yI a1, yI a2, yI a3, none, none] [] h
set_option maxRecDepth 100000 in
theorem e_Model_greatestBy_16 (p0 : Option Nat) (a1 : Int32) (a2 : Int32) (a3 : Int32) (a4 : Int32) (w5 : Option zVal) (h : zHeap) : zr 309 16 [yR p0, yI a1, yI a2, yI a3, yI a4, w5] [] h =
    zif (decide ((i32 80) ≤ a4))
      (some (zI a3, h))
      (zbI (zv 12 307 [zR p0, zI a4] h) fun x2 h1 =>
      zif (decide (x2 ≠ 0))
        (zoR (zgR h1 p0 768) fun r3 =>
        zoI (zgI h1 p0 808) fun x4 =>
        zoI (zaI h1 r3 x4 0) fun x5 =>
        zbI (zv 12 306 [zR p0, zI a4, zI x5, zI a1, zI a2] h1) fun x7 h6 =>
        zoR (zgR h6 p0 809) fun r8 =>
        zoI (zaI h6 r8 (x7 + (i32 1)) 0) fun x9 =>
        zoH (zaS h6 r8 (x7 + (i32 1)) (x9 + (i32 1))) fun h10 =>
        zoR (zgR h10 p0 809) fun r11 =>
        zoI (zaI h10 r11 (x7 + (i32 1)) 0) fun x12 =>
        zif (decide (x12 ≤ a3))
          (zr 309 16 [yR p0, yI a1, yI a2, yI a3, yI (a4 + i32 1), yI (x7 + (i32 1))] [] h10)
          (zoR (zgR h10 p0 809) fun r13 =>
          zoI (zaI h10 r13 (x7 + (i32 1)) 0) fun x14 =>
          zr 309 16 [yR p0, yI a1, yI a2, yI x14, yI (a4 + i32 1), yI (x7 + (i32 1))] [] h10))
        (zr 309 16 [yR p0, yI a1, yI a2, yI a3, yI (a4 + i32 1), w5] [] h1)) := U_309 (zst [2, 16]) 63 16 [yR p0, yI a1, yI a2, yI a3, yI a4, w5] [] h
/-! 310 Model_nextOf ()I -/
set_option maxRecDepth 100000 in
theorem e_Model_nextOf (p0 : Option Nat) (h : zHeap) : zc 310 [zR p0] h =
    zr 310 6 [yR p0, yI (i32 (-1)), yI (i32 99), yI (i32 0), none, none] [] h := U_310 (zst [6, 12]) 40 0 [yR p0, none, none, none, none, none] [] h
set_option maxRecDepth 100000 in
theorem e_Model_nextOf_6 (p0 : Option Nat) (a1 : Int32) (a2 : Int32) (a3 : Int32) (w4 : Option zVal) (w5 : Option zVal) (h : zHeap) : zr 310 6 [yR p0, yI a1, yI a2, yI a3, w4, w5] [] h =
    zoI (zgI h p0 780) fun x1 =>
    zif (decide (x1 ≤ a3))
      (some (zI a1, h))
      (zr 310 12 [yR p0, yI a1, yI a2, yI a3, yI (i32 0), w5] [] h) := U_310 (zst [6, 12]) 40 6 [yR p0, yI a1, yI a2, yI a3, w4, w5] [] h
set_option maxRecDepth 100000 in
theorem e_Model_nextOf_12 (p0 : Option Nat) (a1 : Int32) (a2 : Int32) (a3 : Int32) (a4 : Int32) (w5 : Option zVal) (h : zHeap) : zr 310 12 [yR p0, yI a1, yI a2, yI a3, yI a4, w5] [] h =
    zoI (zgI h p0 781) fun x1 =>
    zif (decide (x1 ≤ a4))
      (zr 310 6 [yR p0, yI a1, yI a2, yI (a3 + i32 1), yI a4, w5] [] h)
      (zbI (zv 12 309 [zR p0, zI a3, zI a4] h) fun x3 h2 =>
      zif (decide (x3 < a2))
        (zr 310 12 [yR p0, yI (((i32 10) * a3) + a4), yI x3, yI a3, yI (a4 + i32 1), yI x3] [] h2)
        (zr 310 12 [yR p0, yI a1, yI a2, yI a3, yI (a4 + i32 1), yI x3] [] h2)) := U_310 (zst [6, 12]) 40 12 [yR p0, yI a1, yI a2, yI a3, yI a4, w5] [] h
/-! 311 Model_whoseOf ()I -/
set_option maxRecDepth 100000 in
theorem e_Model_whoseOf (p0 : Option Nat) (h : zHeap) : zc 311 [zR p0] h =
    zr 311 4 [yR p0, yI (i32 0), yI (i32 0)] [] h := U_311 (zst [4]) 33 0 [yR p0, none, none] [] h
set_option maxRecDepth 100000 in
theorem e_Model_whoseOf_4 (p0 : Option Nat) (a1 : Int32) (a2 : Int32) (h : zHeap) : zr 311 4 [yR p0, yI a1, yI a2] [] h =
    zoI (zgI h p0 779) fun x1 =>
    zif (decide (x1 ≤ a2))
      (some (zI a1, h))
      (zbI (zv 12 230 [zR p0, zI a2] h) fun x3 h2 =>
      zbI (zv 12 231 [zR p0, zI a2] h2) fun x5 h4 =>
      zbI (zv 12 307 [zR p0, zI (((i32 8) * x3) + x5)] h4) fun x7 h6 =>
      zif (decide (x7 = 0))
        (zr 311 4 [yR p0, yI (a1 ||| (i32 0)), yI (a2 + i32 1)] [] h6)
        (zr 311 4 [yR p0, yI (a1 ||| (zshl (i32 1) a2)), yI (a2 + i32 1)] [] h6)) := U_311 (zst [4]) 33 4 [yR p0, yI a1, yI a2] [] h
/-! 312 Model_fits (III)I -/
set_option maxRecDepth 100000 in
theorem e_Model_fits (p0 : Option Nat) (a1 : Int32) (a2 : Int32) (a3 : Int32) (h : zHeap) : zc 312 [zR p0, zI a1, zI a2, zI a3] h =
    zbI (zv 12 226 [zR p0, zI a1] h) fun x2 h1 =>
    zif (decide (x2 = 0))
      (some (zI (i32 (-2)), h1))
      (zbI (zv 12 304 [zR p0, zI a2] h1) fun x4 h3 =>
      zif (decide (x4 = 0))
        (some (zI (i32 (-2)), h3))
        (zbI (zv 12 308 [zR p0] h3) fun x6 h5 =>
        zif (decide (x6 = 0))
          (some (zI (i32 (-2)), h5))
          (zif (decide (a3 < 0))
            (some (zI (i32 (-2)), h5))
            (zbI (zc 200 [zI a3, zI (i32 5), zI (i32 9)] h5) fun x8 h7 =>
            zif (decide (x8 = 0))
              (zr 312 28 [yR p0, yI a1, yI a2, yI a3, yI (i32 0), yI (i32 (-1)), yI (i32 (-1)), yI (i32 0)] [] h7)
              (some (zI (i32 (-2)), h7)))))) := U_312 (zst [28, 46]) 104 0 [yR p0, yI a1, yI a2, yI a3, none, none, none, none] [] h
set_option maxRecDepth 100000 in
theorem e_Model_fits_28 (p0 : Option Nat) (a1 : Int32) (a2 : Int32) (a3 : Int32) (a4 : Int32) (a5 : Int32) (a6 : Int32) (a7 : Int32) (h : zHeap) : zr 312 28 [yR p0, yI a1, yI a2, yI a3, yI a4, yI a5, yI a6, yI a7] [] h =
    zif (decide ((i32 80) ≤ a7))
      (zif (decide (a3 = i32 0))
        (some (zI a4, h))
        (zif (decide (a3 = i32 1))
        (zif (decide (0 ≤ a5))
          (some (zI a5, h))
          (some (zI (i32 (-1)), h)))
        (zif (decide (a3 = i32 2))
        (zif (decide (0 ≤ a6))
          (some (zI a6, h))
          (some (zI (i32 (-1)), h)))
        (zif (decide (a3 = i32 3))
        (zbI (zv 12 311 [zR p0] h) fun x2 h1 =>
        some (zI x2, h1))
        (zif (decide (a3 = i32 4))
        (zif (decide (a4 ≠ 0))
          (zbI (zv 12 310 [zR p0] h) fun x4 h3 =>
          some (zI x4, h3))
          (some (zI (i32 (-1)), h)))
        (some (zI (i32 (-2)), h)))))))
      (zbI (zv 12 307 [zR p0, zI a7] h) fun x6 h5 =>
      zif (decide (x6 ≠ 0))
        (zif (decide (a3 < (i32 10)))
          (zr 312 46 [yR p0, yI a1, yI a2, yI a3, yI a4, yI a5, yI a6, yI a7] [] h5)
          (zif (decide (a4 ≠ (a3 - (i32 10))))
            (zr 312 46 [yR p0, yI a1, yI a2, yI a3, yI a4, yI a5, yI a6, yI a7] [] h5)
            (some (zI a7, h5))))
        (zr 312 28 [yR p0, yI a1, yI a2, yI a3, yI a4, yI a5, yI a6, yI (a7 + i32 1)] [] h5)) := U_312 (zst [28, 46]) 104 28 [yR p0, yI a1, yI a2, yI a3, yI a4, yI a5, yI a6, yI a7] [] h
set_option maxRecDepth 100000 in
theorem e_Model_fits_46 (p0 : Option Nat) (a1 : Int32) (a2 : Int32) (a3 : Int32) (a4 : Int32) (a5 : Int32) (a6 : Int32) (a7 : Int32) (h : zHeap) : zr 312 46 [yR p0, yI a1, yI a2, yI a3, yI a4, yI a5, yI a6, yI a7] [] h =
    zif (decide (a4 = 0))
      (zoI (if (i32 8) = 0 then none else some (a7 / (i32 8))) fun x1 =>
      zif (decide (a4 = 0))
        (zoI (if (i32 8) = 0 then none else some (zrem a7 (i32 8))) fun x2 =>
        zr 312 28 [yR p0, yI a1, yI a2, yI a3, yI (a4 + i32 1), yI x1, yI x2, yI (a7 + i32 1)] [] h)
        (zoI (if (i32 8) = 0 then none else some (zrem a7 (i32 8))) fun x3 =>
        zif (decide (a6 ≠ x3))
          (zr 312 28 [yR p0, yI a1, yI a2, yI a3, yI (a4 + i32 1), yI x1, yI (i32 (-2)), yI (a7 + i32 1)] [] h)
          (zoI (if (i32 8) = 0 then none else some (zrem a7 (i32 8))) fun x4 =>
          zr 312 28 [yR p0, yI a1, yI a2, yI a3, yI (a4 + i32 1), yI x1, yI x4, yI (a7 + i32 1)] [] h)))
      (zoI (if (i32 8) = 0 then none else some (a7 / (i32 8))) fun x5 =>
      zif (decide (a5 ≠ x5))
        (zif (decide (a4 = 0))
          (zoI (if (i32 8) = 0 then none else some (zrem a7 (i32 8))) fun x6 =>
          zr 312 28 [yR p0, yI a1, yI a2, yI a3, yI (a4 + i32 1), yI (i32 (-2)), yI x6, yI (a7 + i32 1)] [] h)
          (zoI (if (i32 8) = 0 then none else some (zrem a7 (i32 8))) fun x7 =>
          zif (decide (a6 ≠ x7))
            (zr 312 28 [yR p0, yI a1, yI a2, yI a3, yI (a4 + i32 1), yI (i32 (-2)), yI (i32 (-2)), yI (a7 + i32 1)] [] h)
            (zoI (if (i32 8) = 0 then none else some (zrem a7 (i32 8))) fun x8 =>
            zr 312 28 [yR p0, yI a1, yI a2, yI a3, yI (a4 + i32 1), yI (i32 (-2)), yI x8, yI (a7 + i32 1)] [] h)))
        (zoI (if (i32 8) = 0 then none else some (a7 / (i32 8))) fun x9 =>
        zif (decide (a4 = 0))
          (zoI (if (i32 8) = 0 then none else some (zrem a7 (i32 8))) fun x10 =>
          zr 312 28 [yR p0, yI a1, yI a2, yI a3, yI (a4 + i32 1), yI x9, yI x10, yI (a7 + i32 1)] [] h)
          (zoI (if (i32 8) = 0 then none else some (zrem a7 (i32 8))) fun x11 =>
          zif (decide (a6 ≠ x11))
            (zr 312 28 [yR p0, yI a1, yI a2, yI a3, yI (a4 + i32 1), yI x9, yI (i32 (-2)), yI (a7 + i32 1)] [] h)
            (zoI (if (i32 8) = 0 then none else some (zrem a7 (i32 8))) fun x12 =>
            zr 312 28 [yR p0, yI a1, yI a2, yI a3, yI (a4 + i32 1), yI x9, yI x12, yI (a7 + i32 1)] [] h)))) := U_312 (zst [28, 46]) 104 46 [yR p0, yI a1, yI a2, yI a3, yI a4, yI a5, yI a6, yI a7] [] h
/-! 313 Model_common (JJ)J -/
set_option maxRecDepth 100000 in
theorem e_Model_common (b0 : Int64) (b2 : Int64) (h : zHeap) : zc 313 [zL b0, zL b2] h =
    zr 313 4 [yL b0, none, yL b2, none, yL b0, none, yL b2, none, none, none] [] h := U_313 (zst [4]) 20 0 [yL b0, none, yL b2, none, none, none, none, none, none, none] [] h
set_option maxRecDepth 100000 in
theorem e_Model_common_4 (b0 : Int64) (b2 : Int64) (b4 : Int64) (b6 : Int64) (w8 : Option zVal) (h : zHeap) : zr 313 4 [yL b0, none, yL b2, none, yL b4, none, yL b6, none, w8, none] [] h =
    zif (decide ((zcmp b6 (i64 0)) = 0))
      (some (zL b4, h))
      (zoL (if b6 = 0 then none else some (zremL b4 b6)) fun y1 =>
      zr 313 4 [yL b0, none, yL b2, none, yL b6, none, yL y1, none, yL y1, none] [] h) := U_313 (zst [4]) 20 4 [yL b0, none, yL b2, none, yL b4, none, yL b6, none, w8, none] [] h
/-! 314 Model_power (JI)J -/
set_option maxRecDepth 100000 in
theorem e_Model_power (b0 : Int64) (a2 : Int32) (h : zHeap) : zc 314 [zL b0, zI a2] h =
    zr 314 4 [yL b0, none, yI a2, yL (i64 1), none, yI (i32 0)] [] h := U_314 (zst [4]) 16 0 [yL b0, none, yI a2, none, none, none] [] h
set_option maxRecDepth 100000 in
theorem e_Model_power_4 (b0 : Int64) (a2 : Int32) (b3 : Int64) (a5 : Int32) (h : zHeap) : zr 314 4 [yL b0, none, yI a2, yL b3, none, yI a5] [] h =
    zif (decide (a2 ≤ a5))
      (some (zL b3, h))
      (zr 314 4 [yL b0, none, yI a2, yL (b3 * b0), none, yI (a5 + i32 1)] [] h) := U_314 (zst [4]) 16 4 [yL b0, none, yI a2, yL b3, none, yI a5] [] h
/-! 315 Model_odds (IIIIIZ)J -/
set_option maxRecDepth 100000 in
theorem e_Model_odds (p0 : Option Nat) (a1 : Int32) (a2 : Int32) (a3 : Int32) (a4 : Int32) (a5 : Int32) (a6 : Int32) (h : zHeap) : zc 315 [zR p0, zI a1, zI a2, zI a3, zI a4, zI a5, zI a6] h =
    zbI (zv 12 226 [zR p0, zI a1] h) fun x2 h1 =>
    zif (decide (x2 = 0))
      (some (zL (i64 (-1)), h1))
      (zbI (zv 12 304 [zR p0, zI a2] h1) fun x4 h3 =>
      zif (decide (x4 = 0))
        (some (zL (i64 (-1)), h3))
        (zbI (zv 12 308 [zR p0] h3) fun x6 h5 =>
        zif (decide (x6 = 0))
          (some (zL (i64 (-1)), h5))
          (zbI (zv 12 228 [zR p0, zI a3] h5) fun x8 h7 =>
          zif (decide (x8 = 0))
            (some (zL (i64 (-1)), h7))
            (zbI (zv 12 229 [zR p0, zI a4] h7) fun x10 h9 =>
            zif (decide (x10 = 0))
              (some (zL (i64 (-1)), h9))
              (zbI (zc 200 [zI a5, zI (i32 0), zI (i32 2)] h9) fun x12 h11 =>
              zif (decide (x12 ≠ 0))
                (zr 315 32 [yR p0, yI a1, yI a2, yI a3, yI a4, yI a5, yI a6, yL (i64 0), none, yL (i64 0), none, yI (i32 0)] [] h11)
                (some (zL (i64 (-1)), h11))))))) := U_315 (zst [32]) 83 0 [yR p0, yI a1, yI a2, yI a3, yI a4, yI a5, yI a6, none, none, none, none, none] [] h
set_option maxRecDepth 100000 in
theorem e_Model_odds_32 (p0 : Option Nat) (a1 : Int32) (a2 : Int32) (a3 : Int32) (a4 : Int32) (a5 : Int32) (a6 : Int32) (b7 : Int64) (b9 : Int64) (a11 : Int32) (h : zHeap) : zr 315 32 [yR p0, yI a1, yI a2, yI a3, yI a4, yI a5, yI a6, yL b7, none, yL b9, none, yI a11] [] h =
    zif (decide ((i32 80) ≤ a11))
      (zif (decide ((zcmp b9 (i64 0)) ≠ 0))
        (zif (decide (a6 = 0))
          (zbL (zc 313 [zL b7, zL b9] h) fun y2 h1 =>
          zoL (if y2 = 0 then none else some (b7 / y2)) fun y3 =>
          some (zL y3, h1))
          (zbL (zc 313 [zL b7, zL b9] h) fun y5 h4 =>
          zoL (if y5 = 0 then none else some (b9 / y5)) fun y6 =>
          some (zL y6, h4)))
        (some (zL (i64 (-1)), h)))
      (zbI (zv 12 307 [zR p0, zI a11] h) fun x8 h7 =>
      zif (decide (x8 ≠ 0))
        (zoR (zgR h7 p0 768) fun r9 =>
        zoI (zgI h7 p0 808) fun x10 =>
        zoI (zaI h7 r9 x10 0) fun x11 =>
        zbI (zv 12 306 [zR p0, zI a11, zI x11, zI a3, zI a4] h7) fun x13 h12 =>
        zbI (zv 12 238 [zR p0, zI x13] h12) fun x15 h14 =>
        zif (decide (x15 ≠ a5))
          (zr 315 32 [yR p0, yI a1, yI a2, yI a3, yI a4, yI a5, yI a6, yL (b7 + (i64 0)), none, yL (b9 + (i64 1)), none, yI (a11 + i32 1)] [] h14)
          (zr 315 32 [yR p0, yI a1, yI a2, yI a3, yI a4, yI a5, yI a6, yL (b7 + (i64 1)), none, yL (b9 + (i64 1)), none, yI (a11 + i32 1)] [] h14))
        (zr 315 32 [yR p0, yI a1, yI a2, yI a3, yI a4, yI a5, yI a6, yL b7, none, yL b9, none, yI (a11 + i32 1)] [] h7)) := U_315 (zst [32]) 83 32 [yR p0, yI a1, yI a2, yI a3, yI a4, yI a5, yI a6, yL b7, none, yL b9, none, yI a11] [] h
/-! 316 Model_left (IIIIZ)J -/
set_option maxRecDepth 100000 in
theorem e_Model_left (p0 : Option Nat) (a1 : Int32) (a2 : Int32) (a3 : Int32) (a4 : Int32) (a5 : Int32) (h : zHeap) : zc 316 [zR p0, zI a1, zI a2, zI a3, zI a4, zI a5] h =
    zbI (zc 200 [zI a1, zI (i32 0), zI (i32 6)] h) fun x2 h1 =>
    zif (decide (x2 = 0))
      (some (zL (i64 (-1)), h1))
      (zbI (zc 200 [zI a2, zI (i32 0), zI (i32 6)] h1) fun x4 h3 =>
      zif (decide (x4 = 0))
        (some (zL (i64 (-1)), h3))
        (zbI (zc 200 [zI a3, zI (i32 0), zI (i32 3)] h3) fun x6 h5 =>
        zif (decide (x6 = 0))
          (some (zL (i64 (-1)), h5))
          (zbI (zc 200 [zI a4, zI (i32 0), zI (i32 10)] h5) fun x8 h7 =>
          zif (decide (x8 ≠ 0))
            (zbL (zc 314 [zL (((i32 10) - a4).toInt64), zI a3] h7) fun y10 h9 =>
            zbL (zc 314 [zL (i64 10), zI a3] h9) fun y12 h11 =>
            zr 316 39 [yR p0, yI a1, yI a2, yI a3, yI a4, yI a5, yL y10, none, yL (y12 - y10), none, yL (i64 0), none, yI (i32 0), none] [] h11)
            (some (zL (i64 (-1)), h7))))) := U_316 (zst [39]) 81 0 [yR p0, yI a1, yI a2, yI a3, yI a4, yI a5, none, none, none, none, none, none, none, none] [] h
set_option maxRecDepth 100000 in
theorem e_Model_left_39 (p0 : Option Nat) (a1 : Int32) (a2 : Int32) (a3 : Int32) (a4 : Int32) (a5 : Int32) (b6 : Int64) (b8 : Int64) (b10 : Int64) (a12 : Int32) (h : zHeap) : zr 316 39 [yR p0, yI a1, yI a2, yI a3, yI a4, yI a5, yL b6, none, yL b8, none, yL b10, none, yI a12, none] [] h =
    zif (decide ((zshl (i32 1) a1) ≤ a12))
      (zbL (zc 314 [zL (i64 10), zI a3] h) fun y2 h1 =>
      zbL (zc 314 [zL y2, zI a1] h1) fun y4 h3 =>
      zif (decide (a5 = 0))
        (zbL (zc 313 [zL b10, zL y4] h3) fun y6 h5 =>
        zoL (if y6 = 0 then none else some (b10 / y6)) fun y7 =>
        some (zL y7, h5))
        (zbL (zc 313 [zL b10, zL y4] h3) fun y9 h8 =>
        zoL (if y9 = 0 then none else some (y4 / y9)) fun y10 =>
        some (zL y10, h8)))
      (zbI (zc 249 [zI a12] h) fun x12 h11 =>
      zif (decide (x12 < a2))
        (zr 316 39 [yR p0, yI a1, yI a2, yI a3, yI a4, yI a5, yL b6, none, yL b8, none, yL b10, none, yI (a12 + i32 1), none] [] h11)
        (zbI (zc 249 [zI a12] h11) fun x14 h13 =>
        zbL (zc 314 [zL b6, zI x14] h13) fun y16 h15 =>
        zbI (zc 249 [zI a12] h15) fun x18 h17 =>
        zbL (zc 314 [zL b8, zI (a1 - x18)] h17) fun y20 h19 =>
        zr 316 39 [yR p0, yI a1, yI a2, yI a3, yI a4, yI a5, yL b6, none, yL b8, none, yL (b10 + (y16 * y20)), none, yI (a12 + i32 1), none] [] h19)) := U_316 (zst [39]) 81 39 [yR p0, yI a1, yI a2, yI a3, yI a4, yI a5, yL b6, none, yL b8, none, yL b10, none, yI a12, none] [] h
/-! 317 Model_below (I)I -/
set_option maxRecDepth 100000 in
theorem e_Model_below (p0 : Option Nat) (a1 : Int32) (h : zHeap) : zc 317 [zR p0, zI a1] h =
    zoI (zgI h p0 810) fun x1 =>
    zoH (zpI h p0 810 ((x1 * (i32 1103515245)) + (i32 12345))) fun h2 =>
    zoI (zgI h2 p0 810) fun x3 =>
    zoI (if a1 = 0 then none else some (zrem (zushr x3 (i32 16)) a1)) fun x4 =>
    some (zI x4, h2) := U_317 (zst []) 16 0 [yR p0, yI a1] [] h
/-! 318 Model_draws ()V -/
set_option maxRecDepth 100000 in
theorem e_Model_draws (p0 : Option Nat) (h : zHeap) : zc 318 [zR p0] h =
    zbI (zv 12 317 [zR p0, zI (i32 8)] h) fun x2 h1 =>
    zif (decide (x2 ≠ (i32 7)))
      (zif (decide (x2 ≠ (i32 6)))
        (zoI (zgI h1 p0 779) fun x3 =>
        zif (decide (x3 = 0))
          (some (zI 0, h1))
          (zif (decide ((i32 4) ≤ x2))
            (zoI (zgI h1 p0 779) fun x4 =>
            zbI (zv 12 317 [zR p0, zI x4] h1) fun x6 h5 =>
            zif (decide (x2 ≤ (i32 3)))
              (zoI (zgI h5 p0 780) fun x7 =>
              zbI (zv 12 317 [zR p0, zI x7] h5) fun x9 h8 =>
              zoI (zgI h8 p0 781) fun x10 =>
              zbI (zv 12 317 [zR p0, zI x10] h8) fun x12 h11 =>
              zbI (zv 12 292 [zR p0, zI x6, zI x9, zI x12] h11) fun x14 h13 =>
              some (zI 0, h13))
              (zif (decide (x2 ≠ (i32 5)))
                (zbI (zv 12 294 [zR p0, zI x6, zI (i32 0)] h5) fun x16 h15 =>
                some (zI 0, h15))
                (zbI (zv 12 294 [zR p0, zI x6, zI (i32 1)] h5) fun x18 h17 =>
                some (zI 0, h17))))
            (zoI (zgI h1 p0 780) fun x19 =>
            zif (decide (x19 = 0))
              (some (zI 0, h1))
              (zoI (zgI h1 p0 781) fun x20 =>
              zif (decide (x20 ≠ 0))
                (zoI (zgI h1 p0 779) fun x21 =>
                zbI (zv 12 317 [zR p0, zI x21] h1) fun x23 h22 =>
                zif (decide (x2 ≤ (i32 3)))
                  (zoI (zgI h22 p0 780) fun x24 =>
                  zbI (zv 12 317 [zR p0, zI x24] h22) fun x26 h25 =>
                  zoI (zgI h25 p0 781) fun x27 =>
                  zbI (zv 12 317 [zR p0, zI x27] h25) fun x29 h28 =>
                  zbI (zv 12 292 [zR p0, zI x23, zI x26, zI x29] h28) fun x31 h30 =>
                  some (zI 0, h30))
                  (zif (decide (x2 ≠ (i32 5)))
                    (zbI (zv 12 294 [zR p0, zI x23, zI (i32 0)] h22) fun x33 h32 =>
                    some (zI 0, h32))
                    (zbI (zv 12 294 [zR p0, zI x23, zI (i32 1)] h22) fun x35 h34 =>
                    some (zI 0, h34))))
                (some (zI 0, h1))))))
        (zbI (zv 12 317 [zR p0, zI (i32 10)] h1) fun x37 h36 =>
        zoH (zpI h36 p0 799 x37) fun h38 =>
        some (zI 0, h38)))
      (zbI (zv 12 295 [zR p0] h1) fun x40 h39 =>
      some (zI 0, h39)) := U_318 (zst []) 68 0 [yR p0, none, none, none] [] h
/-! 319 Model_drawn (IIII)I -/
set_option maxRecDepth 100000 in
theorem e_Model_drawn (p0 : Option Nat) (a1 : Int32) (a2 : Int32) (a3 : Int32) (a4 : Int32) (h : zHeap) : zc 319 [zR p0, zI a1, zI a2, zI a3, zI a4] h =
    zbI (zv 12 226 [zR p0, zI a1] h) fun x2 h1 =>
    zif (decide (x2 = 0))
      (some (zI (i32 (-2)), h1))
      (zbI (zc 200 [zI a3, zI (i32 0), zI (i32 60)] h1) fun x4 h3 =>
      zif (decide (x4 = 0))
        (some (zI (i32 (-2)), h3))
        (zif (decide (0 ≤ a4))
          (zoH (zpI h3 p0 810 a2) fun h5 =>
          zbV (zv 12 288 [zR p0] h5) fun h6 =>
          zr 319 20 [yR p0, yI a1, yI a2, yI a3, yI a4, yI (i32 0)] [] h6)
          (some (zI (i32 (-2)), h3)))) := U_319 (zst [20]) 32 0 [yR p0, yI a1, yI a2, yI a3, yI a4, none] [] h
set_option maxRecDepth 100000 in
theorem e_Model_drawn_20 (p0 : Option Nat) (a1 : Int32) (a2 : Int32) (a3 : Int32) (a4 : Int32) (a5 : Int32) (h : zHeap) : zr 319 20 [yR p0, yI a1, yI a2, yI a3, yI a4, yI a5] [] h =
    zif (decide (a3 ≤ a5))
      (zbI (zv 12 302 [zR p0, zI a4] h) fun x2 h1 =>
      some (zI x2, h1))
      (zbV (zv 12 318 [zR p0] h) fun h3 =>
      zr 319 20 [yR p0, yI a1, yI a2, yI a3, yI a4, yI (a5 + i32 1)] [] h3) := U_319 (zst [20]) 32 20 [yR p0, yI a1, yI a2, yI a3, yI a4, yI a5] [] h
/-! 320 Model_count (I)I -/
set_option maxRecDepth 100000 in
theorem e_Model_count (p0 : Option Nat) (a1 : Int32) (h : zHeap) : zc 320 [zR p0, zI a1] h =
    zbI (zc 200 [zI a1, zI (i32 0), zI (i32 2)] h) fun x2 h1 =>
    zif (decide (x2 = 0))
      (some (zI (i32 (-2)), h1))
      (zoR (zgR h1 p0 768) fun r3 =>
      zoI (zaI h1 r3 a1 0) fun x4 =>
      some (zI x4, h1)) := U_320 (zst []) 13 0 [yR p0, yI a1] [] h
/-! 321 Model_image (I)Z -/
set_option maxRecDepth 100000 in
theorem e_Model_image (p0 : Option Nat) (a1 : Int32) (h : zHeap) : zc 321 [zR p0, zI a1] h =
    zbI (zc 200 [zI a1, zI (i32 0), zI (i32 2)] h) fun x2 h1 =>
    zif (decide (x2 ≠ 0))
      (zoR (zgR h1 p0 769) fun r3 =>
      zoH (zaC h1 r3 a1 (i32 1)) fun h4 =>
      zr 321 14 [yR p0, yI a1, yI (i32 0)] [] h4)
      (zrz (i32 0) h1) := U_321 (zst [14]) 36 0 [yR p0, yI a1, none] [] h
set_option maxRecDepth 100000 in
theorem e_Model_image_14 (p0 : Option Nat) (a1 : Int32) (a2 : Int32) (h : zHeap) : zr 321 14 [yR p0, yI a1, yI a2] [] h =
    zif (decide ((i32 1230) ≤ a2))
      (zrz (i32 1) h)
      (zoR (zgR h p0 768) fun r1 =>
      zoR (zgR h p0 768) fun r2 =>
      zoI (zaI h r2 a2 0) fun x3 =>
      zoH (zaS h r1 (((i32 1230) * (a1 + (i32 1))) + a2) x3) fun h4 =>
      zr 321 14 [yR p0, yI a1, yI (a2 + i32 1)] [] h4) := U_321 (zst [14]) 36 14 [yR p0, yI a1, yI a2] [] h
/-! 322 Model_again (I)Z -/
set_option maxRecDepth 100000 in
theorem e_Model_again (p0 : Option Nat) (a1 : Int32) (h : zHeap) : zc 322 [zR p0, zI a1] h =
    zbI (zc 200 [zI a1, zI (i32 0), zI (i32 2)] h) fun x2 h1 =>
    zif (decide (x2 = 0))
      (zrz (i32 0) h1)
      (zoR (zgR h1 p0 769) fun r3 =>
      zoI (zaB h1 r3 a1) fun x4 =>
      zif (decide (x4 ≠ 0))
        (zr 322 14 [yR p0, yI a1, yI (i32 0)] [] h1)
        (zrz (i32 0) h1)) := U_322 (zst [14]) 36 0 [yR p0, yI a1, none] [] h
set_option maxRecDepth 100000 in
theorem e_Model_again_14 (p0 : Option Nat) (a1 : Int32) (a2 : Int32) (h : zHeap) : zr 322 14 [yR p0, yI a1, yI a2] [] h =
    zif (decide ((i32 1230) ≤ a2))
      (zrz (i32 1) h)
      (zoR (zgR h p0 768) fun r1 =>
      zoR (zgR h p0 768) fun r2 =>
      zoI (zaI h r2 (((i32 1230) * (a1 + (i32 1))) + a2) 0) fun x3 =>
      zoH (zaS h r1 a2 x3) fun h4 =>
      zr 322 14 [yR p0, yI a1, yI (a2 + i32 1)] [] h4) := U_322 (zst [14]) 36 14 [yR p0, yI a1, yI a2] [] h
/-! 324 Arrays_fill ([II)V -/
set_option maxRecDepth 100000 in
theorem e_Arrays_fill (p0 : Option Nat) (a1 : Int32) (h : zHeap) : zc 324 [zR p0, zI a1] h =
    zoI (zaN h p0) fun x1 =>
    zr 324 5 [yR p0, yI a1, yI (i32 0), yI x1] [] h := U_324 (zst [5]) 16 0 [yR p0, yI a1, none, none] [] h
set_option maxRecDepth 100000 in
theorem e_Arrays_fill_5 (p0 : Option Nat) (a1 : Int32) (a2 : Int32) (a3 : Int32) (h : zHeap) : zr 324 5 [yR p0, yI a1, yI a2, yI a3] [] h =
    zif (decide (a3 ≤ a2))
      (some (zI 0, h))
      (zoH (zaS h p0 a2 a1) fun h1 =>
      zr 324 5 [yR p0, yI a1, yI (a2 + i32 1), yI a3] [] h1) := U_324 (zst [5]) 16 5 [yR p0, yI a1, yI a2, yI a3] [] h
/-! 325 Integer_bitCount (I)I -/
set_option maxRecDepth 100000 in
theorem e_Integer_bitCount (a0 : Int32) (h : zHeap) : zc 325 [zI a0] h =
    some (zI ((((((((a0 - ((zushr a0 (i32 1)) &&& (i32 1431655765))) &&& (i32 858993459)) + ((zushr (a0 - ((zushr a0 (i32 1)) &&& (i32 1431655765))) (i32 2)) &&& (i32 858993459))) + (zushr (((a0 - ((zushr a0 (i32 1)) &&& (i32 1431655765))) &&& (i32 858993459)) + ((zushr (a0 - ((zushr a0 (i32 1)) &&& (i32 1431655765))) (i32 2)) &&& (i32 858993459))) (i32 4))) &&& (i32 252645135)) + (zushr (((((a0 - ((zushr a0 (i32 1)) &&& (i32 1431655765))) &&& (i32 858993459)) + ((zushr (a0 - ((zushr a0 (i32 1)) &&& (i32 1431655765))) (i32 2)) &&& (i32 858993459))) + (zushr (((a0 - ((zushr a0 (i32 1)) &&& (i32 1431655765))) &&& (i32 858993459)) + ((zushr (a0 - ((zushr a0 (i32 1)) &&& (i32 1431655765))) (i32 2)) &&& (i32 858993459))) (i32 4))) &&& (i32 252645135)) (i32 8))) + (zushr ((((((a0 - ((zushr a0 (i32 1)) &&& (i32 1431655765))) &&& (i32 858993459)) + ((zushr (a0 - ((zushr a0 (i32 1)) &&& (i32 1431655765))) (i32 2)) &&& (i32 858993459))) + (zushr (((a0 - ((zushr a0 (i32 1)) &&& (i32 1431655765))) &&& (i32 858993459)) + ((zushr (a0 - ((zushr a0 (i32 1)) &&& (i32 1431655765))) (i32 2)) &&& (i32 858993459))) (i32 4))) &&& (i32 252645135)) + (zushr (((((a0 - ((zushr a0 (i32 1)) &&& (i32 1431655765))) &&& (i32 858993459)) + ((zushr (a0 - ((zushr a0 (i32 1)) &&& (i32 1431655765))) (i32 2)) &&& (i32 858993459))) + (zushr (((a0 - ((zushr a0 (i32 1)) &&& (i32 1431655765))) &&& (i32 858993459)) + ((zushr (a0 - ((zushr a0 (i32 1)) &&& (i32 1431655765))) (i32 2)) &&& (i32 858993459))) (i32 4))) &&& (i32 252645135)) (i32 8))) (i32 16))) &&& (i32 63)), h) := U_325 (zst []) 43 0 [yI a0] [] h
