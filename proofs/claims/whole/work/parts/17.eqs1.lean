/-! 81 Reader_lineOf (I)I -/
set_option maxRecDepth 100000 in
theorem e_Reader_lineOf (p0 : Option Nat) (a1 : Int32) (h : zHeap) : zc 81 [zR p0, zI a1] h =
    zif (decide (a1 = i32 0))
      (zbI (zv 5 82 [zR p0] h) fun x2 h1 =>
      some (zI x2, h1))
      (zif (decide (a1 = i32 1))
      (zbI (zv 5 83 [zR p0] h) fun x4 h3 =>
      some (zI x4, h3))
      (zif (decide (a1 = i32 2))
      (zbI (zv 5 84 [zR p0] h) fun x6 h5 =>
      some (zI x6, h5))
      (some (zI (i32 (-1)), h)))) := U_81 (zst []) 14 0 [yR p0, yI a1] [] h
/-! 82 Reader_duchyLine ()I -/
set_option maxRecDepth 100000 in
theorem e_Reader_duchyLine (p0 : Option Nat) (h : zHeap) : zc 82 [zR p0] h =
    zbI (zv 5 86 [zR p0, zR (some 1000100)] h) fun x2 h1 =>
    zif (decide (x2 = 0))
      (zbI (zv 5 86 [zR p0, zR (some 1000101)] h1) fun x4 h3 =>
      zif (decide (x4 = 0))
        (zbI (zv 5 86 [zR p0, zR (some 1000102)] h3) fun x6 h5 =>
        zif (decide (x6 = 0))
          (zbI (zv 5 86 [zR p0, zR (some 1000104)] h5) fun x8 h7 =>
          zif (decide (x8 = 0))
            (zbI (zv 5 86 [zR p0, zR (some 1000103)] h7) fun x10 h9 =>
            zif (decide (x10 = 0))
              (some (zI (i32 (-1)), h9))
              (some (zI (i32 4), h9)))
            (some (zI (i32 3), h7)))
          (some (zI (i32 2), h5)))
        (some (zI (i32 1), h3)))
      (some (zI (i32 0), h1)) := U_82 (zst []) 33 0 [yR p0] [] h
/-! 83 Reader_yearLine ()I -/
set_option maxRecDepth 100000 in
theorem e_Reader_yearLine (p0 : Option Nat) (h : zHeap) : zc 83 [zR p0] h =
    zbI (zv 5 86 [zR p0, zR (some 1000105)] h) fun x2 h1 =>
    zif (decide (x2 = 0))
      (zbI (zv 5 86 [zR p0, zR (some 1000106)] h1) fun x4 h3 =>
      zif (decide (x4 = 0))
        (zbI (zv 5 86 [zR p0, zR (some 1000107)] h3) fun x6 h5 =>
        zif (decide (x6 = 0))
          (zbI (zv 5 86 [zR p0, zR (some 1000108)] h5) fun x8 h7 =>
          zif (decide (x8 = 0))
            (zbI (zv 5 86 [zR p0, zR (some 1000104)] h7) fun x10 h9 =>
            zif (decide (x10 = 0))
              (zbI (zv 5 86 [zR p0, zR (some 1000109)] h9) fun x12 h11 =>
              zif (decide (x12 = 0))
                (some (zI (i32 (-1)), h11))
                (some (zI (i32 10), h11)))
              (some (zI (i32 9), h9)))
            (some (zI (i32 8), h7)))
          (some (zI (i32 7), h5)))
        (some (zI (i32 6), h3)))
      (some (zI (i32 5), h1)) := U_83 (zst []) 39 0 [yR p0] [] h
/-! 84 Reader_logLine ()I -/
set_option maxRecDepth 100000 in
theorem e_Reader_logLine (p0 : Option Nat) (h : zHeap) : zc 84 [zR p0] h =
    zbI (zv 5 86 [zR p0, zR (some 1000110)] h) fun x2 h1 =>
    zif (decide (x2 = 0))
      (zbI (zv 5 86 [zR p0, zR (some 1000111)] h1) fun x4 h3 =>
      zif (decide (x4 = 0))
        (some (zI (i32 (-1)), h3))
        (some (zI (i32 12), h3)))
      (some (zI (i32 11), h1)) := U_84 (zst []) 15 0 [yR p0] [] h
/-! 85 Reader_meaningHere ()I -/
set_option maxRecDepth 100000 in
theorem e_Reader_meaningHere (p0 : Option Nat) (h : zHeap) : zc 85 [zR p0] h =
    zbI (zv 5 86 [zR p0, zR (some 1000112)] h) fun x2 h1 =>
    zif (decide (x2 = 0))
      (zbI (zv 5 86 [zR p0, zR (some 1000113)] h1) fun x4 h3 =>
      zif (decide (x4 = 0))
        (zbI (zv 5 86 [zR p0, zR (some 1000114)] h3) fun x6 h5 =>
        zif (decide (x6 = 0))
          (some (zI (i32 (-1)), h5))
          (some (zI (i32 2), h5)))
        (some (zI (i32 1), h3)))
      (some (zI (i32 0), h1)) := U_85 (zst []) 21 0 [yR p0] [] h
/-! 86 Reader_isWord (Ljava/lang/String;)Z -/
set_option maxRecDepth 100000 in
theorem e_Reader_isWord (p0 : Option Nat) (p1 : Option Nat) (h : zHeap) : zc 86 [zR p0, zR p1] h =
    zoI (zgI h p0 327) fun x1 =>
    zoI (zgI h p0 328) fun x2 =>
    zoI (zSn p1) fun x3 =>
    zif (decide ((x1 - x2) = x3))
      (zr 86 12 [yR p0, yR p1, yI (i32 0)] [] h)
      (zrz (i32 0) h) := U_86 (zst [12]) 35 0 [yR p0, yR p1, none] [] h
set_option maxRecDepth 100000 in
theorem e_Reader_isWord_12 (p0 : Option Nat) (p1 : Option Nat) (a2 : Int32) (h : zHeap) : zr 86 12 [yR p0, yR p1, yI a2] [] h =
    zoI (zSn p1) fun x1 =>
    zif (decide (x1 ≤ a2))
      (zrz (i32 1) h)
      (zoR (zgR h p0 325) fun r2 =>
      zoR (zgR h r2 512) fun r3 =>
      zoI (zgI h p0 328) fun x4 =>
      zoI (zaB h r3 (x4 + a2)) fun x5 =>
      zoI (zSc p1 a2) fun x6 =>
      zif (decide (x5 = x6))
        (zr 86 12 [yR p0, yR p1, yI (a2 + i32 1)] [] h)
        (zrz (i32 0) h)) := U_86 (zst [12]) 35 12 [yR p0, yR p1, yI a2] [] h
/-! 87 Reader_advance ()V -/
set_option maxRecDepth 100000 in
theorem e_Reader_advance_0 (p0 : Option Nat) (h : zHeap) : zr 87 0 [yR p0] [] h =
    zoI (zgI h p0 327) fun x1 =>
    zoR (zgR h p0 325) fun r2 =>
    zoI (zgI h r2 513) fun x3 =>
    zif (decide (x3 ≤ x1))
      (zr 87 29 [yR p0] [] h)
      (zoR (zgR h p0 325) fun r4 =>
      zoR (zgR h r4 512) fun r5 =>
      zoI (zgI h p0 327) fun x6 =>
      zoI (zaB h r5 x6) fun x7 =>
      zif (decide (x7 = (i32 10)))
        (zoI (zgI h p0 327) fun x8 =>
        zoH (zpI h p0 327 (x8 + (i32 1))) fun h9 =>
        zr 87 0 [yR p0] [] h9)
        (zoR (zgR h p0 325) fun r10 =>
        zoR (zgR h r10 512) fun r11 =>
        zoI (zgI h p0 327) fun x12 =>
        zoI (zaB h r11 x12) fun x13 =>
        zif (decide (x13 ≠ (i32 32)))
          (zr 87 29 [yR p0] [] h)
          (zoI (zgI h p0 327) fun x14 =>
          zoH (zpI h p0 327 (x14 + (i32 1))) fun h15 =>
          zr 87 0 [yR p0] [] h15))) := U_87 (zst [0, 29]) 86 0 [yR p0] [] h
set_option maxRecDepth 100000 in
theorem e_Reader_advance (p0 : Option Nat) (h : zHeap) : zc 87 [zR p0] h = zr 87 0 [yR p0] [] h := rfl
set_option maxRecDepth 100000 in
theorem e_Reader_advance_29 (p0 : Option Nat) (h : zHeap) : zr 87 29 [yR p0] [] h =
    zoI (zgI h p0 327) fun x1 =>
    zoH (zpI h p0 328 x1) fun h2 =>
    zoI (zgI h2 p0 327) fun x3 =>
    zoR (zgR h2 p0 325) fun r4 =>
    zoI (zgI h2 r4 513) fun x5 =>
    zif (decide (x3 < x5))
      (zoR (zgR h2 p0 325) fun r6 =>
      zoR (zgR h2 r6 512) fun r7 =>
      zoI (zgI h2 p0 327) fun x8 =>
      zoI (zaB h2 r7 x8) fun x9 =>
      zbI (zc 90 [zI x9] h2) fun x11 h10 =>
      zif (decide (x11 = 0))
        (zoR (zgR h10 p0 325) fun r12 =>
        zoR (zgR h10 r12 512) fun r13 =>
        zoI (zgI h10 p0 327) fun x14 =>
        zoI (zaB h10 r13 x14) fun x15 =>
        zbI (zc 91 [zI x15] h10) fun x17 h16 =>
        zif (decide (x17 = 0))
          (zoR (zgR h16 p0 325) fun r18 =>
          zoR (zgR h16 r18 512) fun r19 =>
          zoI (zgI h16 p0 327) fun x20 =>
          zoI (zaB h16 r19 x20) fun x21 =>
          zif (decide (x21 ≠ (i32 59)))
            (zoH (zpI h16 p0 329 (i32 4)) fun h22 =>
            zoI (zgI h22 p0 327) fun x23 =>
            zoH (zpI h22 p0 327 (x23 + (i32 1))) fun h24 =>
            some (zI 0, h24))
            (zoH (zpI h16 p0 329 (i32 2)) fun h25 =>
            zoI (zgI h25 p0 327) fun x26 =>
            zoH (zpI h25 p0 327 (x26 + (i32 1))) fun h27 =>
            some (zI 0, h27)))
          (zbV (zv 5 89 [zR p0] h16) fun h28 =>
          some (zI 0, h28)))
        (zbV (zv 5 88 [zR p0] h10) fun h29 =>
        some (zI 0, h29)))
      (zoH (zpI h2 p0 329 (i32 3)) fun h30 =>
      some (zI 0, h30)) := U_87 (zst [0, 29]) 86 29 [yR p0] [] h
/-! 88 Reader_passWord ()V -/
set_option maxRecDepth 100000 in
theorem e_Reader_passWord (p0 : Option Nat) (h : zHeap) : zc 88 [zR p0] h =
    zoH (zpI h p0 329 (i32 0)) fun h1 =>
    zr 88 3 [yR p0] [] h1 := U_88 (zst [3]) 26 0 [yR p0] [] h
set_option maxRecDepth 100000 in
theorem e_Reader_passWord_3 (p0 : Option Nat) (h : zHeap) : zr 88 3 [yR p0] [] h =
    zoI (zgI h p0 327) fun x1 =>
    zoR (zgR h p0 325) fun r2 =>
    zoI (zgI h r2 513) fun x3 =>
    zif (decide (x3 ≤ x1))
      (some (zI 0, h))
      (zoR (zgR h p0 325) fun r4 =>
      zoR (zgR h r4 512) fun r5 =>
      zoI (zgI h p0 327) fun x6 =>
      zoI (zaB h r5 x6) fun x7 =>
      zbI (zc 90 [zI x7] h) fun x9 h8 =>
      zif (decide (x9 = 0))
        (some (zI 0, h8))
        (zoI (zgI h8 p0 327) fun x10 =>
        zoH (zpI h8 p0 327 (x10 + (i32 1))) fun h11 =>
        zr 88 3 [yR p0] [] h11)) := U_88 (zst [3]) 26 3 [yR p0] [] h
/-! 89 Reader_passNumber ()V -/
set_option maxRecDepth 100000 in
theorem e_Reader_passNumber (p0 : Option Nat) (h : zHeap) : zc 89 [zR p0] h =
    zoH (zpI h p0 330 (i32 0)) fun h1 =>
    zr 89 3 [yR p0] [] h1 := U_89 (zst [3]) 53 0 [yR p0] [] h
set_option maxRecDepth 100000 in
theorem e_Reader_passNumber_3 (p0 : Option Nat) (h : zHeap) : zr 89 3 [yR p0] [] h =
    zoI (zgI h p0 327) fun x1 =>
    zoR (zgR h p0 325) fun r2 =>
    zoI (zgI h r2 513) fun x3 =>
    zif (decide (x3 ≤ x1))
      (zoI (zgI h p0 327) fun x4 =>
      zoI (zgI h p0 328) fun x5 =>
      zif (decide ((i32 2) < (x4 - x5)))
        (zoH (zpI h p0 329 (i32 4)) fun h6 =>
        some (zI 0, h6))
        (zoH (zpI h p0 329 (i32 1)) fun h7 =>
        some (zI 0, h7)))
      (zoR (zgR h p0 325) fun r8 =>
      zoR (zgR h r8 512) fun r9 =>
      zoI (zgI h p0 327) fun x10 =>
      zoI (zaB h r9 x10) fun x11 =>
      zbI (zc 91 [zI x11] h) fun x13 h12 =>
      zif (decide (x13 = 0))
        (zoI (zgI h12 p0 327) fun x14 =>
        zoI (zgI h12 p0 328) fun x15 =>
        zif (decide ((i32 2) < (x14 - x15)))
          (zoH (zpI h12 p0 329 (i32 4)) fun h16 =>
          some (zI 0, h16))
          (zoH (zpI h12 p0 329 (i32 1)) fun h17 =>
          some (zI 0, h17)))
        (zoI (zgI h12 p0 330) fun x18 =>
        zoR (zgR h12 p0 325) fun r19 =>
        zoR (zgR h12 r19 512) fun r20 =>
        zoI (zgI h12 p0 327) fun x21 =>
        zoI (zaB h12 r20 x21) fun x22 =>
        zoH (zpI h12 p0 330 (((i32 10) * x18) + (x22 - (i32 48)))) fun h23 =>
        zoI (zgI h23 p0 327) fun x24 =>
        zoH (zpI h23 p0 327 (x24 + (i32 1))) fun h25 =>
        zr 89 3 [yR p0] [] h25)) := U_89 (zst [3]) 53 3 [yR p0] [] h
/-! 90 Reader_isLetter (B)Z -/
set_option maxRecDepth 100000 in
theorem e_Reader_isLetter (a0 : Int32) (h : zHeap) : zc 90 [zI a0] h =
    zif (decide (a0 < (i32 97)))
      (zrz (i32 0) h)
      (zif (decide ((i32 122) < a0))
        (zrz (i32 0) h)
        (zrz (i32 1) h)) := U_90 (zst []) 11 0 [yI a0] [] h
/-! 91 Reader_isDigit (B)Z -/
set_option maxRecDepth 100000 in
theorem e_Reader_isDigit (a0 : Int32) (h : zHeap) : zc 91 [zI a0] h =
    zif (decide (a0 < (i32 48)))
      (zrz (i32 0) h)
      (zif (decide ((i32 57) < a0))
        (zrz (i32 0) h)
        (zrz (i32 1) h)) := U_91 (zst []) 11 0 [yI a0] [] h
/-! 92 Survey_init ()V -/
set_option maxRecDepth 100000 in
theorem e_Survey_init (p0 : Nat) (h : zHeap) : zc 92 [zR (some p0)] h =
    zoN (zlen (i32 8)) fun n1 =>
    zoH (zpR (znA 0 n1 h) (some p0) 384 (some (hN h))) fun h2 =>
    zoN (zlen (i32 4)) fun n3 =>
    zoH (zpR (znA 0 n3 h2) (some p0) 385 (some (hN h2))) fun h4 =>
    zoN (zlen (i32 6)) fun n5 =>
    zoH (zpR (znA 0 n5 h4) (some p0) 386 (some (hN h4))) fun h6 =>
    some (zI 0, h6) := U_92 (zst []) 16 0 [yR (some p0)] [] h
/-! 93 Survey_sameAnswers (LReedOracles$Duchy;II)I -/
set_option maxRecDepth 100000 in
theorem e_Survey_sameAnswers (p0 : Option Nat) (p1 : Option Nat) (a2 : Int32) (a3 : Int32) (h : zHeap) : zc 93 [zR p0, zR p1, zI a2, zI a3] h =
    zr 93 4 [yR p0, yR p1, yI a2, yI a3, yI (i32 0), yI (i32 0), none] [] h := U_93 (zst [4, 10]) 33 0 [yR p0, yR p1, yI a2, yI a3, none, none, none] [] h
set_option maxRecDepth 100000 in
theorem e_Survey_sameAnswers_4 (p0 : Option Nat) (p1 : Option Nat) (a2 : Int32) (a3 : Int32) (a4 : Int32) (a5 : Int32) (w6 : Option zVal) (h : zHeap) : zr 93 4 [yR p0, yR p1, yI a2, yI a3, yI a4, yI a5, w6] [] h =
    zoI (zgI h p1 129) fun x1 =>
    zif (decide (x1 ≤ a5))
      (some (zI a4, h))
      (zr 93 10 [yR p0, yR p1, yI a2, yI a3, yI a4, yI a5, yI (i32 0)] [] h) := U_93 (zst [4, 10]) 33 4 [yR p0, yR p1, yI a2, yI a3, yI a4, yI a5, w6] [] h
set_option maxRecDepth 100000 in
theorem e_Survey_sameAnswers_10 (p0 : Option Nat) (p1 : Option Nat) (a2 : Int32) (a3 : Int32) (a4 : Int32) (a5 : Int32) (a6 : Int32) (h : zHeap) : zr 93 10 [yR p0, yR p1, yI a2, yI a3, yI a4, yI a5, yI a6] [] h =
    zoI (zgI h p1 130) fun x1 =>
    zif (decide (x1 ≤ a6))
      (zr 93 4 [yR p0, yR p1, yI a2, yI a3, yI a4, yI (a5 + i32 1), yI a6] [] h)
      (zbI (zv 2 51 [zR p1, zI a2, zI a5, zI a6] h) fun x3 h2 =>
      zbI (zv 2 51 [zR p1, zI a3, zI a5, zI a6] h2) fun x5 h4 =>
      zif (decide (x3 ≠ x5))
        (zr 93 10 [yR p0, yR p1, yI a2, yI a3, yI a4, yI a5, yI (a6 + i32 1)] [] h4)
        (zr 93 10 [yR p0, yR p1, yI a2, yI a3, yI (a4 + i32 1), yI a5, yI (a6 + i32 1)] [] h4)) := U_93 (zst [4, 10]) 33 10 [yR p0, yR p1, yI a2, yI a3, yI a4, yI a5, yI a6] [] h
/-! 94 Survey_gatherNotes (LReedOracles$Duchy;I)V -/
set_option maxRecDepth 100000 in
theorem e_Survey_gatherNotes (p0 : Option Nat) (p1 : Option Nat) (a2 : Int32) (h : zHeap) : zc 94 [zR p0, zR p1, zI a2] h =
    zoR (zgR h p0 384) fun r1 =>
    zbV (zc 324 [zR r1, zI (i32 0)] h) fun h2 =>
    zr 94 6 [yR p0, yR p1, yI a2, yI (i32 0), none, none] [] h2 := U_94 (zst [6, 12, 18]) 45 0 [yR p0, yR p1, yI a2, none, none, none] [] h
set_option maxRecDepth 100000 in
theorem e_Survey_gatherNotes_6 (p0 : Option Nat) (p1 : Option Nat) (a2 : Int32) (a3 : Int32) (w4 : Option zVal) (w5 : Option zVal) (h : zHeap) : zr 94 6 [yR p0, yR p1, yI a2, yI a3, w4, w5] [] h =
    zoI (zgI h p1 128) fun x1 =>
    zif (decide (x1 ≤ a3))
      (some (zI 0, h))
      (zr 94 12 [yR p0, yR p1, yI a2, yI a3, yI (i32 0), w5] [] h) := U_94 (zst [6, 12, 18]) 45 6 [yR p0, yR p1, yI a2, yI a3, w4, w5] [] h
set_option maxRecDepth 100000 in
theorem e_Survey_gatherNotes_12 (p0 : Option Nat) (p1 : Option Nat) (a2 : Int32) (a3 : Int32) (a4 : Int32) (w5 : Option zVal) (h : zHeap) : zr 94 12 [yR p0, yR p1, yI a2, yI a3, yI a4, w5] [] h =
    zoI (zgI h p1 129) fun x1 =>
    zif (decide (x1 ≤ a4))
      (zr 94 6 [yR p0, yR p1, yI a2, yI (a3 + i32 1), yI a4, w5] [] h)
      (zr 94 18 [yR p0, yR p1, yI a2, yI a3, yI a4, yI (i32 0)] [] h) := U_94 (zst [6, 12, 18]) 45 12 [yR p0, yR p1, yI a2, yI a3, yI a4, w5] [] h
set_option maxRecDepth 100000 in
theorem e_Survey_gatherNotes_18 (p0 : Option Nat) (p1 : Option Nat) (a2 : Int32) (a3 : Int32) (a4 : Int32) (a5 : Int32) (h : zHeap) : zr 94 18 [yR p0, yR p1, yI a2, yI a3, yI a4, yI a5] [] h =
    zoI (zgI h p1 130) fun x1 =>
    zif (decide (x1 ≤ a5))
      (zr 94 12 [yR p0, yR p1, yI a2, yI a3, yI (a4 + i32 1), yI a5] [] h)
      (zoR (zgR h p1 132) fun r2 =>
      zoI (zaI h r2 a3 0) fun x3 =>
      zoR (zgR h p1 133) fun r4 =>
      zoI (zaI h r4 a3 0) fun x5 =>
      zbI (zv 2 47 [zR p1, zI x3, zI x5, zI a2, zI a4, zI a5] h) fun x7 h6 =>
      zbV (zv 6 95 [zR p0, zI x7] h6) fun h8 =>
      zr 94 18 [yR p0, yR p1, yI a2, yI a3, yI a4, yI (a5 + i32 1)] [] h8) := U_94 (zst [6, 12, 18]) 45 18 [yR p0, yR p1, yI a2, yI a3, yI a4, yI a5] [] h
/-! 95 Survey_addNote (I)V -/
set_option maxRecDepth 100000 in
theorem e_Survey_addNote (p0 : Option Nat) (a1 : Int32) (h : zHeap) : zc 95 [zR p0, zI a1] h =
    zif (decide (a1 < 0))
      (some (zI 0, h))
      (zif (decide ((i32 8) ≤ a1))
        (some (zI 0, h))
        (zoR (zgR h p0 384) fun r1 =>
        zoI (zaI h r1 a1 0) fun x2 =>
        zoH (zaS h r1 a1 (x2 + (i32 1))) fun h3 =>
        some (zI 0, h3))) := U_95 (zst []) 15 0 [yR p0, yI a1] [] h
/-! 96 Survey_tellers (LReedOracles$Duchy;II)I -/
set_option maxRecDepth 100000 in
theorem e_Survey_tellers (p0 : Option Nat) (p1 : Option Nat) (a2 : Int32) (a3 : Int32) (h : zHeap) : zc 96 [zR p0, zR p1, zI a2, zI a3] h =
    zr 96 4 [yR p0, yR p1, yI a2, yI a3, yI (i32 0), yI (i32 0), none] [] h := U_96 (zst [4, 10]) 29 0 [yR p0, yR p1, yI a2, yI a3, none, none, none] [] h
set_option maxRecDepth 100000 in
theorem e_Survey_tellers_4 (p0 : Option Nat) (p1 : Option Nat) (a2 : Int32) (a3 : Int32) (a4 : Int32) (a5 : Int32) (w6 : Option zVal) (h : zHeap) : zr 96 4 [yR p0, yR p1, yI a2, yI a3, yI a4, yI a5, w6] [] h =
    zoI (zgI h p1 128) fun x1 =>
    zif (decide (x1 ≤ a5))
      (some (zI a4, h))
      (zr 96 10 [yR p0, yR p1, yI a2, yI a3, yI a4, yI a5, yI (i32 0)] [] h) := U_96 (zst [4, 10]) 29 4 [yR p0, yR p1, yI a2, yI a3, yI a4, yI a5, w6] [] h
set_option maxRecDepth 100000 in
theorem e_Survey_tellers_10 (p0 : Option Nat) (p1 : Option Nat) (a2 : Int32) (a3 : Int32) (a4 : Int32) (a5 : Int32) (a6 : Int32) (h : zHeap) : zr 96 10 [yR p0, yR p1, yI a2, yI a3, yI a4, yI a5, yI a6] [] h =
    zoI (zgI h p1 129) fun x1 =>
    zif (decide (x1 ≤ a6))
      (zr 96 4 [yR p0, yR p1, yI a2, yI a3, yI a4, yI (a5 + i32 1), yI a6] [] h)
      (zbI (zv 2 51 [zR p1, zI a5, zI a6, zI a2] h) fun x3 h2 =>
      zif (decide (x3 ≠ a3))
        (zr 96 10 [yR p0, yR p1, yI a2, yI a3, yI a4, yI a5, yI (a6 + i32 1)] [] h2)
        (zr 96 10 [yR p0, yR p1, yI a2, yI a3, yI (a4 + i32 1), yI a5, yI (a6 + i32 1)] [] h2)) := U_96 (zst [4, 10]) 29 10 [yR p0, yR p1, yI a2, yI a3, yI a4, yI a5, yI a6] [] h
/-! 97 Survey_fitColds (LReedOracles$Duchy;IIII)I -/
set_option maxRecDepth 100000 in
theorem e_Survey_fitColds (p0 : Option Nat) (p1 : Option Nat) (a2 : Int32) (a3 : Int32) (a4 : Int32) (a5 : Int32) (h : zHeap) : zc 97 [zR p0, zR p1, zI a2, zI a3, zI a4, zI a5] h =
    zr 97 4 [yR p0, yR p1, yI a2, yI a3, yI a4, yI a5, yI (i32 0), yI (i32 0), none] [] h := U_97 (zst [4]) 32 0 [yR p0, yR p1, yI a2, yI a3, yI a4, yI a5, none, none, none] [] h
set_option maxRecDepth 100000 in
theorem e_Survey_fitColds_4 (p0 : Option Nat) (p1 : Option Nat) (a2 : Int32) (a3 : Int32) (a4 : Int32) (a5 : Int32) (a6 : Int32) (a7 : Int32) (w8 : Option zVal) (h : zHeap) : zr 97 4 [yR p0, yR p1, yI a2, yI a3, yI a4, yI a5, yI a6, yI a7, w8] [] h =
    zif (decide ((i32 10) ≤ a7))
      (some (zI a6, h))
      (zoR (zgR h p1 132) fun r1 =>
      zoI (zaI h r1 a2 0) fun x2 =>
      zoR (zgR h p1 133) fun r3 =>
      zoI (zaI h r3 a2 0) fun x4 =>
      zbI (zv 2 47 [zR p1, zI x2, zI x4, zI a7, zI a3, zI a4] h) fun x6 h5 =>
      zbI (zv 2 50 [zR p1, zI x6] h5) fun x8 h7 =>
      zif (decide (x8 ≠ a5))
        (zr 97 4 [yR p0, yR p1, yI a2, yI a3, yI a4, yI a5, yI a6, yI (a7 + i32 1), yI x6] [] h7)
        (zr 97 4 [yR p0, yR p1, yI a2, yI a3, yI a4, yI a5, yI (a6 + i32 1), yI (a7 + i32 1), yI x6] [] h7)) := U_97 (zst [4]) 32 4 [yR p0, yR p1, yI a2, yI a3, yI a4, yI a5, yI a6, yI a7, w8] [] h
/-! 98 Survey_nightsTill (LReedOracles$Duchy;IIII)I -/
set_option maxRecDepth 100000 in
theorem e_Survey_nightsTill (p0 : Option Nat) (p1 : Option Nat) (a2 : Int32) (a3 : Int32) (a4 : Int32) (a5 : Int32) (h : zHeap) : zc 98 [zR p0, zR p1, zI a2, zI a3, zI a4, zI a5] h =
    zr 98 2 [yR p0, yR p1, yI a2, yI a3, yI a4, yI a5, yI (i32 0)] [] h := U_98 (zst [2]) 22 0 [yR p0, yR p1, yI a2, yI a3, yI a4, yI a5, none] [] h
set_option maxRecDepth 100000 in
theorem e_Survey_nightsTill_2 (p0 : Option Nat) (p1 : Option Nat) (a2 : Int32) (a3 : Int32) (a4 : Int32) (a5 : Int32) (a6 : Int32) (h : zHeap) : zr 98 2 [yR p0, yR p1, yI a2, yI a3, yI a4, yI a5, yI a6] [] h =
    zif (decide ((i32 9) < a6))
      (some (zI (i32 (-1)), h))
      (zbI (zv 2 49 [zR p1, zI a2, zI a6, zI a3, zI a4] h) fun x2 h1 =>
      zbI (zv 2 50 [zR p1, zI x2] h1) fun x4 h3 =>
      zif (decide (x4 ≠ a5))
        (zr 98 2 [yR p0, yR p1, yI a2, yI a3, yI a4, yI a5, yI (a6 + i32 1)] [] h3)
        (some (zI a6, h3))) := U_98 (zst [2]) 22 2 [yR p0, yR p1, yI a2, yI a3, yI a4, yI a5, yI a6] [] h
/-! 99 Survey_deepestHeard (LReedOracles$Duchy;II)I -/
set_option maxRecDepth 100000 in
theorem e_Survey_deepestHeard (p0 : Option Nat) (p1 : Option Nat) (a2 : Int32) (a3 : Int32) (h : zHeap) : zc 99 [zR p0, zR p1, zI a2, zI a3] h =
    zr 99 4 [yR p0, yR p1, yI a2, yI a3, yI (i32 (-1)), yI (i32 0), none] [] h := U_99 (zst [4]) 42 0 [yR p0, yR p1, yI a2, yI a3, none, none, none] [] h
set_option maxRecDepth 100000 in
theorem e_Survey_deepestHeard_4 (p0 : Option Nat) (p1 : Option Nat) (a2 : Int32) (a3 : Int32) (a4 : Int32) (a5 : Int32) (w6 : Option zVal) (h : zHeap) : zr 99 4 [yR p0, yR p1, yI a2, yI a3, yI a4, yI a5, w6] [] h =
    zoI (zgI h p1 130) fun x1 =>
    zif (decide (x1 ≤ a5))
      (some (zI a4, h))
      (zoR (zgR h p1 132) fun r2 =>
      zoI (zaI h r2 a2 0) fun x3 =>
      zbI (zv 2 46 [zR p1, zI x3, zI a3, zI a5] h) fun x5 h4 =>
      zif (decide (x5 ≠ 0))
        (zif (decide ((i32 0) = 0))
          (zr 99 4 [yR p0, yR p1, yI a2, yI a3, yI a4, yI (a5 + i32 1), yI (i32 0)] [] h4)
          (zif (decide (a4 = (i32 (-1))))
            (zr 99 4 [yR p0, yR p1, yI a2, yI a3, yI a5, yI (a5 + i32 1), yI (i32 0)] [] h4)
            (zoR (zgR h4 p1 135) fun r6 =>
            zoI (zaI h4 r6 a5 0) fun x7 =>
            zoR (zgR h4 p1 135) fun r8 =>
            zoI (zaI h4 r8 a4 0) fun x9 =>
            zif (decide (x7 ≤ x9))
              (zr 99 4 [yR p0, yR p1, yI a2, yI a3, yI a4, yI (a5 + i32 1), yI (i32 0)] [] h4)
              (zr 99 4 [yR p0, yR p1, yI a2, yI a3, yI a5, yI (a5 + i32 1), yI (i32 0)] [] h4))))
        (zif (decide ((i32 1) = 0))
          (zr 99 4 [yR p0, yR p1, yI a2, yI a3, yI a4, yI (a5 + i32 1), yI (i32 1)] [] h4)
          (zif (decide (a4 = (i32 (-1))))
            (zr 99 4 [yR p0, yR p1, yI a2, yI a3, yI a5, yI (a5 + i32 1), yI (i32 1)] [] h4)
            (zoR (zgR h4 p1 135) fun r10 =>
            zoI (zaI h4 r10 a5 0) fun x11 =>
            zoR (zgR h4 p1 135) fun r12 =>
            zoI (zaI h4 r12 a4 0) fun x13 =>
            zif (decide (x11 ≤ x13))
              (zr 99 4 [yR p0, yR p1, yI a2, yI a3, yI a4, yI (a5 + i32 1), yI (i32 1)] [] h4)
              (zr 99 4 [yR p0, yR p1, yI a2, yI a3, yI a5, yI (a5 + i32 1), yI (i32 1)] [] h4))))) := U_99 (zst [4]) 42 4 [yR p0, yR p1, yI a2, yI a3, yI a4, yI a5, w6] [] h
/-! 100 Survey_changedNotes (LReedOracles$Duchy;III)I -/
set_option maxRecDepth 100000 in
theorem e_Survey_changedNotes (p0 : Option Nat) (p1 : Option Nat) (a2 : Int32) (a3 : Int32) (a4 : Int32) (h : zHeap) : zc 100 [zR p0, zR p1, zI a2, zI a3, zI a4] h =
    zr 100 4 [yR p0, yR p1, yI a2, yI a3, yI a4, yI (i32 0), yI (i32 0), none] [] h := U_100 (zst [4]) 34 0 [yR p0, yR p1, yI a2, yI a3, yI a4, none, none, none] [] h
set_option maxRecDepth 100000 in
theorem e_Survey_changedNotes_4 (p0 : Option Nat) (p1 : Option Nat) (a2 : Int32) (a3 : Int32) (a4 : Int32) (a5 : Int32) (a6 : Int32) (w7 : Option zVal) (h : zHeap) : zr 100 4 [yR p0, yR p1, yI a2, yI a3, yI a4, yI a5, yI a6, w7] [] h =
    zoI (zgI h p1 130) fun x1 =>
    zif (decide (x1 ≤ a6))
      (zbI (zc 325 [zI a5] h) fun x3 h2 =>
      some (zI x3, h2))
      (zbI (zv 2 48 [zR p1, zI a2, zI a3, zI a6] h) fun x5 h4 =>
      zif (decide (x5 = (i32 (-1))))
        (zr 100 4 [yR p0, yR p1, yI a2, yI a3, yI a4, yI a5, yI (a6 + i32 1), yI x5] [] h4)
        (zbI (zv 2 50 [zR p1, zI x5] h4) fun x7 h6 =>
        zif (decide (x7 = a4))
          (zr 100 4 [yR p0, yR p1, yI a2, yI a3, yI a4, yI a5, yI (a6 + i32 1), yI x5] [] h6)
          (zr 100 4 [yR p0, yR p1, yI a2, yI a3, yI a4, yI (a5 ||| (zshl (i32 1) x5)), yI (a6 + i32 1), yI x5] [] h6))) := U_100 (zst [4]) 34 4 [yR p0, yR p1, yI a2, yI a3, yI a4, yI a5, yI a6, w7] [] h
/-! 101 Survey_leastChoir (LReedOracles$Duchy;I)I -/
set_option maxRecDepth 100000 in
theorem e_Survey_leastChoir (p0 : Option Nat) (p1 : Option Nat) (a2 : Int32) (h : zHeap) : zc 101 [zR p0, zR p1, zI a2] h =
    zr 101 2 [yR p0, yR p1, yI a2, yI (i32 0), none, none, none] [] h := U_101 (zst [2, 28]) 61 0 [yR p0, yR p1, yI a2, none, none, none, none] [] h
set_option maxRecDepth 100000 in
theorem e_Survey_leastChoir_2 (p0 : Option Nat) (p1 : Option Nat) (a2 : Int32) (a3 : Int32) (h : zHeap) : zr 101 2 [yR p0, yR p1, yI a2, yI a3, none, none, none] [] h =
    zoI (zgI h p1 128) fun x1 =>
    zif (decide (x1 ≤ a3))
      (zoI (zgI h p1 130) fun x2 =>
      zr 101 28 [yR p0, yR p1, yI a2, yI ((zshl (i32 1) x2) - (i32 1)), yI (i32 (-1)), yI (i32 0), none] [] h)
      (zoR (zgR h p0 386) fun r3 =>
      zbI (zv 6 102 [zR p0, zR p1, zI a3, zI a2] h) fun x5 h4 =>
      zoH (zaS h4 r3 a3 x5) fun h6 =>
      zr 101 2 [yR p0, yR p1, yI a2, yI (a3 + i32 1), none, none, none] [] h6) := U_101 (zst [2, 28]) 61 2 [yR p0, yR p1, yI a2, yI a3, none, none, none] [] h
set_option maxRecDepth 100000 in
theorem e_Survey_leastChoir_28 (p0 : Option Nat) (p1 : Option Nat) (a2 : Int32) (a3 : Int32) (a4 : Int32) (a5 : Int32) (w6 : Option zVal) (h : zHeap) : zr 101 28 [yR p0, yR p1, yI a2, yI a3, yI a4, yI a5, w6] [] h =
    zoI (zgI h p1 128) fun x1 =>
    zif (decide ((zshl (i32 1) x1) ≤ a5))
      (some (zI a4, h))
      (zif (decide (a4 = (i32 (-1))))
        (zif (decide ((i32 1) = 0))
          (zr 101 28 [yR p0, yR p1, yI a2, yI a3, yI a4, yI (a5 + i32 1), yI (i32 1)] [] h)
          (zbI (zv 6 103 [zR p0, zR p1, zI a5] h) fun x3 h2 =>
          zif (decide (x3 ≠ a3))
            (zr 101 28 [yR p0, yR p1, yI a2, yI a3, yI a4, yI (a5 + i32 1), yI (i32 1)] [] h2)
            (zr 101 28 [yR p0, yR p1, yI a2, yI a3, yI a5, yI (a5 + i32 1), yI (i32 1)] [] h2)))
        (zbI (zc 325 [zI a5] h) fun x5 h4 =>
        zbI (zc 325 [zI a4] h4) fun x7 h6 =>
        zif (decide (x7 ≤ x5))
          (zif (decide ((i32 0) = 0))
            (zr 101 28 [yR p0, yR p1, yI a2, yI a3, yI a4, yI (a5 + i32 1), yI (i32 0)] [] h6)
            (zbI (zv 6 103 [zR p0, zR p1, zI a5] h6) fun x9 h8 =>
            zif (decide (x9 ≠ a3))
              (zr 101 28 [yR p0, yR p1, yI a2, yI a3, yI a4, yI (a5 + i32 1), yI (i32 0)] [] h8)
              (zr 101 28 [yR p0, yR p1, yI a2, yI a3, yI a5, yI (a5 + i32 1), yI (i32 0)] [] h8)))
          (zif (decide ((i32 1) = 0))
            (zr 101 28 [yR p0, yR p1, yI a2, yI a3, yI a4, yI (a5 + i32 1), yI (i32 1)] [] h6)
            (zbI (zv 6 103 [zR p0, zR p1, zI a5] h6) fun x11 h10 =>
            zif (decide (x11 ≠ a3))
              (zr 101 28 [yR p0, yR p1, yI a2, yI a3, yI a4, yI (a5 + i32 1), yI (i32 1)] [] h10)
              (zr 101 28 [yR p0, yR p1, yI a2, yI a3, yI a5, yI (a5 + i32 1), yI (i32 1)] [] h10))))) := U_101 (zst [2, 28]) 61 28 [yR p0, yR p1, yI a2, yI a3, yI a4, yI a5, w6] [] h
/-! 102 Survey_heardQuestions (LReedOracles$Duchy;II)I -/
set_option maxRecDepth 100000 in
theorem e_Survey_heardQuestions (p0 : Option Nat) (p1 : Option Nat) (a2 : Int32) (a3 : Int32) (h : zHeap) : zc 102 [zR p0, zR p1, zI a2, zI a3] h =
    zr 102 4 [yR p0, yR p1, yI a2, yI a3, yI (i32 0), yI (i32 0)] [] h := U_102 (zst [4]) 28 0 [yR p0, yR p1, yI a2, yI a3, none, none] [] h
set_option maxRecDepth 100000 in
theorem e_Survey_heardQuestions_4 (p0 : Option Nat) (p1 : Option Nat) (a2 : Int32) (a3 : Int32) (a4 : Int32) (a5 : Int32) (h : zHeap) : zr 102 4 [yR p0, yR p1, yI a2, yI a3, yI a4, yI a5] [] h =
    zoI (zgI h p1 130) fun x1 =>
    zif (decide (x1 ≤ a5))
      (some (zI a4, h))
      (zoR (zgR h p1 132) fun r2 =>
      zoI (zaI h r2 a2 0) fun x3 =>
      zbI (zv 2 46 [zR p1, zI x3, zI a3, zI a5] h) fun x5 h4 =>
      zif (decide (x5 ≠ 0))
        (zr 102 4 [yR p0, yR p1, yI a2, yI a3, yI a4, yI (a5 + i32 1)] [] h4)
        (zr 102 4 [yR p0, yR p1, yI a2, yI a3, yI (a4 ||| (zshl (i32 1) a5)), yI (a5 + i32 1)] [] h4)) := U_102 (zst [4]) 28 4 [yR p0, yR p1, yI a2, yI a3, yI a4, yI a5] [] h
/-! 103 Survey_unionOf (LReedOracles$Duchy;I)I -/
set_option maxRecDepth 100000 in
theorem e_Survey_unionOf (p0 : Option Nat) (p1 : Option Nat) (a2 : Int32) (h : zHeap) : zc 103 [zR p0, zR p1, zI a2] h =
    zr 103 4 [yR p0, yR p1, yI a2, yI (i32 0), yI (i32 0)] [] h := U_103 (zst [4]) 27 0 [yR p0, yR p1, yI a2, none, none] [] h
set_option maxRecDepth 100000 in
theorem e_Survey_unionOf_4 (p0 : Option Nat) (p1 : Option Nat) (a2 : Int32) (a3 : Int32) (a4 : Int32) (h : zHeap) : zr 103 4 [yR p0, yR p1, yI a2, yI a3, yI a4] [] h =
    zoI (zgI h p1 128) fun x1 =>
    zif (decide (x1 ≤ a4))
      (some (zI a3, h))
      (zif (decide (((zshr a2 a4) &&& (i32 1)) ≠ (i32 1)))
        (zr 103 4 [yR p0, yR p1, yI a2, yI a3, yI (a4 + i32 1)] [] h)
        (zoR (zgR h p0 386) fun r2 =>
        zoI (zaI h r2 a4 0) fun x3 =>
        zr 103 4 [yR p0, yR p1, yI a2, yI (a3 ||| x3), yI (a4 + i32 1)] [] h)) := U_103 (zst [4]) 27 4 [yR p0, yR p1, yI a2, yI a3, yI a4] [] h
/-! 104 Survey_mostPeaceful (LReedOracles$Duchy;I)I -/
set_option maxRecDepth 100000 in
theorem e_Survey_mostPeaceful (p0 : Option Nat) (p1 : Option Nat) (a2 : Int32) (h : zHeap) : zc 104 [zR p0, zR p1, zI a2] h =
    zr 104 2 [yR p0, yR p1, yI a2, yI (i32 0), none, none] [] h := U_104 (zst [2, 21]) 52 0 [yR p0, yR p1, yI a2, none, none, none] [] h
set_option maxRecDepth 100000 in
theorem e_Survey_mostPeaceful_2 (p0 : Option Nat) (p1 : Option Nat) (a2 : Int32) (a3 : Int32) (h : zHeap) : zr 104 2 [yR p0, yR p1, yI a2, yI a3, none, none] [] h =
    zoI (zgI h p1 128) fun x1 =>
    zif (decide (x1 ≤ a3))
      (zr 104 21 [yR p0, yR p1, yI a2, yI (i32 0), yI (i32 0), none] [] h)
      (zoR (zgR h p0 386) fun r2 =>
      zbI (zv 6 105 [zR p0, zR p1, zI a3, zI a2] h) fun x4 h3 =>
      zoH (zaS h3 r2 a3 x4) fun h5 =>
      zr 104 2 [yR p0, yR p1, yI a2, yI (a3 + i32 1), none, none] [] h5) := U_104 (zst [2, 21]) 52 2 [yR p0, yR p1, yI a2, yI a3, none, none] [] h
set_option maxRecDepth 100000 in
theorem e_Survey_mostPeaceful_21 (p0 : Option Nat) (p1 : Option Nat) (a2 : Int32) (a3 : Int32) (a4 : Int32) (w5 : Option zVal) (h : zHeap) : zr 104 21 [yR p0, yR p1, yI a2, yI a3, yI a4, w5] [] h =
    zoI (zgI h p1 128) fun x1 =>
    zif (decide ((zshl (i32 1) x1) ≤ a4))
      (some (zI a3, h))
      (zbI (zc 325 [zI a4] h) fun x3 h2 =>
      zbI (zc 325 [zI a3] h2) fun x5 h4 =>
      zif (decide (x3 ≤ x5))
        (zif (decide ((i32 0) = 0))
          (zr 104 21 [yR p0, yR p1, yI a2, yI a3, yI (a4 + i32 1), yI (i32 0)] [] h4)
          (zbI (zv 6 103 [zR p0, zR p1, zI a4] h4) fun x7 h6 =>
          zif (decide ((x7 &&& a4) ≠ 0))
            (zr 104 21 [yR p0, yR p1, yI a2, yI a3, yI (a4 + i32 1), yI (i32 0)] [] h6)
            (zr 104 21 [yR p0, yR p1, yI a2, yI a4, yI (a4 + i32 1), yI (i32 0)] [] h6)))
        (zif (decide ((i32 1) = 0))
          (zr 104 21 [yR p0, yR p1, yI a2, yI a3, yI (a4 + i32 1), yI (i32 1)] [] h4)
          (zbI (zv 6 103 [zR p0, zR p1, zI a4] h4) fun x9 h8 =>
          zif (decide ((x9 &&& a4) ≠ 0))
            (zr 104 21 [yR p0, yR p1, yI a2, yI a3, yI (a4 + i32 1), yI (i32 1)] [] h8)
            (zr 104 21 [yR p0, yR p1, yI a2, yI a4, yI (a4 + i32 1), yI (i32 1)] [] h8)))) := U_104 (zst [2, 21]) 52 21 [yR p0, yR p1, yI a2, yI a3, yI a4, w5] [] h
/-! 105 Survey_foes (LReedOracles$Duchy;II)I -/
set_option maxRecDepth 100000 in
theorem e_Survey_foes (p0 : Option Nat) (p1 : Option Nat) (a2 : Int32) (a3 : Int32) (h : zHeap) : zc 105 [zR p0, zR p1, zI a2, zI a3] h =
    zr 105 4 [yR p0, yR p1, yI a2, yI a3, yI (i32 0), yI (i32 0), none, none] [] h := U_105 (zst [4, 16]) 41 0 [yR p0, yR p1, yI a2, yI a3, none, none, none, none] [] h
set_option maxRecDepth 100000 in
theorem e_Survey_foes_4 (p0 : Option Nat) (p1 : Option Nat) (a2 : Int32) (a3 : Int32) (a4 : Int32) (a5 : Int32) (w6 : Option zVal) (w7 : Option zVal) (h : zHeap) : zr 105 4 [yR p0, yR p1, yI a2, yI a3, yI a4, yI a5, w6, w7] [] h =
    zoI (zgI h p1 130) fun x1 =>
    zif (decide (x1 ≤ a5))
      (some (zI a4, h))
      (zbI (zv 2 51 [zR p1, zI a2, zI a3, zI a5] h) fun x3 h2 =>
      zr 105 16 [yR p0, yR p1, yI a2, yI a3, yI a4, yI a5, yI x3, yI (i32 0)] [] h2) := U_105 (zst [4, 16]) 41 4 [yR p0, yR p1, yI a2, yI a3, yI a4, yI a5, w6, w7] [] h
set_option maxRecDepth 100000 in
theorem e_Survey_foes_16 (p0 : Option Nat) (p1 : Option Nat) (a2 : Int32) (a3 : Int32) (a4 : Int32) (a5 : Int32) (a6 : Int32) (a7 : Int32) (h : zHeap) : zr 105 16 [yR p0, yR p1, yI a2, yI a3, yI a4, yI a5, yI a6, yI a7] [] h =
    zoI (zgI h p1 128) fun x1 =>
    zif (decide (x1 ≤ a7))
      (zr 105 4 [yR p0, yR p1, yI a2, yI a3, yI a4, yI (a5 + i32 1), yI a6, yI a7] [] h)
      (zbI (zv 2 51 [zR p1, zI a7, zI a3, zI a5] h) fun x3 h2 =>
      zbI (zc 195 [zI a6, zI x3] h2) fun x5 h4 =>
      zif (decide (x5 = 0))
        (zr 105 16 [yR p0, yR p1, yI a2, yI a3, yI a4, yI a5, yI a6, yI (a7 + i32 1)] [] h4)
        (zr 105 16 [yR p0, yR p1, yI a2, yI a3, yI (a4 ||| (zshl (i32 1) a7)), yI a5, yI a6, yI (a7 + i32 1)] [] h4)) := U_105 (zst [4, 16]) 41 16 [yR p0, yR p1, yI a2, yI a3, yI a4, yI a5, yI a6, yI a7] [] h
/-! 106 Survey_marches (LReedOracles$Duchy;I)I -/
set_option maxRecDepth 100000 in
theorem e_Survey_marches (p0 : Option Nat) (p1 : Option Nat) (a2 : Int32) (h : zHeap) : zc 106 [zR p0, zR p1, zI a2] h =
    zr 106 4 [yR p0, yR p1, yI a2, yI (i32 0), yI (i32 0), none, none] [] h := U_106 (zst [4, 10]) 40 0 [yR p0, yR p1, yI a2, none, none, none, none] [] h
set_option maxRecDepth 100000 in
theorem e_Survey_marches_4 (p0 : Option Nat) (p1 : Option Nat) (a2 : Int32) (a3 : Int32) (a4 : Int32) (w5 : Option zVal) (w6 : Option zVal) (h : zHeap) : zr 106 4 [yR p0, yR p1, yI a2, yI a3, yI a4, w5, w6] [] h =
    zoI (zgI h p1 128) fun x1 =>
    zif (decide (x1 ≤ a4))
      (some (zI a3, h))
      (zr 106 10 [yR p0, yR p1, yI a2, yI a3, yI a4, yI (i32 0), w6] [] h) := U_106 (zst [4, 10]) 40 4 [yR p0, yR p1, yI a2, yI a3, yI a4, w5, w6] [] h
set_option maxRecDepth 100000 in
theorem e_Survey_marches_10 (p0 : Option Nat) (p1 : Option Nat) (a2 : Int32) (a3 : Int32) (a4 : Int32) (a5 : Int32) (w6 : Option zVal) (h : zHeap) : zr 106 10 [yR p0, yR p1, yI a2, yI a3, yI a4, yI a5, w6] [] h =
    zoI (zgI h p1 129) fun x1 =>
    zif (decide (x1 ≤ a5))
      (zr 106 4 [yR p0, yR p1, yI a2, yI a3, yI (a4 + i32 1), yI a5, w6] [] h)
      (zbI (zv 2 51 [zR p1, zI a4, zI a5, zI a2] h) fun x3 h2 =>
      zif (decide (x3 = (i32 (-1))))
        (zr 106 10 [yR p0, yR p1, yI a2, yI a3, yI a4, yI (a5 + i32 1), yI x3] [] h2)
        (zbI (zv 6 107 [zR p0, zR p1, zI a4, zI a5, zI a2, zI x3] h2) fun x5 h4 =>
        zr 106 10 [yR p0, yR p1, yI a2, yI (a3 + x5), yI a4, yI (a5 + i32 1), yI x3] [] h4)) := U_106 (zst [4, 10]) 40 10 [yR p0, yR p1, yI a2, yI a3, yI a4, yI a5, w6] [] h
/-! 107 Survey_partners (LReedOracles$Duchy;IIII)I -/
set_option maxRecDepth 100000 in
theorem e_Survey_partners (p0 : Option Nat) (p1 : Option Nat) (a2 : Int32) (a3 : Int32) (a4 : Int32) (a5 : Int32) (h : zHeap) : zc 107 [zR p0, zR p1, zI a2, zI a3, zI a4, zI a5] h =
    zr 107 6 [yR p0, yR p1, yI a2, yI a3, yI a4, yI a5, yI (i32 0), yI (a2 + (i32 1)), none] [] h := U_107 (zst [6, 12]) 34 0 [yR p0, yR p1, yI a2, yI a3, yI a4, yI a5, none, none, none] [] h
set_option maxRecDepth 100000 in
theorem e_Survey_partners_6 (p0 : Option Nat) (p1 : Option Nat) (a2 : Int32) (a3 : Int32) (a4 : Int32) (a5 : Int32) (a6 : Int32) (a7 : Int32) (w8 : Option zVal) (h : zHeap) : zr 107 6 [yR p0, yR p1, yI a2, yI a3, yI a4, yI a5, yI a6, yI a7, w8] [] h =
    zoI (zgI h p1 128) fun x1 =>
    zif (decide (x1 ≤ a7))
      (some (zI a6, h))
      (zr 107 12 [yR p0, yR p1, yI a2, yI a3, yI a4, yI a5, yI a6, yI a7, yI (i32 0)] [] h) := U_107 (zst [6, 12]) 34 6 [yR p0, yR p1, yI a2, yI a3, yI a4, yI a5, yI a6, yI a7, w8] [] h
set_option maxRecDepth 100000 in
theorem e_Survey_partners_12 (p0 : Option Nat) (p1 : Option Nat) (a2 : Int32) (a3 : Int32) (a4 : Int32) (a5 : Int32) (a6 : Int32) (a7 : Int32) (a8 : Int32) (h : zHeap) : zr 107 12 [yR p0, yR p1, yI a2, yI a3, yI a4, yI a5, yI a6, yI a7, yI a8] [] h =
    zoI (zgI h p1 129) fun x1 =>
    zif (decide (x1 ≤ a8))
      (zr 107 6 [yR p0, yR p1, yI a2, yI a3, yI a4, yI a5, yI a6, yI (a7 + i32 1), yI a8] [] h)
      (zif (decide (a8 = a3))
        (zr 107 12 [yR p0, yR p1, yI a2, yI a3, yI a4, yI a5, yI a6, yI a7, yI (a8 + i32 1)] [] h)
        (zbI (zv 2 51 [zR p1, zI a7, zI a8, zI a4] h) fun x3 h2 =>
        zif (decide (x3 ≠ a5))
          (zr 107 12 [yR p0, yR p1, yI a2, yI a3, yI a4, yI a5, yI a6, yI a7, yI (a8 + i32 1)] [] h2)
          (zr 107 12 [yR p0, yR p1, yI a2, yI a3, yI a4, yI a5, yI (a6 + i32 1), yI a7, yI (a8 + i32 1)] [] h2))) := U_107 (zst [6, 12]) 34 12 [yR p0, yR p1, yI a2, yI a3, yI a4, yI a5, yI a6, yI a7, yI a8] [] h
/-! 108 Survey_triads (LReedOracles$Duchy;II)I -/
set_option maxRecDepth 100000 in
theorem e_Survey_triads (p0 : Option Nat) (p1 : Option Nat) (a2 : Int32) (a3 : Int32) (h : zHeap) : zc 108 [zR p0, zR p1, zI a2, zI a3] h =
    zoR (zgR h p0 384) fun r1 =>
    zbV (zc 324 [zR r1, zI (i32 0)] h) fun h2 =>
    zr 108 6 [yR p0, yR p1, yI a2, yI a3, yI (i32 0), none] [] h2 := U_108 (zst [6, 23]) 56 0 [yR p0, yR p1, yI a2, yI a3, none, none] [] h
set_option maxRecDepth 100000 in
theorem e_Survey_triads_6 (p0 : Option Nat) (p1 : Option Nat) (a2 : Int32) (a3 : Int32) (a4 : Int32) (h : zHeap) : zr 108 6 [yR p0, yR p1, yI a2, yI a3, yI a4, none] [] h =
    zoI (zgI h p1 128) fun x1 =>
    zif (decide (x1 ≤ a4))
      (zr 108 23 [yR p0, yR p1, yI a2, yI a3, yI (i32 0), yI (i32 0)] [] h)
      (zbI (zv 2 48 [zR p1, zI a4, zI a2, zI a3] h) fun x3 h2 =>
      zbV (zv 6 95 [zR p0, zI x3] h2) fun h4 =>
      zr 108 6 [yR p0, yR p1, yI a2, yI a3, yI (a4 + i32 1), none] [] h4) := U_108 (zst [6, 23]) 56 6 [yR p0, yR p1, yI a2, yI a3, yI a4, none] [] h
set_option maxRecDepth 100000 in
theorem e_Survey_triads_23 (p0 : Option Nat) (p1 : Option Nat) (a2 : Int32) (a3 : Int32) (a4 : Int32) (a5 : Int32) (h : zHeap) : zr 108 23 [yR p0, yR p1, yI a2, yI a3, yI a4, yI a5] [] h =
    zif (decide ((i32 8) ≤ a5))
      (some (zI a4, h))
      (zoR (zgR h p0 384) fun r1 =>
      zoI (zaI h r1 a5 0) fun x2 =>
      zoR (zgR h p0 384) fun r3 =>
      zoI (if (i32 8) = 0 then none else some (zrem (a5 + (i32 2)) (i32 8))) fun x4 =>
      zoI (zaI h r3 x4 0) fun x5 =>
      zoR (zgR h p0 384) fun r6 =>
      zoI (if (i32 8) = 0 then none else some (zrem (a5 + (i32 4)) (i32 8))) fun x7 =>
      zoI (zaI h r6 x7 0) fun x8 =>
      zr 108 23 [yR p0, yR p1, yI a2, yI a3, yI (a4 + ((x2 * x5) * x8)), yI (a5 + i32 1)] [] h) := U_108 (zst [6, 23]) 56 23 [yR p0, yR p1, yI a2, yI a3, yI a4, yI a5] [] h
/-! 109 Survey_twinCouples (LReedOracles$Duchy;)I -/
set_option maxRecDepth 100000 in
theorem e_Survey_twinCouples (p0 : Option Nat) (p1 : Option Nat) (h : zHeap) : zc 109 [zR p0, zR p1] h =
    zr 109 4 [yR p0, yR p1, yI (i32 0), yI (i32 0), none] [] h := U_109 (zst [4, 12]) 29 0 [yR p0, yR p1, none, none, none] [] h
set_option maxRecDepth 100000 in
theorem e_Survey_twinCouples_4 (p0 : Option Nat) (p1 : Option Nat) (a2 : Int32) (a3 : Int32) (w4 : Option zVal) (h : zHeap) : zr 109 4 [yR p0, yR p1, yI a2, yI a3, w4] [] h =
    zoI (zgI h p1 128) fun x1 =>
    zif (decide (x1 ≤ a3))
      (some (zI a2, h))
      (zr 109 12 [yR p0, yR p1, yI a2, yI a3, yI (a3 + (i32 1))] [] h) := U_109 (zst [4, 12]) 29 4 [yR p0, yR p1, yI a2, yI a3, w4] [] h
set_option maxRecDepth 100000 in
theorem e_Survey_twinCouples_12 (p0 : Option Nat) (p1 : Option Nat) (a2 : Int32) (a3 : Int32) (a4 : Int32) (h : zHeap) : zr 109 12 [yR p0, yR p1, yI a2, yI a3, yI a4] [] h =
    zoI (zgI h p1 128) fun x1 =>
    zif (decide (x1 ≤ a4))
      (zr 109 4 [yR p0, yR p1, yI a2, yI (a3 + i32 1), yI a4] [] h)
      (zbI (zc 110 [zR p1, zI a3, zI a4] h) fun x3 h2 =>
      zif (decide (x3 = 0))
        (zr 109 12 [yR p0, yR p1, yI a2, yI a3, yI (a4 + i32 1)] [] h2)
        (zr 109 12 [yR p0, yR p1, yI (a2 + i32 1), yI a3, yI (a4 + i32 1)] [] h2)) := U_109 (zst [4, 12]) 29 12 [yR p0, yR p1, yI a2, yI a3, yI a4] [] h
/-! 110 Survey_areTwins (LReedOracles$Duchy;II)Z -/
set_option maxRecDepth 100000 in
theorem e_Survey_areTwins (p0 : Option Nat) (a1 : Int32) (a2 : Int32) (h : zHeap) : zc 110 [zR p0, zI a1, zI a2] h =
    zr 110 2 [yR p0, yI a1, yI a2, yI (i32 0), none] [] h := U_110 (zst [2, 8]) 32 0 [yR p0, yI a1, yI a2, none, none] [] h
set_option maxRecDepth 100000 in
theorem e_Survey_areTwins_2 (p0 : Option Nat) (a1 : Int32) (a2 : Int32) (a3 : Int32) (w4 : Option zVal) (h : zHeap) : zr 110 2 [yR p0, yI a1, yI a2, yI a3, w4] [] h =
    zoI (zgI h p0 129) fun x1 =>
    zif (decide (x1 ≤ a3))
      (zrz (i32 1) h)
      (zr 110 8 [yR p0, yI a1, yI a2, yI a3, yI (i32 0)] [] h) := U_110 (zst [2, 8]) 32 2 [yR p0, yI a1, yI a2, yI a3, w4] [] h
set_option maxRecDepth 100000 in
theorem e_Survey_areTwins_8 (p0 : Option Nat) (a1 : Int32) (a2 : Int32) (a3 : Int32) (a4 : Int32) (h : zHeap) : zr 110 8 [yR p0, yI a1, yI a2, yI a3, yI a4] [] h =
    zoI (zgI h p0 130) fun x1 =>
    zif (decide (x1 ≤ a4))
      (zr 110 2 [yR p0, yI a1, yI a2, yI (a3 + i32 1), yI a4] [] h)
      (zbI (zv 2 48 [zR p0, zI a1, zI a3, zI a4] h) fun x3 h2 =>
      zbI (zv 2 48 [zR p0, zI a2, zI a3, zI a4] h2) fun x5 h4 =>
      zif (decide (x3 = x5))
        (zr 110 8 [yR p0, yI a1, yI a2, yI a3, yI (a4 + i32 1)] [] h4)
        (zrz (i32 0) h4)) := U_110 (zst [2, 8]) 32 8 [yR p0, yI a1, yI a2, yI a3, yI a4] [] h
/-! 111 Survey_cutsTo (LReedOracles$Duchy;I)I -/
set_option maxRecDepth 100000 in
theorem e_Survey_cutsTo (p0 : Option Nat) (p1 : Option Nat) (a2 : Int32) (h : zHeap) : zc 111 [zR p0, zR p1, zI a2] h =
    zr 111 4 [yR p0, yR p1, yI a2, yI (i32 0), yI (i32 0)] [] h := U_111 (zst [4]) 26 0 [yR p0, yR p1, yI a2, none, none] [] h
set_option maxRecDepth 100000 in
theorem e_Survey_cutsTo_4 (p0 : Option Nat) (p1 : Option Nat) (a2 : Int32) (a3 : Int32) (a4 : Int32) (h : zHeap) : zr 111 4 [yR p0, yR p1, yI a2, yI a3, yI a4] [] h =
    zoI (zgI h p1 128) fun x1 =>
    zif (decide (x1 ≤ a4))
      (some (zI a3, h))
      (zoR (zgR h p1 133) fun r2 =>
      zoI (zaI h r2 a4 0) fun x3 =>
      zoI (if (i32 8) = 0 then none else some (zrem ((a2 + (i32 8)) - x3) (i32 8))) fun x4 =>
      zr 111 4 [yR p0, yR p1, yI a2, yI (a3 + x4), yI (a4 + i32 1)] [] h) := U_111 (zst [4]) 26 4 [yR p0, yR p1, yI a2, yI a3, yI a4] [] h
/-! 112 Survey_bestKey (LReedOracles$Duchy;)I -/
set_option maxRecDepth 100000 in
theorem e_Survey_bestKey (p0 : Option Nat) (p1 : Option Nat) (h : zHeap) : zc 112 [zR p0, zR p1] h =
    zr 112 4 [yR p0, yR p1, yI (i32 0), yI (i32 1)] [] h := U_112 (zst [4]) 23 0 [yR p0, yR p1, none, none] [] h
set_option maxRecDepth 100000 in
theorem e_Survey_bestKey_4 (p0 : Option Nat) (p1 : Option Nat) (a2 : Int32) (a3 : Int32) (h : zHeap) : zr 112 4 [yR p0, yR p1, yI a2, yI a3] [] h =
    zif (decide ((i32 8) ≤ a3))
      (some (zI a2, h))
      (zbI (zv 6 111 [zR p0, zR p1, zI a3] h) fun x2 h1 =>
      zbI (zv 6 111 [zR p0, zR p1, zI a2] h1) fun x4 h3 =>
      zif (decide (x4 ≤ x2))
        (zr 112 4 [yR p0, yR p1, yI a2, yI (a3 + i32 1)] [] h3)
        (zr 112 4 [yR p0, yR p1, yI a3, yI (a3 + i32 1)] [] h3)) := U_112 (zst [4]) 23 4 [yR p0, yR p1, yI a2, yI a3] [] h
/-! 113 Survey_answersIn (LReedOracles$Duchy;II)I -/
set_option maxRecDepth 100000 in
theorem e_Survey_answersIn (p0 : Option Nat) (p1 : Option Nat) (a2 : Int32) (a3 : Int32) (h : zHeap) : zc 113 [zR p0, zR p1, zI a2, zI a3] h =
    zr 113 4 [yR p0, yR p1, yI a2, yI a3, yI (i32 0), yI (i32 0)] [] h := U_113 (zst [4]) 29 0 [yR p0, yR p1, yI a2, yI a3, none, none] [] h
set_option maxRecDepth 100000 in
theorem e_Survey_answersIn_4 (p0 : Option Nat) (p1 : Option Nat) (a2 : Int32) (a3 : Int32) (a4 : Int32) (a5 : Int32) (h : zHeap) : zr 113 4 [yR p0, yR p1, yI a2, yI a3, yI a4, yI a5] [] h =
    zif (decide ((i32 8) ≤ a5))
      (some (zI a4, h))
      (zoR (zgR h p1 137) fun r1 =>
      zoI (zaI h r1 a5 0) fun x2 =>
      zif (decide (x2 ≠ a3))
        (zr 113 4 [yR p0, yR p1, yI a2, yI a3, yI a4, yI (a5 + i32 1)] [] h)
        (zoR (zgR h p0 384) fun r3 =>
        zoI (if (i32 8) = 0 then none else some (zrem (a5 + a2) (i32 8))) fun x4 =>
        zoI (zaI h r3 x4 0) fun x5 =>
        zr 113 4 [yR p0, yR p1, yI a2, yI a3, yI (a4 + x5), yI (a5 + i32 1)] [] h)) := U_113 (zst [4]) 29 4 [yR p0, yR p1, yI a2, yI a3, yI a4, yI a5] [] h
/-! 114 Survey_fairestCold (LReedOracles$Duchy;I)I -/
set_option maxRecDepth 100000 in
theorem e_Survey_fairestCold (p0 : Option Nat) (p1 : Option Nat) (a2 : Int32) (h : zHeap) : zc 114 [zR p0, zR p1, zI a2] h =
    zr 114 4 [yR p0, yR p1, yI a2, yI (i32 0), yI (i32 1)] [] h := U_114 (zst [4]) 25 0 [yR p0, yR p1, yI a2, none, none] [] h
set_option maxRecDepth 100000 in
theorem e_Survey_fairestCold_4 (p0 : Option Nat) (p1 : Option Nat) (a2 : Int32) (a3 : Int32) (a4 : Int32) (h : zHeap) : zr 114 4 [yR p0, yR p1, yI a2, yI a3, yI a4] [] h =
    zif (decide ((i32 10) ≤ a4))
      (some (zI a3, h))
      (zbI (zv 6 113 [zR p0, zR p1, zI a4, zI a2] h) fun x2 h1 =>
      zbI (zv 6 113 [zR p0, zR p1, zI a3, zI a2] h1) fun x4 h3 =>
      zif (decide (x2 ≤ x4))
        (zr 114 4 [yR p0, yR p1, yI a2, yI a3, yI (a4 + i32 1)] [] h3)
        (zr 114 4 [yR p0, yR p1, yI a2, yI a4, yI (a4 + i32 1)] [] h3)) := U_114 (zst [4]) 25 4 [yR p0, yR p1, yI a2, yI a3, yI a4] [] h
/-! 115 Survey_shareOut (LReedOracles$Duchy;)V -/
set_option maxRecDepth 100000 in
theorem e_Survey_shareOut (p0 : Option Nat) (p1 : Option Nat) (h : zHeap) : zc 115 [zR p0, zR p1] h =
    zoR (zgR h p0 385) fun r1 =>
    zbV (zc 324 [zR r1, zI (i32 (-1))] h) fun h2 =>
    zr 115 10 [yR p0, yR p1, yI (i32 0), yI (i32 0), yI (i32 0), none, none] [] h2 := U_115 (zst [10]) 52 0 [yR p0, yR p1, none, none, none, none, none] [] h
set_option maxRecDepth 100000 in
theorem e_Survey_shareOut_10 (p0 : Option Nat) (p1 : Option Nat) (a2 : Int32) (a3 : Int32) (a4 : Int32) (w5 : Option zVal) (w6 : Option zVal) (h : zHeap) : zr 115 10 [yR p0, yR p1, yI a2, yI a3, yI a4, w5, w6] [] h =
    zoI (zgI h p1 129) fun x1 =>
    zif (decide (x1 ≤ a4))
      (some (zI 0, h))
      (zbI (zc 116 [zR p1, zI a2] h) fun x3 h2 =>
      zbI (zv 6 117 [zR p0, zR p1, zI a3, zI x3] h2) fun x5 h4 =>
      zif (decide (x3 = (i32 (-1))))
        (some (zI 0, h4))
        (zif (decide (x5 ≠ (i32 (-1))))
          (zoR (zgR h4 p0 385) fun r6 =>
          zoH (zaS h4 r6 x3 x5) fun h7 =>
          zr 115 10 [yR p0, yR p1, yI (a2 ||| (zshl (i32 1) x3)), yI (a3 ||| (zshl (i32 1) x5)), yI (a4 + i32 1), yI x3, yI x5] [] h7)
          (some (zI 0, h4)))) := U_115 (zst [10]) 52 10 [yR p0, yR p1, yI a2, yI a3, yI a4, w5, w6] [] h
/-! 116 Survey_strongest (LReedOracles$Duchy;I)I -/
set_option maxRecDepth 100000 in
theorem e_Survey_strongest (p0 : Option Nat) (a1 : Int32) (h : zHeap) : zc 116 [zR p0, zI a1] h =
    zr 116 4 [yR p0, yI a1, yI (i32 (-1)), yI (i32 0), none] [] h := U_116 (zst [4]) 39 0 [yR p0, yI a1, none, none, none] [] h
set_option maxRecDepth 100000 in
theorem e_Survey_strongest_4 (p0 : Option Nat) (a1 : Int32) (a2 : Int32) (a3 : Int32) (w4 : Option zVal) (h : zHeap) : zr 116 4 [yR p0, yI a1, yI a2, yI a3, w4] [] h =
    zoI (zgI h p0 129) fun x1 =>
    zif (decide (x1 ≤ a3))
      (some (zI a2, h))
      (zif (decide (((zshr a1 a3) &&& (i32 1)) ≠ 0))
        (zif (decide ((i32 0) = 0))
          (zr 116 4 [yR p0, yI a1, yI a2, yI (a3 + i32 1), yI (i32 0)] [] h)
          (zif (decide (a2 = (i32 (-1))))
            (zr 116 4 [yR p0, yI a1, yI a3, yI (a3 + i32 1), yI (i32 0)] [] h)
            (zoR (zgR h p0 134) fun r2 =>
            zoI (zaI h r2 a3 0) fun x3 =>
            zoR (zgR h p0 134) fun r4 =>
            zoI (zaI h r4 a2 0) fun x5 =>
            zif (decide (x3 ≤ x5))
              (zr 116 4 [yR p0, yI a1, yI a2, yI (a3 + i32 1), yI (i32 0)] [] h)
              (zr 116 4 [yR p0, yI a1, yI a3, yI (a3 + i32 1), yI (i32 0)] [] h))))
        (zif (decide ((i32 1) = 0))
          (zr 116 4 [yR p0, yI a1, yI a2, yI (a3 + i32 1), yI (i32 1)] [] h)
          (zif (decide (a2 = (i32 (-1))))
            (zr 116 4 [yR p0, yI a1, yI a3, yI (a3 + i32 1), yI (i32 1)] [] h)
            (zoR (zgR h p0 134) fun r6 =>
            zoI (zaI h r6 a3 0) fun x7 =>
            zoR (zgR h p0 134) fun r8 =>
            zoI (zaI h r8 a2 0) fun x9 =>
            zif (decide (x7 ≤ x9))
              (zr 116 4 [yR p0, yI a1, yI a2, yI (a3 + i32 1), yI (i32 1)] [] h)
              (zr 116 4 [yR p0, yI a1, yI a3, yI (a3 + i32 1), yI (i32 1)] [] h))))) := U_116 (zst [4]) 39 4 [yR p0, yI a1, yI a2, yI a3, w4] [] h
/-! 117 Survey_mostHeard (LReedOracles$Duchy;II)I -/
set_option maxRecDepth 100000 in
theorem e_Survey_mostHeard (p0 : Option Nat) (p1 : Option Nat) (a2 : Int32) (a3 : Int32) (h : zHeap) : zc 117 [zR p0, zR p1, zI a2, zI a3] h =
    zr 117 6 [yR p0, yR p1, yI a2, yI a3, yI (i32 (-1)), yI (i32 (-1)), yI (i32 0), none] [] h := U_117 (zst [6]) 39 0 [yR p0, yR p1, yI a2, yI a3, none, none, none, none] [] h
set_option maxRecDepth 100000 in
theorem e_Survey_mostHeard_6 (p0 : Option Nat) (p1 : Option Nat) (a2 : Int32) (a3 : Int32) (a4 : Int32) (a5 : Int32) (a6 : Int32) (w7 : Option zVal) (h : zHeap) : zr 117 6 [yR p0, yR p1, yI a2, yI a3, yI a4, yI a5, yI a6, w7] [] h =
    zoI (zgI h p1 128) fun x1 =>
    zif (decide (x1 ≤ a6))
      (some (zI a4, h))
      (zbI (zv 2 40 [zR p1, zI a3] h) fun x3 h2 =>
      zif (decide (x3 = 0))
        (some (zI a4, h2))
        (zbI (zv 6 102 [zR p0, zR p1, zI a6, zI a3] h2) fun x5 h4 =>
        zbI (zc 325 [zI x5] h4) fun x7 h6 =>
        zif (decide (((zshr a2 a6) &&& (i32 1)) ≠ 0))
          (zr 117 6 [yR p0, yR p1, yI a2, yI a3, yI a4, yI a5, yI (a6 + i32 1), yI x7] [] h6)
          (zif (decide (x7 ≤ a5))
            (zr 117 6 [yR p0, yR p1, yI a2, yI a3, yI a4, yI a5, yI (a6 + i32 1), yI x7] [] h6)
            (zr 117 6 [yR p0, yR p1, yI a2, yI a3, yI a6, yI x7, yI (a6 + i32 1), yI x7] [] h6)))) := U_117 (zst [6]) 39 6 [yR p0, yR p1, yI a2, yI a3, yI a4, yI a5, yI a6, w7] [] h
/-! 118 Survey_ownerOf (LReedOracles$Duchy;I)I -/
set_option maxRecDepth 100000 in
theorem e_Survey_ownerOf (p0 : Option Nat) (p1 : Option Nat) (a2 : Int32) (h : zHeap) : zc 118 [zR p0, zR p1, zI a2] h =
    zr 118 2 [yR p0, yR p1, yI a2, yI (i32 0)] [] h := U_118 (zst [2]) 19 0 [yR p0, yR p1, yI a2, none] [] h
set_option maxRecDepth 100000 in
theorem e_Survey_ownerOf_2 (p0 : Option Nat) (p1 : Option Nat) (a2 : Int32) (a3 : Int32) (h : zHeap) : zr 118 2 [yR p0, yR p1, yI a2, yI a3] [] h =
    zoI (zgI h p1 129) fun x1 =>
    zif (decide (x1 ≤ a3))
      (some (zI (i32 (-1)), h))
      (zoR (zgR h p0 385) fun r2 =>
      zoI (zaI h r2 a3 0) fun x3 =>
      zif (decide (x3 ≠ a2))
        (zr 118 2 [yR p0, yR p1, yI a2, yI (a3 + i32 1)] [] h)
        (some (zI a3, h))) := U_118 (zst [2]) 19 2 [yR p0, yR p1, yI a2, yI a3] [] h
/-! 119 Survey_wettings (LReedOracles$Duchy;I)I -/
set_option maxRecDepth 100000 in
theorem e_Survey_wettings (p0 : Option Nat) (p1 : Option Nat) (a2 : Int32) (h : zHeap) : zc 119 [zR p0, zR p1, zI a2] h =
    zoR (zgR h p1 132) fun r1 =>
    zoI (zaI h r1 a2 0) fun x2 =>
    zr 119 7 [yR p0, yR p1, yI a2, yI x2, yI (i32 0)] [] h := U_119 (zst [7]) 24 0 [yR p0, yR p1, yI a2, none, none] [] h
set_option maxRecDepth 100000 in
theorem e_Survey_wettings_7 (p0 : Option Nat) (p1 : Option Nat) (a2 : Int32) (a3 : Int32) (a4 : Int32) (h : zHeap) : zr 119 7 [yR p0, yR p1, yI a2, yI a3, yI a4] [] h =
    zif (decide ((i32 3) < a4))
      (some (zI (i32 (-1)), h))
      (zbI (zc 120 [zR p1, zI a3] h) fun x2 h1 =>
      zif (decide (x2 = 0))
        (zbI (zc 194 [zI a3] h1) fun x4 h3 =>
        zr 119 7 [yR p0, yR p1, yI a2, yI x4, yI (a4 + i32 1)] [] h3)
        (some (zI a4, h1))) := U_119 (zst [7]) 24 7 [yR p0, yR p1, yI a2, yI a3, yI a4] [] h
/-! 120 Survey_neverCoughs (LReedOracles$Duchy;I)Z -/
set_option maxRecDepth 100000 in
theorem e_Survey_neverCoughs (p0 : Option Nat) (a1 : Int32) (h : zHeap) : zc 120 [zR p0, zI a1] h =
    zr 120 2 [yR p0, yI a1, yI (i32 0), none] [] h := U_120 (zst [2, 8]) 27 0 [yR p0, yI a1, none, none] [] h
set_option maxRecDepth 100000 in
theorem e_Survey_neverCoughs_2 (p0 : Option Nat) (a1 : Int32) (a2 : Int32) (w3 : Option zVal) (h : zHeap) : zr 120 2 [yR p0, yI a1, yI a2, w3] [] h =
    zoI (zgI h p0 129) fun x1 =>
    zif (decide (x1 ≤ a2))
      (zrz (i32 1) h)
      (zr 120 8 [yR p0, yI a1, yI a2, yI (i32 0)] [] h) := U_120 (zst [2, 8]) 27 2 [yR p0, yI a1, yI a2, w3] [] h
set_option maxRecDepth 100000 in
theorem e_Survey_neverCoughs_8 (p0 : Option Nat) (a1 : Int32) (a2 : Int32) (a3 : Int32) (h : zHeap) : zr 120 8 [yR p0, yI a1, yI a2, yI a3] [] h =
    zoI (zgI h p0 130) fun x1 =>
    zif (decide (x1 ≤ a3))
      (zr 120 2 [yR p0, yI a1, yI (a2 + i32 1), yI a3] [] h)
      (zbI (zv 2 46 [zR p0, zI a1, zI a2, zI a3] h) fun x3 h2 =>
      zif (decide (x3 = 0))
        (zr 120 8 [yR p0, yI a1, yI a2, yI (a3 + i32 1)] [] h2)
        (zrz (i32 0) h2)) := U_120 (zst [2, 8]) 27 8 [yR p0, yI a1, yI a2, yI a3] [] h
/-! 121 Survey_agreement (LReedOracles$Duchy;II)I -/
set_option maxRecDepth 100000 in
theorem e_Survey_agreement (p0 : Option Nat) (p1 : Option Nat) (a2 : Int32) (a3 : Int32) (h : zHeap) : zc 121 [zR p0, zR p1, zI a2, zI a3] h =
    zr 121 4 [yR p0, yR p1, yI a2, yI a3, yI (i32 0), yI (i32 0), none, none] [] h := U_121 (zst [4, 11]) 34 0 [yR p0, yR p1, yI a2, yI a3, none, none, none, none] [] h
set_option maxRecDepth 100000 in
theorem e_Survey_agreement_4 (p0 : Option Nat) (p1 : Option Nat) (a2 : Int32) (a3 : Int32) (a4 : Int32) (a5 : Int32) (w6 : Option zVal) (w7 : Option zVal) (h : zHeap) : zr 121 4 [yR p0, yR p1, yI a2, yI a3, yI a4, yI a5, w6, w7] [] h =
    zif (decide ((i32 3) ≤ a5))
      (some (zI a4, h))
      (zr 121 11 [yR p0, yR p1, yI a2, yI a3, yI a4, yI a5, yI (i32 0), yI (i32 0)] [] h) := U_121 (zst [4, 11]) 34 4 [yR p0, yR p1, yI a2, yI a3, yI a4, yI a5, w6, w7] [] h
set_option maxRecDepth 100000 in
theorem e_Survey_agreement_11 (p0 : Option Nat) (p1 : Option Nat) (a2 : Int32) (a3 : Int32) (a4 : Int32) (a5 : Int32) (a6 : Int32) (a7 : Int32) (h : zHeap) : zr 121 11 [yR p0, yR p1, yI a2, yI a3, yI a4, yI a5, yI a6, yI a7] [] h =
    zoI (zgI h p1 129) fun x1 =>
    zif (decide (x1 ≤ a7))
      (zr 121 4 [yR p0, yR p1, yI a2, yI a3, yI (zmax a4 a6), yI (a5 + i32 1), yI a6, yI a7] [] h)
      (zbI (zv 2 51 [zR p1, zI a2, zI a7, zI a3] h) fun x3 h2 =>
      zif (decide (x3 ≠ a5))
        (zr 121 11 [yR p0, yR p1, yI a2, yI a3, yI a4, yI a5, yI a6, yI (a7 + i32 1)] [] h2)
        (zr 121 11 [yR p0, yR p1, yI a2, yI a3, yI a4, yI a5, yI (a6 + i32 1), yI (a7 + i32 1)] [] h2)) := U_121 (zst [4, 11]) 34 11 [yR p0, yR p1, yI a2, yI a3, yI a4, yI a5, yI a6, yI a7] [] h
/-! 122 Survey_clearestReed (LReedOracles$Duchy;I)I -/
set_option maxRecDepth 100000 in
theorem e_Survey_clearestReed (p0 : Option Nat) (p1 : Option Nat) (a2 : Int32) (h : zHeap) : zc 122 [zR p0, zR p1, zI a2] h =
    zr 122 6 [yR p0, yR p1, yI a2, yI (i32 (-1)), yI (i32 (-1)), yI (i32 0), none] [] h := U_122 (zst [6]) 28 0 [yR p0, yR p1, yI a2, none, none, none, none] [] h
set_option maxRecDepth 100000 in
theorem e_Survey_clearestReed_6 (p0 : Option Nat) (p1 : Option Nat) (a2 : Int32) (a3 : Int32) (a4 : Int32) (a5 : Int32) (w6 : Option zVal) (h : zHeap) : zr 122 6 [yR p0, yR p1, yI a2, yI a3, yI a4, yI a5, w6] [] h =
    zoI (zgI h p1 128) fun x1 =>
    zif (decide (x1 ≤ a5))
      (some (zI a3, h))
      (zbI (zv 6 121 [zR p0, zR p1, zI a5, zI a2] h) fun x3 h2 =>
      zif (decide (x3 ≤ a4))
        (zr 122 6 [yR p0, yR p1, yI a2, yI a3, yI a4, yI (a5 + i32 1), yI x3] [] h2)
        (zr 122 6 [yR p0, yR p1, yI a2, yI a5, yI x3, yI (a5 + i32 1), yI x3] [] h2)) := U_122 (zst [6]) 28 6 [yR p0, yR p1, yI a2, yI a3, yI a4, yI a5, w6] [] h
/-! 123 Suspects_init ()V -/
set_option maxRecDepth 100000 in
theorem e_Suspects_init (p0 : Nat) (h : zHeap) : zc 123 [zR (some p0)] h =
    zoN (zlen (i32 80)) fun n1 =>
    zoH (zpR (znA 0 n1 h) (some p0) 449 (some (hN h))) fun h2 =>
    zoN (zlen (i32 9)) fun n3 =>
    zoH (zpR (znA 0 n3 h2) (some p0) 450 (some (hN h2))) fun h4 =>
    some (zI 0, h4) := U_123 (zst []) 12 0 [yR (some p0)] [] h
/-! 124 Suspects_gather (LReedOracles$Duchy;LReedOracles$Log;)V -/
set_option maxRecDepth 100000 in
theorem e_Suspects_gather (p0 : Option Nat) (p1 : Option Nat) (p2 : Option Nat) (h : zHeap) : zc 124 [zR p0, zR p1, zR p2] h =
    zoH (zpI h p0 448 (i32 0)) fun h1 =>
    zr 124 5 [yR p0, yR p1, yR p2, yI (i32 0)] [] h1 := U_124 (zst [5]) 34 0 [yR p0, yR p1, yR p2, none] [] h
set_option maxRecDepth 100000 in
theorem e_Suspects_gather_5 (p0 : Option Nat) (p1 : Option Nat) (p2 : Option Nat) (a3 : Int32) (h : zHeap) : zr 124 5 [yR p0, yR p1, yR p2, yI a3] [] h =
    zif (decide ((i32 80) ≤ a3))
      (some (zI 0, h))
      (zoI (if (i32 8) = 0 then none else some (a3 / (i32 8))) fun x1 =>
      zoI (if (i32 8) = 0 then none else some (zrem a3 (i32 8))) fun x2 =>
      zbI (zc 125 [zR p1, zR p2, zI x1, zI x2] h) fun x4 h3 =>
      zif (decide (x4 = 0))
        (zr 124 5 [yR p0, yR p1, yR p2, yI (a3 + i32 1)] [] h3)
        (zoR (zgR h3 p0 449) fun r5 =>
        zoI (zgI h3 p0 448) fun x6 =>
        zoH (zaS h3 r5 x6 a3) fun h7 =>
        zoI (zgI h7 p0 448) fun x8 =>
        zoH (zpI h7 p0 448 (x8 + (i32 1))) fun h9 =>
        zr 124 5 [yR p0, yR p1, yR p2, yI (a3 + i32 1)] [] h9)) := U_124 (zst [5]) 34 5 [yR p0, yR p1, yR p2, yI a3] [] h
/-! 125 Suspects_agrees (LReedOracles$Duchy;LReedOracles$Log;II)Z -/
set_option maxRecDepth 100000 in
theorem e_Suspects_agrees (p0 : Option Nat) (p1 : Option Nat) (a2 : Int32) (a3 : Int32) (h : zHeap) : zc 125 [zR p0, zR p1, zI a2, zI a3] h =
    zr 125 2 [yR p0, yR p1, yI a2, yI a3, yI (i32 0), none] [] h := U_125 (zst [2]) 36 0 [yR p0, yR p1, yI a2, yI a3, none, none] [] h
set_option maxRecDepth 100000 in
theorem e_Suspects_agrees_2 (p0 : Option Nat) (p1 : Option Nat) (a2 : Int32) (a3 : Int32) (a4 : Int32) (w5 : Option zVal) (h : zHeap) : zr 125 2 [yR p0, yR p1, yI a2, yI a3, yI a4, w5] [] h =
    zoI (zgI h p1 192) fun x1 =>
    zif (decide (x1 ≤ a4))
      (zrz (i32 1) h)
      (zbI (zc 193 [zI a2, zI a4] h) fun x3 h2 =>
      zoI (zgI h2 p0 131) fun x4 =>
      zoR (zgR h2 p1 193) fun r5 =>
      zoI (zaI h2 r5 a4 0) fun x6 =>
      zoR (zgR h2 p1 194) fun r7 =>
      zoI (zaI h2 r7 a4 0) fun x8 =>
      zbI (zv 2 47 [zR p0, zI x3, zI a3, zI x4, zI x6, zI x8] h2) fun x10 h9 =>
      zoR (zgR h9 p1 195) fun r11 =>
      zoI (zaI h9 r11 a4 0) fun x12 =>
      zif (decide (x10 = x12))
        (zr 125 2 [yR p0, yR p1, yI a2, yI a3, yI (a4 + i32 1), yI x10] [] h9)
        (zrz (i32 0) h9)) := U_125 (zst [2]) 36 2 [yR p0, yR p1, yI a2, yI a3, yI a4, w5] [] h
/-! 126 Suspects_suspectAt (I)I -/
set_option maxRecDepth 100000 in
theorem e_Suspects_suspectAt (p0 : Option Nat) (a1 : Int32) (h : zHeap) : zc 126 [zR p0, zI a1] h =
    zif (decide (a1 < 0))
      (some (zI (i32 (-2)), h))
      (zoI (zgI h p0 448) fun x1 =>
      zif (decide (x1 ≤ a1))
        (some (zI (i32 (-2)), h))
        (zoR (zgR h p0 449) fun r2 =>
        zoI (zaI h r2 a1 0) fun x3 =>
        some (zI x3, h))) := U_126 (zst []) 14 0 [yR p0, yI a1] [] h
/-! 127 Suspects_sureWet ()I -/
set_option maxRecDepth 100000 in
theorem e_Suspects_sureWet (p0 : Option Nat) (h : zHeap) : zc 127 [zR p0] h =
    zr 127 2 [yR p0, yI (i32 1)] [] h := U_127 (zst [2]) 36 0 [yR p0, none] [] h
set_option maxRecDepth 100000 in
theorem e_Suspects_sureWet_2 (p0 : Option Nat) (a1 : Int32) (h : zHeap) : zr 127 2 [yR p0, yI a1] [] h =
    zoI (zgI h p0 448) fun x1 =>
    zif (decide (x1 ≤ a1))
      (zoI (zgI h p0 448) fun x2 =>
      zif (decide (x2 ≠ 0))
        (zoR (zgR h p0 449) fun r3 =>
        zoI (zaI h r3 (i32 0) 0) fun x4 =>
        zoI (if (i32 8) = 0 then none else some (x4 / (i32 8))) fun x5 =>
        some (zI x5, h))
        (some (zI (i32 (-1)), h)))
      (zoR (zgR h p0 449) fun r6 =>
      zoI (zaI h r6 a1 0) fun x7 =>
      zoI (if (i32 8) = 0 then none else some (x7 / (i32 8))) fun x8 =>
      zoR (zgR h p0 449) fun r9 =>
      zoI (zaI h r9 (i32 0) 0) fun x10 =>
      zoI (if (i32 8) = 0 then none else some (x10 / (i32 8))) fun x11 =>
      zif (decide (x8 = x11))
        (zr 127 2 [yR p0, yI (a1 + i32 1)] [] h)
        (some (zI (i32 (-1)), h))) := U_127 (zst [2]) 36 2 [yR p0, yI a1] [] h
/-! 128 Suspects_sureKey ()I -/
set_option maxRecDepth 100000 in
theorem e_Suspects_sureKey (p0 : Option Nat) (h : zHeap) : zc 128 [zR p0] h =
    zr 128 2 [yR p0, yI (i32 1)] [] h := U_128 (zst [2]) 36 0 [yR p0, none] [] h
set_option maxRecDepth 100000 in
theorem e_Suspects_sureKey_2 (p0 : Option Nat) (a1 : Int32) (h : zHeap) : zr 128 2 [yR p0, yI a1] [] h =
    zoI (zgI h p0 448) fun x1 =>
    zif (decide (x1 ≤ a1))
      (zoI (zgI h p0 448) fun x2 =>
      zif (decide (x2 ≠ 0))
        (zoR (zgR h p0 449) fun r3 =>
        zoI (zaI h r3 (i32 0) 0) fun x4 =>
        zoI (if (i32 8) = 0 then none else some (zrem x4 (i32 8))) fun x5 =>
        some (zI x5, h))
        (some (zI (i32 (-1)), h)))
      (zoR (zgR h p0 449) fun r6 =>
      zoI (zaI h r6 a1 0) fun x7 =>
      zoI (if (i32 8) = 0 then none else some (zrem x7 (i32 8))) fun x8 =>
      zoR (zgR h p0 449) fun r9 =>
      zoI (zaI h r9 (i32 0) 0) fun x10 =>
      zoI (if (i32 8) = 0 then none else some (zrem x10 (i32 8))) fun x11 =>
      zif (decide (x8 = x11))
        (zr 128 2 [yR p0, yI (a1 + i32 1)] [] h)
        (some (zI (i32 (-1)), h))) := U_128 (zst [2]) 36 2 [yR p0, yI a1] [] h
/-! 129 Suspects_whose (LReedOracles$Duchy;LReedOracles$Log;)I -/
set_option maxRecDepth 100000 in
theorem e_Suspects_whose (p0 : Option Nat) (p1 : Option Nat) (p2 : Option Nat) (h : zHeap) : zc 129 [zR p0, zR p1, zR p2] h =
    zr 129 4 [yR p0, yR p1, yR p2, yI (i32 0), yI (i32 0)] [] h := U_129 (zst [4]) 31 0 [yR p0, yR p1, yR p2, none, none] [] h
set_option maxRecDepth 100000 in
theorem e_Suspects_whose_4 (p0 : Option Nat) (p1 : Option Nat) (p2 : Option Nat) (a3 : Int32) (a4 : Int32) (h : zHeap) : zr 129 4 [yR p0, yR p1, yR p2, yI a3, yI a4] [] h =
    zoI (zgI h p1 128) fun x1 =>
    zif (decide (x1 ≤ a4))
      (some (zI a3, h))
      (zoR (zgR h p1 132) fun r2 =>
      zoI (zaI h r2 a4 0) fun x3 =>
      zoR (zgR h p1 133) fun r4 =>
      zoI (zaI h r4 a4 0) fun x5 =>
      zbI (zc 125 [zR p1, zR p2, zI x3, zI x5] h) fun x7 h6 =>
      zif (decide (x7 = 0))
        (zr 129 4 [yR p0, yR p1, yR p2, yI a3, yI (a4 + i32 1)] [] h6)
        (zr 129 4 [yR p0, yR p1, yR p2, yI (a3 ||| (zshl (i32 1) a4)), yI (a4 + i32 1)] [] h6)) := U_129 (zst [4]) 31 4 [yR p0, yR p1, yR p2, yI a3, yI a4] [] h
/-! 130 Suspects_nextToAsk (LReedOracles$Duchy;I)I -/
set_option maxRecDepth 100000 in
theorem e_Suspects_nextToAsk (p0 : Option Nat) (p1 : Option Nat) (a2 : Int32) (h : zHeap) : zc 130 [zR p0, zR p1, zI a2] h =
    zoI (zgI h p0 448) fun x1 =>
    zr 130 9 [yR p0, yR p1, yI a2, yI (i32 (-1)), yI (x1 + (i32 1)), yI (i32 0), none, none] [] h := U_130 (zst [9, 18]) 47 0 [yR p0, yR p1, yI a2, none, none, none, none, none] [] h
set_option maxRecDepth 100000 in
theorem e_Suspects_nextToAsk_9 (p0 : Option Nat) (p1 : Option Nat) (a2 : Int32) (a3 : Int32) (a4 : Int32) (a5 : Int32) (w6 : Option zVal) (w7 : Option zVal) (h : zHeap) : zr 130 9 [yR p0, yR p1, yI a2, yI a3, yI a4, yI a5, w6, w7] [] h =
    zoI (zgI h p1 129) fun x1 =>
    zif (decide (x1 ≤ a5))
      (some (zI a3, h))
      (zoI (zgI h p0 448) fun x2 =>
      zif (decide (x2 ≤ 0))
        (some (zI a3, h))
        (zr 130 18 [yR p0, yR p1, yI a2, yI a3, yI a4, yI a5, yI (i32 0), w7] [] h)) := U_130 (zst [9, 18]) 47 9 [yR p0, yR p1, yI a2, yI a3, yI a4, yI a5, w6, w7] [] h
set_option maxRecDepth 100000 in
theorem e_Suspects_nextToAsk_18 (p0 : Option Nat) (p1 : Option Nat) (a2 : Int32) (a3 : Int32) (a4 : Int32) (a5 : Int32) (a6 : Int32) (w7 : Option zVal) (h : zHeap) : zr 130 18 [yR p0, yR p1, yI a2, yI a3, yI a4, yI a5, yI a6, w7] [] h =
    zoI (zgI h p1 130) fun x1 =>
    zif (decide (x1 ≤ a6))
      (zr 130 9 [yR p0, yR p1, yI a2, yI a3, yI a4, yI (a5 + i32 1), yI a6, w7] [] h)
      (zbI (zv 7 132 [zR p0, zR p1, zI a2, zI a5, zI a6] h) fun x3 h2 =>
      zif (decide (a4 ≤ x3))
        (zr 130 18 [yR p0, yR p1, yI a2, yI a3, yI a4, yI a5, yI (a6 + i32 1), yI x3] [] h2)
        (zr 130 18 [yR p0, yR p1, yI a2, yI (((i32 10) * a5) + a6), yI x3, yI a5, yI (a6 + i32 1), yI x3] [] h2)) := U_130 (zst [9, 18]) 47 18 [yR p0, yR p1, yI a2, yI a3, yI a4, yI a5, yI a6, w7] [] h
/-! 131 Suspects_nextNote (LReedOracles$Duchy;IIII)I -/
set_option maxRecDepth 100000 in
theorem e_Suspects_nextNote (p0 : Option Nat) (p1 : Option Nat) (a2 : Int32) (a3 : Int32) (a4 : Int32) (a5 : Int32) (h : zHeap) : zc 131 [zR p0, zR p1, zI a2, zI a3, zI a4, zI a5] h =
    zoI (if (i32 8) = 0 then none else some (a2 / (i32 8))) fun x1 =>
    zbI (zc 193 [zI x1, zI a3] h) fun x3 h2 =>
    zoI (if (i32 8) = 0 then none else some (zrem a2 (i32 8))) fun x4 =>
    zoI (zgI h2 p1 131) fun x5 =>
    zbI (zv 2 47 [zR p1, zI x3, zI x4, zI x5, zI a4, zI a5] h2) fun x7 h6 =>
    some (zI x7, h6) := U_131 (zst []) 18 0 [yR p0, yR p1, yI a2, yI a3, yI a4, yI a5, none] [] h
/-! 132 Suspects_greatestHeap (LReedOracles$Duchy;III)I -/
set_option maxRecDepth 100000 in
theorem e_Suspects_greatestHeap (p0 : Option Nat) (p1 : Option Nat) (a2 : Int32) (a3 : Int32) (a4 : Int32) (h : zHeap) : zc 132 [zR p0, zR p1, zI a2, zI a3, zI a4] h =
    zoR (zgR h p0 450) fun r1 =>
    zbV (zc 324 [zR r1, zI (i32 0)] h) fun h2 =>
    zr 132 8 [yR p0, yR p1, yI a2, yI a3, yI a4, yI (i32 0), yI (i32 0), none, none] [] h2 := U_132 (zst [8]) 50 0 [yR p0, yR p1, yI a2, yI a3, yI a4, none, none, none, none] [] h
set_option maxRecDepth 100000 in
theorem e_Suspects_greatestHeap_8 (p0 : Option Nat) (p1 : Option Nat) (a2 : Int32) (a3 : Int32) (a4 : Int32) (a5 : Int32) (a6 : Int32) (w7 : Option zVal) (w8 : Option zVal) (h : zHeap) : zr 132 8 [yR p0, yR p1, yI a2, yI a3, yI a4, yI a5, yI a6, w7, w8] [] h =
    zoI (zgI h p0 448) fun x1 =>
    zif (decide (x1 ≤ a6))
      (some (zI a5, h))
      (zoR (zgR h p0 449) fun r2 =>
      zoI (zaI h r2 a6 0) fun x3 =>
      zbI (zv 7 131 [zR p0, zR p1, zI x3, zI a2, zI a3, zI a4] h) fun x5 h4 =>
      zif (decide (x5 ≠ (i32 (-1))))
        (zoR (zgR h4 p0 450) fun r6 =>
        zoI (zaI h4 r6 x5 0) fun x7 =>
        zoH (zaS h4 r6 x5 (x7 + (i32 1))) fun h8 =>
        zoR (zgR h8 p0 450) fun r9 =>
        zoI (zaI h8 r9 x5 0) fun x10 =>
        zr 132 8 [yR p0, yR p1, yI a2, yI a3, yI a4, yI (zmax a5 x10), yI (a6 + i32 1), yI x5, yI x5] [] h8)
        (zoR (zgR h4 p0 450) fun r11 =>
        zoI (zaI h4 r11 (i32 8) 0) fun x12 =>
        zoH (zaS h4 r11 (i32 8) (x12 + (i32 1))) fun h13 =>
        zoR (zgR h13 p0 450) fun r14 =>
        zoI (zaI h13 r14 (i32 8) 0) fun x15 =>
        zr 132 8 [yR p0, yR p1, yI a2, yI a3, yI a4, yI (zmax a5 x15), yI (a6 + i32 1), yI x5, yI (i32 8)] [] h13)) := U_132 (zst [8]) 50 8 [yR p0, yR p1, yI a2, yI a3, yI a4, yI a5, yI a6, w7, w8] [] h
/-! 133 Suspects_answering (LReedOracles$Duchy;IIII)I -/
set_option maxRecDepth 100000 in
theorem e_Suspects_answering (p0 : Option Nat) (p1 : Option Nat) (a2 : Int32) (a3 : Int32) (a4 : Int32) (a5 : Int32) (h : zHeap) : zc 133 [zR p0, zR p1, zI a2, zI a3, zI a4, zI a5] h =
    zr 133 4 [yR p0, yR p1, yI a2, yI a3, yI a4, yI a5, yI (i32 0), yI (i32 0)] [] h := U_133 (zst [4]) 28 0 [yR p0, yR p1, yI a2, yI a3, yI a4, yI a5, none, none] [] h
set_option maxRecDepth 100000 in
theorem e_Suspects_answering_4 (p0 : Option Nat) (p1 : Option Nat) (a2 : Int32) (a3 : Int32) (a4 : Int32) (a5 : Int32) (a6 : Int32) (a7 : Int32) (h : zHeap) : zr 133 4 [yR p0, yR p1, yI a2, yI a3, yI a4, yI a5, yI a6, yI a7] [] h =
    zoI (zgI h p0 448) fun x1 =>
    zif (decide (x1 ≤ a7))
      (some (zI a6, h))
      (zoR (zgR h p0 449) fun r2 =>
      zoI (zaI h r2 a7 0) fun x3 =>
      zbI (zv 7 131 [zR p0, zR p1, zI x3, zI a2, zI a3, zI a4] h) fun x5 h4 =>
      zbI (zv 2 50 [zR p1, zI x5] h4) fun x7 h6 =>
      zif (decide (x7 ≠ a5))
        (zr 133 4 [yR p0, yR p1, yI a2, yI a3, yI a4, yI a5, yI a6, yI (a7 + i32 1)] [] h6)
        (zr 133 4 [yR p0, yR p1, yI a2, yI a3, yI a4, yI a5, yI (a6 + i32 1), yI (a7 + i32 1)] [] h6)) := U_133 (zst [4]) 28 4 [yR p0, yR p1, yI a2, yI a3, yI a4, yI a5, yI a6, yI a7] [] h
/-! 134 Tape_init ()V -/
set_option maxRecDepth 100000 in
theorem e_Tape_init (p0 : Nat) (h : zHeap) : zc 134 [zR (some p0)] h =
    zoN (zlen (i32 600)) fun n1 =>
    zoH (zpR (znA 1 n1 h) (some p0) 512 (some (hN h))) fun h2 =>
    some (zI 0, h2) := U_134 (zst []) 8 0 [yR (some p0)] [] h
/-! 135 Tape_append (I)V -/
set_option maxRecDepth 100000 in
theorem e_Tape_append (p0 : Option Nat) (a1 : Int32) (h : zHeap) : zc 135 [zR p0, zI a1] h =
    zr 135 2 [yR p0, yI a1, yI (i32 24)] [] h := U_135 (zst [2]) 27 0 [yR p0, yI a1, none] [] h
set_option maxRecDepth 100000 in
theorem e_Tape_append_2 (p0 : Option Nat) (a1 : Int32) (a2 : Int32) (h : zHeap) : zr 135 2 [yR p0, yI a1, yI a2] [] h =
    zif (decide (a2 < 0))
      (some (zI 0, h))
      (zoI (zgI h p0 513) fun x1 =>
      zif (decide ((i32 600) ≤ x1))
        (some (zI 0, h))
        (zoR (zgR h p0 512) fun r2 =>
        zoI (zgI h p0 513) fun x3 =>
        zoH (zaC h r2 x3 (zi2b (zushr a1 a2))) fun h4 =>
        zoI (zgI h4 p0 513) fun x5 =>
        zoH (zpI h4 p0 513 (x5 + (i32 1))) fun h6 =>
        zr 135 2 [yR p0, yI a1, yI (a2 + i32 (-8))] [] h6)) := U_135 (zst [2]) 27 2 [yR p0, yI a1, yI a2] [] h
/-! 136 Tape_copy (LReedOracles$Tape;)V -/
set_option maxRecDepth 100000 in
theorem e_Tape_copy (p0 : Option Nat) (p1 : Option Nat) (h : zHeap) : zc 136 [zR p0, zR p1] h =
    zoR (zgR h p1 512) fun r1 =>
    zoR (zgR h p0 512) fun r2 =>
    zoI (zgI h p1 513) fun x3 =>
    zoH (zaY h r1 (i32 0) r2 (i32 0) x3) fun h4 =>
    zoI (zgI h4 p1 513) fun x5 =>
    zoH (zpI h4 p0 513 x5) fun h6 =>
    some (zI 0, h6) := U_136 (zst []) 15 0 [yR p0, yR p1] [] h
/-! 137 Told_init ()V -/
set_option maxRecDepth 100000 in
theorem e_Told_init (p0 : Nat) (h : zHeap) : zc 137 [zR (some p0)] h =
    zbV (zv 8 134 [zR (some (hN h))] (znO zTb 8 h)) fun h1 =>
    zoH (zpR h1 (some p0) 576 (some (hN h))) fun h2 =>
    zoN (zlen (i32 3)) fun n3 =>
    zoH (zpR (znA 0 n3 h2) (some p0) 577 (some (hN h2))) fun h4 =>
    zoN (zlen (i32 2)) fun n5 =>
    zoH (zpR (znQ 2 n5 h4) (some p0) 578 (some (hN h4))) fun h6 =>
    zoN (zlen (i32 2)) fun n7 =>
    zoH (zpR (znQ 10 n7 h6) (some p0) 579 (some (hN h6))) fun h8 =>
    zoN (zlen (i32 2)) fun n9 =>
    zoH (zpR (znQ 3 n9 h8) (some p0) 580 (some (hN h8))) fun h10 =>
    zr 137 25 [yR (some p0), yI (i32 0)] [] h10 := U_137 (zst [25]) 59 0 [yR (some p0), none] [] h
set_option maxRecDepth 100000 in
theorem e_Told_init_25 (p0 : Nat) (a1 : Int32) (h : zHeap) : zr 137 25 [yR (some p0), yI a1] [] h =
    zif (decide ((i32 2) ≤ a1))
      (zoH (zpI h (some p0) 581 (i32 0)) fun h1 =>
      zoH (zpI h1 (some p0) 582 (i32 (-1))) fun h2 =>
      some (zI 0, h2))
      (zoR (zgR h (some p0) 578) fun r3 =>
      zbV (zv 2 33 [zR (some (hN h))] (znO zTb 2 h)) fun h4 =>
      zoH (zaT h4 r3 a1 (some (hN h))) fun h5 =>
      zoR (zgR h5 (some p0) 579) fun r6 =>
      zbV (zv 10 144 [zR (some (hN h5))] (znO zTb 10 h5)) fun h7 =>
      zoH (zaT h7 r6 a1 (some (hN h5))) fun h8 =>
      zoR (zgR h8 (some p0) 580) fun r9 =>
      zbV (zv 3 52 [zR (some (hN h8))] (znO zTb 3 h8)) fun h10 =>
      zoH (zaT h10 r9 a1 (some (hN h8))) fun h11 =>
      zr 137 25 [yR (some p0), yI (a1 + i32 1)] [] h11) := U_137 (zst [25]) 59 25 [yR (some p0), yI a1] [] h
/-! 138 Told_copy (LReedOracles$Told;)V -/
set_option maxRecDepth 100000 in
theorem e_Told_copy (p0 : Option Nat) (p1 : Option Nat) (h : zHeap) : zc 138 [zR p0, zR p1] h =
    zoR (zgR h p0 576) fun r1 =>
    zoR (zgR h p1 576) fun r2 =>
    zbV (zv 8 136 [zR r1, zR r2] h) fun h3 =>
    zr 138 7 [yR p0, yR p1, yI (i32 0)] [] h3 := U_138 (zst [7]) 57 0 [yR p0, yR p1, none] [] h
set_option maxRecDepth 100000 in
theorem e_Told_copy_7 (p0 : Option Nat) (p1 : Option Nat) (a2 : Int32) (h : zHeap) : zr 138 7 [yR p0, yR p1, yI a2] [] h =
    zif (decide ((i32 2) ≤ a2))
      (zoR (zgR h p1 577) fun r1 =>
      zoR (zgR h p0 577) fun r2 =>
      zoH (zaY h r1 (i32 0) r2 (i32 0) (i32 3)) fun h3 =>
      zoI (zgI h3 p1 581) fun x4 =>
      zoH (zpI h3 p0 581 x4) fun h5 =>
      zoI (zgI h5 p1 582) fun x6 =>
      zoH (zpI h5 p0 582 x6) fun h7 =>
      some (zI 0, h7))
      (zoR (zgR h p0 578) fun r8 =>
      zoR (zaR h r8 a2) fun r9 =>
      zoR (zgR h p1 578) fun r10 =>
      zoR (zaR h r10 a2) fun r11 =>
      zbV (zv 2 35 [zR r9, zR r11] h) fun h12 =>
      zoR (zgR h12 p0 579) fun r13 =>
      zoR (zaR h12 r13 a2) fun r14 =>
      zoR (zgR h12 p1 579) fun r15 =>
      zoR (zaR h12 r15 a2) fun r16 =>
      zbV (zv 10 145 [zR r14, zR r16] h12) fun h17 =>
      zoR (zgR h17 p0 580) fun r18 =>
      zoR (zaR h17 r18 a2) fun r19 =>
      zoR (zgR h17 p1 580) fun r20 =>
      zoR (zaR h17 r20 a2) fun r21 =>
      zbV (zv 3 53 [zR r19, zR r21] h17) fun h22 =>
      zr 138 7 [yR p0, yR p1, yI (a2 + i32 1)] [] h22) := U_138 (zst [7]) 57 7 [yR p0, yR p1, yI a2] [] h
/-! 139 Told_endTape (II)V -/
set_option maxRecDepth 100000 in
theorem e_Told_endTape (p0 : Option Nat) (a1 : Int32) (a2 : Int32) (h : zHeap) : zc 139 [zR p0, zI a1, zI a2] h =
    zoR (zgR h p0 576) fun r1 =>
    zoH (zpI h r1 513 (i32 0)) fun h2 =>
    zoH (zpI h2 p0 581 a1) fun h3 =>
    zoH (zpI h3 p0 582 a2) fun h4 =>
    some (zI 0, h4) := U_139 (zst []) 12 0 [yR p0, yI a1, yI a2] [] h
/-! 140 Told_put (IILReedOracles$Reader;)V -/
set_option maxRecDepth 100000 in
theorem e_Told_put (p0 : Option Nat) (a1 : Int32) (a2 : Int32) (p3 : Option Nat) (h : zHeap) : zc 140 [zR p0, zI a1, zI a2, zR p3] h =
    zif (decide (a2 < 0))
      (some (zI 0, h))
      (zif (decide (a2 < (i32 2)))
        (zif (decide (a1 = i32 0))
          (zoR (zgR h p0 578) fun r1 =>
          zoR (zaR h r1 a2) fun r2 =>
          zoR (zgR h p3 320) fun r3 =>
          zbV (zv 2 35 [zR r2, zR r3] h) fun h4 =>
          zoR (zgR h4 p0 577) fun r5 =>
          zoR (zgR h4 p0 577) fun r6 =>
          zoI (zaI h4 r6 a1 0) fun x7 =>
          zoH (zaS h4 r5 a1 (zmax x7 (a2 + (i32 1)))) fun h8 =>
          some (zI 0, h8))
          (zif (decide (a1 = i32 1))
          (zoR (zgR h p0 579) fun r9 =>
          zoR (zaR h r9 a2) fun r10 =>
          zoR (zgR h p3 321) fun r11 =>
          zbV (zv 10 145 [zR r10, zR r11] h) fun h12 =>
          zoR (zgR h12 p0 577) fun r13 =>
          zoR (zgR h12 p0 577) fun r14 =>
          zoI (zaI h12 r14 a1 0) fun x15 =>
          zoH (zaS h12 r13 a1 (zmax x15 (a2 + (i32 1)))) fun h16 =>
          some (zI 0, h16))
          (zif (decide (a1 = i32 2))
          (zoR (zgR h p0 580) fun r17 =>
          zoR (zaR h r17 a2) fun r18 =>
          zoR (zgR h p3 322) fun r19 =>
          zbV (zv 3 53 [zR r18, zR r19] h) fun h20 =>
          zoR (zgR h20 p0 577) fun r21 =>
          zoR (zgR h20 p0 577) fun r22 =>
          zoI (zaI h20 r22 a1 0) fun x23 =>
          zoH (zaS h20 r21 a1 (zmax x23 (a2 + (i32 1)))) fun h24 =>
          some (zI 0, h24))
          (some (zI 0, h)))))
        (some (zI 0, h))) := U_140 (zst []) 47 0 [yR p0, yI a1, yI a2, yR p3] [] h
/-! 141 Told_duchyAt (I)LReedOracles$Duchy; -/
set_option maxRecDepth 100000 in
theorem e_Told_duchyAt (p0 : Option Nat) (a1 : Int32) (h : zHeap) : zc 141 [zR p0, zI a1] h =
    zif (decide (a1 < 0))
      (some (zR none, h))
      (zoR (zgR h p0 577) fun r1 =>
      zoI (zaI h r1 (i32 0) 0) fun x2 =>
      zif (decide (x2 ≤ a1))
        (some (zR none, h))
        (zoR (zgR h p0 578) fun r3 =>
        zoR (zaR h r3 a1) fun r4 =>
        some (zR r4, h))) := U_141 (zst []) 16 0 [yR p0, yI a1] [] h
/-! 142 Told_yearAt (I)LReedOracles$Year; -/
set_option maxRecDepth 100000 in
theorem e_Told_yearAt (p0 : Option Nat) (a1 : Int32) (h : zHeap) : zc 142 [zR p0, zI a1] h =
    zif (decide (a1 < 0))
      (some (zR none, h))
      (zoR (zgR h p0 577) fun r1 =>
      zoI (zaI h r1 (i32 1) 0) fun x2 =>
      zif (decide (x2 ≤ a1))
        (some (zR none, h))
        (zoR (zgR h p0 579) fun r3 =>
        zoR (zaR h r3 a1) fun r4 =>
        some (zR r4, h))) := U_142 (zst []) 16 0 [yR p0, yI a1] [] h
/-! 143 Told_logAt (I)LReedOracles$Log; -/
set_option maxRecDepth 100000 in
theorem e_Told_logAt (p0 : Option Nat) (a1 : Int32) (h : zHeap) : zc 143 [zR p0, zI a1] h =
    zif (decide (a1 < 0))
      (some (zR none, h))
      (zoR (zgR h p0 577) fun r1 =>
      zoI (zaI h r1 (i32 2) 0) fun x2 =>
      zif (decide (x2 ≤ a1))
        (some (zR none, h))
        (zoR (zgR h p0 580) fun r3 =>
        zoR (zaR h r3 a1) fun r4 =>
        some (zR r4, h))) := U_143 (zst []) 16 0 [yR p0, yI a1] [] h
/-! 144 Year_init ()V -/
set_option maxRecDepth 100000 in
theorem e_Year_init (p0 : Nat) (h : zHeap) : zc 144 [zR (some p0)] h =
    zoN (zlen (i32 240)) fun n1 =>
    zoH (zpR (znA 0 n1 h) (some p0) 641 (some (hN h))) fun h2 =>
    some (zI 0, h2) := U_144 (zst []) 8 0 [yR (some p0)] [] h
/-! 145 Year_copy (LReedOracles$Year;)V -/
set_option maxRecDepth 100000 in
theorem e_Year_copy (p0 : Option Nat) (p1 : Option Nat) (h : zHeap) : zc 145 [zR p0, zR p1] h =
    zoR (zgR h p1 641) fun r1 =>
    zoR (zgR h p0 641) fun r2 =>
    zoI (zgI h p1 640) fun x3 =>
    zoH (zaY h r1 (i32 0) r2 (i32 0) (x3 * (i32 6))) fun h4 =>
    zoI (zgI h4 p1 640) fun x5 =>
    zoH (zpI h4 p0 640 x5) fun h6 =>
    some (zI 0, h6) := U_145 (zst []) 17 0 [yR p0, yR p1] [] h
/-! 146 Year_add (I[II)V -/
set_option maxRecDepth 100000 in
theorem e_Year_add (p0 : Option Nat) (a1 : Int32) (p2 : Option Nat) (a3 : Int32) (h : zHeap) : zc 146 [zR p0, zI a1, zR p2, zI a3] h =
    zoI (zgI h p0 640) fun x1 =>
    zif (decide ((i32 40) ≤ x1))
      (some (zI 0, h))
      (zoI (zgI h p0 640) fun x2 =>
      zoR (zgR h p0 641) fun r3 =>
      zoH (zaS h r3 (x2 * (i32 6)) a1) fun h4 =>
      zr 146 16 [yR p0, yI a1, yR p2, yI a3, yI (x2 * (i32 6)), yI (i32 0)] [] h4) := U_146 (zst [16]) 49 0 [yR p0, yI a1, yR p2, yI a3, none, none] [] h
set_option maxRecDepth 100000 in
theorem e_Year_add_16 (p0 : Option Nat) (a1 : Int32) (p2 : Option Nat) (a3 : Int32) (a4 : Int32) (a5 : Int32) (h : zHeap) : zr 146 16 [yR p0, yI a1, yR p2, yI a3, yI a4, yI a5] [] h =
    zif (decide ((i32 5) ≤ a5))
      (zoI (zgI h p0 640) fun x1 =>
      zoH (zpI h p0 640 (x1 + (i32 1))) fun h2 =>
      some (zI 0, h2))
      (zoR (zgR h p0 641) fun r3 =>
      zif (decide (a3 ≤ a5))
        (zoH (zaS h r3 ((a4 + (i32 1)) + a5) (i32 (-1))) fun h4 =>
        zr 146 16 [yR p0, yI a1, yR p2, yI a3, yI a4, yI (a5 + i32 1)] [] h4)
        (zoI (zaN h p2) fun x5 =>
        zif (decide (x5 ≤ a5))
          (zoH (zaS h r3 ((a4 + (i32 1)) + a5) (i32 (-1))) fun h6 =>
          zr 146 16 [yR p0, yI a1, yR p2, yI a3, yI a4, yI (a5 + i32 1)] [] h6)
          (zoI (zaI h p2 a5 0) fun x7 =>
          zoH (zaS h r3 ((a4 + (i32 1)) + a5) x7) fun h8 =>
          zr 146 16 [yR p0, yI a1, yR p2, yI a3, yI a4, yI (a5 + i32 1)] [] h8))) := U_146 (zst [16]) 49 16 [yR p0, yI a1, yR p2, yI a3, yI a4, yI a5] [] h
/-! 147 Year_cell (II)I -/
set_option maxRecDepth 100000 in
theorem e_Year_cell (p0 : Option Nat) (a1 : Int32) (a2 : Int32) (h : zHeap) : zc 147 [zR p0, zI a1, zI a2] h =
    zoR (zgR h p0 641) fun r1 =>
    zoI (zaI h r1 ((a1 * (i32 6)) + a2) 0) fun x2 =>
    some (zI x2, h) := U_147 (zst []) 10 0 [yR p0, yI a1, yI a2] [] h
/-! 148 Year_detail (II)I -/
set_option maxRecDepth 100000 in
theorem e_Year_detail (p0 : Option Nat) (a1 : Int32) (a2 : Int32) (h : zHeap) : zc 148 [zR p0, zI a1, zI a2] h =
    zif (decide (a1 ≠ (i32 (-1))))
      (zif (decide (a1 < 0))
        (some (zI (i32 (-2)), h))
        (zoI (zgI h p0 640) fun x1 =>
        zif (decide (x1 ≤ a1))
          (some (zI (i32 (-2)), h))
          (zif (decide (a2 < 0))
            (some (zI (i32 (-2)), h))
            (zif (decide (a2 < (i32 6)))
              (zbI (zv 10 147 [zR p0, zI a1, zI a2] h) fun x3 h2 =>
              some (zI x3, h2))
              (some (zI (i32 (-2)), h))))))
      (zif (decide (a2 ≠ 0))
        (zif (decide (a1 < 0))
          (some (zI (i32 (-2)), h))
          (zoI (zgI h p0 640) fun x4 =>
          zif (decide (x4 ≤ a1))
            (some (zI (i32 (-2)), h))
            (zif (decide (a2 < 0))
              (some (zI (i32 (-2)), h))
              (zif (decide (a2 < (i32 6)))
                (zbI (zv 10 147 [zR p0, zI a1, zI a2] h) fun x6 h5 =>
                some (zI x6, h5))
                (some (zI (i32 (-2)), h))))))
        (zoI (zgI h p0 640) fun x7 =>
        some (zI x7, h))) := U_148 (zst []) 27 0 [yR p0, yI a1, yI a2] [] h
/-! 149 Main_init ()V -/
set_option maxRecDepth 100000 in
theorem e_Main_init (p0 : Nat) (h : zHeap) : zc 149 [zR (some p0)] h =
    zbV (zv 9 137 [zR (some (hN h))] (znO zTb 9 h)) fun h1 =>
    zoH (zpR h1 (some p0) 704 (some (hN h))) fun h2 =>
    zoN (zlen (i32 3)) fun n3 =>
    zoH (zpR (znQ 9 n3 h2) (some p0) 705 (some (hN h2))) fun h4 =>
    zoR (zgR (znO zTb 5 h4) (some p0) 704) fun r5 =>
    zoR (zgR (znO zTb 5 h4) r5 576) fun r6 =>
    zbV (zv 5 74 [zR (some (hN h4)), zR r6] (znO zTb 5 h4)) fun h7 =>
    zoH (zpR h7 (some p0) 706 (some (hN h4))) fun h8 =>
    zbV (zv 1 11 [zR (some (hN h8))] (znO zTb 1 h8)) fun h9 =>
    zoH (zpR h9 (some p0) 707 (some (hN h8))) fun h10 =>
    zbV (zv 0 0 [zR (some (hN h10))] (znO zTb 0 h10)) fun h11 =>
    zoH (zpR h11 (some p0) 708 (some (hN h10))) fun h12 =>
    zbV (zv 4 56 [zR (some (hN h12))] (znO zTb 4 h12)) fun h13 =>
    zoH (zpR h13 (some p0) 709 (some (hN h12))) fun h14 =>
    zbV (zv 7 123 [zR (some (hN h14))] (znO zTb 7 h14)) fun h15 =>
    zoH (zpR h15 (some p0) 710 (some (hN h14))) fun h16 =>
    zbV (zv 6 92 [zR (some (hN h16))] (znO zTb 6 h16)) fun h17 =>
    zoH (zpR h17 (some p0) 711 (some (hN h16))) fun h18 =>
    some (zI 0, h18) := U_149 (zst []) 46 0 [yR (some p0)] [] h
/-! 150 Main_feed (IIIII)I -/
set_option maxRecDepth 100000 in
theorem e_Main_feed (p0 : Option Nat) (a1 : Int32) (a2 : Int32) (a3 : Int32) (a4 : Int32) (a5 : Int32) (h : zHeap) : zc 150 [zR p0, zI a1, zI a2, zI a3, zI a4, zI a5] h =
    zoR (zgR h p0 704) fun r1 =>
    zoR (zgR h r1 576) fun r2 =>
    zoI (zgI h r2 513) fun x3 =>
    zif (decide (x3 ≤ (i32 580)))
      (zbV (zv 8 135 [zR r2, zI a1] h) fun h4 =>
      zbV (zv 8 135 [zR r2, zI a2] h4) fun h5 =>
      zbV (zv 8 135 [zR r2, zI a3] h5) fun h6 =>
      zbV (zv 8 135 [zR r2, zI a4] h6) fun h7 =>
      zbV (zv 8 135 [zR r2, zI a5] h7) fun h8 =>
      zoI (zgI h8 r2 513) fun x9 =>
      some (zI x9, h8))
      (some (zI (i32 (-1)), h)) := U_150 (zst []) 29 0 [yR p0, yI a1, yI a2, yI a3, yI a4, yI a5, none] [] h
/-! 151 Main_end (I)I -/
set_option maxRecDepth 100000 in
theorem e_Main_end (p0 : Option Nat) (a1 : Int32) (h : zHeap) : zc 151 [zR p0, zI a1] h =
    zif (decide (a1 < 0))
      (some (zI (i32 (-1)), h))
      (zoR (zgR h p0 704) fun r1 =>
      zoR (zgR h r1 576) fun r2 =>
      zoI (zgI h r2 513) fun x3 =>
      zif (decide (a1 ≤ x3))
        (zoR (zgR h p0 704) fun r4 =>
        zoR (zgR h r4 576) fun r5 =>
        zoH (zpI h r5 513 a1) fun h6 =>
        some (zI a1, h6))
        (some (zI (i32 (-1)), h))) := U_151 (zst []) 18 0 [yR p0, yI a1] [] h
/-! 152 Main_text (II)I -/
set_option maxRecDepth 100000 in
theorem e_Main_text (p0 : Option Nat) (a1 : Int32) (a2 : Int32) (h : zHeap) : zc 152 [zR p0, zI a1, zI a2] h =
    zbI (zv 11 189 [zR p0, zI a1, zI a2] h) fun x2 h1 =>
    zif (decide (x2 ≠ (i32 (-2))))
      (zoR (zgR h1 p0 706) fun r3 =>
      zbV (zv 5 75 [zR r3, zI a1] h1) fun h4 =>
      zoR (zgR h4 p0 704) fun r5 =>
      zoR (zgR h4 p0 706) fun r6 =>
      zoI (zgI h4 r6 323) fun x7 =>
      zoR (zgR h4 p0 706) fun r8 =>
      zoI (zgI h4 r8 324) fun x9 =>
      zbV (zv 9 139 [zR r5, zI x7, zI x9] h4) fun h10 =>
      zoR (zgR h10 p0 706) fun r11 =>
      zoI (zgI h10 r11 323) fun x12 =>
      zif (decide (x12 = 0))
        (zoR (zgR h10 p0 704) fun r13 =>
        zoR (zgR h10 p0 706) fun r14 =>
        zbV (zv 9 140 [zR r13, zI a1, zI x2, zR r14] h10) fun h15 =>
        some (zI x2, h15))
        (some (zI (i32 (-1)), h10)))
      (zoR (zgR h1 p0 704) fun r16 =>
      zbV (zv 9 139 [zR r16, zI (i32 0), zI (i32 (-1))] h1) fun h17 =>
      some (zI (i32 (-2)), h17)) := U_152 (zst []) 44 0 [yR p0, yI a1, yI a2, none] [] h
/-! 153 Main_fault (I)I -/
set_option maxRecDepth 100000 in
theorem e_Main_fault (p0 : Option Nat) (a1 : Int32) (h : zHeap) : zc 153 [zR p0, zI a1] h =
    zif (decide (a1 = i32 0))
      (zoR (zgR h p0 704) fun r1 =>
      zoI (zgI h r1 581) fun x2 =>
      some (zI x2, h))
      (zif (decide (a1 = i32 1))
      (zoR (zgR h p0 704) fun r3 =>
      zoI (zgI h r3 582) fun x4 =>
      some (zI x4, h))
      (some (zI (i32 (-1)), h))) := U_153 (zst []) 13 0 [yR p0, yI a1] [] h
/-! 154 Main_duchy (II)I -/
set_option maxRecDepth 100000 in
theorem e_Main_duchy (p0 : Option Nat) (a1 : Int32) (a2 : Int32) (h : zHeap) : zc 154 [zR p0, zI a1, zI a2] h =
    zoR (zgR h p0 704) fun r1 =>
    zbR (zv 9 141 [zR r1, zI a1] h) fun r3 h2 =>
    zif r3.isSome
      (zbI (zv 2 44 [zR r3, zI a2] h2) fun x5 h4 =>
      some (zI x5, h4))
      (some (zI (i32 (-1)), h2)) := U_154 (zst []) 14 0 [yR p0, yI a1, yI a2, none] [] h
/-! 155 Main_note (IIIIZ)I -/
set_option maxRecDepth 100000 in
theorem e_Main_note (p0 : Option Nat) (a1 : Int32) (a2 : Int32) (a3 : Int32) (a4 : Int32) (a5 : Int32) (h : zHeap) : zc 155 [zR p0, zI a1, zI a2, zI a3, zI a4, zI a5] h =
    zoR (zgR h p0 704) fun r1 =>
    zbR (zv 9 141 [zR r1, zI a1] h) fun r3 h2 =>
    zif r3.isNone
      (some (zI (i32 (-2)), h2))
      (zbI (zv 2 42 [zR r3, zI a2, zI a3, zI a4] h2) fun x5 h4 =>
      zif (decide (x5 ≠ 0))
        (zbI (zv 2 48 [zR r3, zI a2, zI a3, zI a4] h4) fun x7 h6 =>
        zif (decide (a5 = 0))
          (some (zI x7, h6))
          (zbI (zv 2 50 [zR r3, zI x7] h6) fun x9 h8 =>
          some (zI x9, h8)))
        (some (zI (i32 (-2)), h4))) := U_155 (zst []) 30 0 [yR p0, yI a1, yI a2, yI a3, yI a4, yI a5, none, none] [] h
/-! 156 Main_deed (III)I -/
set_option maxRecDepth 100000 in
theorem e_Main_deed (p0 : Option Nat) (a1 : Int32) (a2 : Int32) (a3 : Int32) (h : zHeap) : zc 156 [zR p0, zI a1, zI a2, zI a3] h =
    zoR (zgR h p0 704) fun r1 =>
    zbR (zv 9 142 [zR r1, zI a1] h) fun r3 h2 =>
    zif r3.isSome
      (zbI (zv 10 148 [zR r3, zI a2, zI a3] h2) fun x5 h4 =>
      some (zI x5, h4))
      (some (zI (i32 (-2)), h2)) := U_156 (zst []) 15 0 [yR p0, yI a1, yI a2, yI a3, none] [] h
/-! 157 Main_stop (II)I -/
set_option maxRecDepth 100000 in
theorem e_Main_stop (p0 : Option Nat) (a1 : Int32) (a2 : Int32) (h : zHeap) : zc 157 [zR p0, zI a1, zI a2] h =
    zoR (zgR h p0 704) fun r1 =>
    zbR (zv 9 141 [zR r1, zI a1] h) fun r3 h2 =>
    zoR (zgR h2 p0 704) fun r4 =>
    zbR (zv 9 142 [zR r4, zI a2] h2) fun r6 h5 =>
    zif r3.isNone
      (some (zI (i32 (-1)), h5))
      (zif r6.isSome
        (zoR (zgR h5 p0 707) fun r7 =>
        zoI (zgI h5 r6 640) fun x8 =>
        zbV (zv 1 13 [zR r7, zR r3, zR r6, zI x8] h5) fun h9 =>
        zoR (zgR h9 p0 707) fun r10 =>
        zoI (zgI h9 r10 64) fun x11 =>
        some (zI x11, h9))
        (some (zI (i32 (-1)), h5))) := U_157 (zst []) 28 0 [yR p0, yI a1, yI a2, none, none] [] h
/-! 158 Main_state (IIII)I -/
set_option maxRecDepth 100000 in
theorem e_Main_state (p0 : Option Nat) (a1 : Int32) (a2 : Int32) (a3 : Int32) (a4 : Int32) (h : zHeap) : zc 158 [zR p0, zI a1, zI a2, zI a3, zI a4] h =
    zoR (zgR h p0 704) fun r1 =>
    zbR (zv 9 141 [zR r1, zI a1] h) fun r3 h2 =>
    zoR (zgR h2 p0 704) fun r4 =>
    zbR (zv 9 142 [zR r4, zI a2] h2) fun r6 h5 =>
    zif r3.isNone
      (some (zI (i32 (-2)), h5))
      (zif r6.isNone
        (some (zI (i32 (-2)), h5))
        (zif (decide (a3 < 0))
          (some (zI (i32 (-2)), h5))
          (zoI (zgI h5 r6 640) fun x7 =>
          zif (decide (a3 ≤ x7))
            (zoR (zgR h5 p0 707) fun r8 =>
            zbV (zv 1 13 [zR r8, zR r3, zR r6, zI a3] h5) fun h9 =>
            zoR (zgR h9 p0 707) fun r10 =>
            zoI (zgI h9 r10 64) fun x11 =>
            zif (decide (a3 ≤ x11))
              (zoR (zgR h9 p0 707) fun r12 =>
              zbI (zv 1 27 [zR r12, zR r3, zI a4] h9) fun x14 h13 =>
              some (zI x14, h13))
              (some (zI (i32 (-2)), h9)))
            (some (zI (i32 (-2)), h5))))) := U_158 (zst []) 42 0 [yR p0, yI a1, yI a2, yI a3, yI a4, none, none] [] h
/-! 159 Main_ready (IIIIII)I -/
set_option maxRecDepth 100000 in
theorem e_Main_ready (p0 : Option Nat) (a1 : Int32) (a2 : Int32) (a3 : Int32) (a4 : Int32) (a5 : Int32) (a6 : Int32) (h : zHeap) : zc 159 [zR p0, zI a1, zI a2, zI a3, zI a4, zI a5, zI a6] h =
    zoR (zgR h p0 704) fun r1 =>
    zbR (zv 9 141 [zR r1, zI a1] h) fun r3 h2 =>
    zif r3.isNone
      (some (zI (i32 (-1)), h2))
      (zbI (zv 2 42 [zR r3, zI a2, zI a3, zI a4] h2) fun x5 h4 =>
      zif (decide (x5 = 0))
        (some (zI (i32 (-1)), h4))
        (zbI (zc 191 [zI a5] h4) fun x7 h6 =>
        zif (decide (x7 ≠ 0))
          (zoR (zgR h6 p0 708) fun r8 =>
          zbV (zv 0 1 [zR r8, zR r3, zI a2, zI a3, zI a4, zI a5] h6) fun h9 =>
          zif (decide (a6 ≠ (i32 (-1))))
            (zoR (zgR h9 p0 708) fun r10 =>
            zbI (zv 0 6 [zR r10, zI a6] h9) fun x12 h11 =>
            some (zI x12, h11))
            (zoR (zgR h9 p0 708) fun r13 =>
            zoI (zgI h9 r13 0) fun x14 =>
            some (zI x14, h9)))
          (some (zI (i32 (-1)), h6)))) := U_159 (zst []) 39 0 [yR p0, yI a1, yI a2, yI a3, yI a4, yI a5, yI a6, none] [] h
/-! 160 Main_favour (IIII)I -/
set_option maxRecDepth 100000 in
theorem e_Main_favour (p0 : Option Nat) (a1 : Int32) (a2 : Int32) (a3 : Int32) (a4 : Int32) (h : zHeap) : zc 160 [zR p0, zI a1, zI a2, zI a3, zI a4] h =
    zoR (zgR h p0 704) fun r1 =>
    zbR (zv 9 141 [zR r1, zI a1] h) fun r3 h2 =>
    zif r3.isNone
      (some (zI (i32 (-1)), h2))
      (zbI (zv 2 40 [zR r3, zI a2] h2) fun x5 h4 =>
      zif (decide (x5 = 0))
        (some (zI (i32 (-1)), h4))
        (zbI (zc 191 [zI a3] h4) fun x7 h6 =>
        zif (decide (x7 ≠ 0))
          (zif (decide (a4 = (i32 (-1))))
            (zoR (zgR h6 p0 709) fun r8 =>
            zbV (zv 4 57 [zR r8, zR r3, zI a2, zI a3] h6) fun h9 =>
            zif (decide (a4 ≠ (i32 (-1))))
              (zoR (zgR h9 p0 709) fun r10 =>
              zbI (zv 4 61 [zR r10, zR r3, zI a4] h9) fun x12 h11 =>
              some (zI x12, h11))
              (zoR (zgR h9 p0 709) fun r13 =>
              zbI (zv 4 60 [zR r13] h9) fun x15 h14 =>
              some (zI x15, h14)))
            (zbI (zv 2 41 [zR r3, zI a4] h6) fun x17 h16 =>
            zif (decide (x17 ≠ 0))
              (zoR (zgR h16 p0 709) fun r18 =>
              zbV (zv 4 57 [zR r18, zR r3, zI a2, zI a3] h16) fun h19 =>
              zif (decide (a4 ≠ (i32 (-1))))
                (zoR (zgR h19 p0 709) fun r20 =>
                zbI (zv 4 61 [zR r20, zR r3, zI a4] h19) fun x22 h21 =>
                some (zI x22, h21))
                (zoR (zgR h19 p0 709) fun r23 =>
                zbI (zv 4 60 [zR r23] h19) fun x25 h24 =>
                some (zI x25, h24)))
              (some (zI (i32 (-1)), h16))))
          (some (zI (i32 (-1)), h6)))) := U_160 (zst []) 45 0 [yR p0, yI a1, yI a2, yI a3, yI a4, none] [] h
/-! 161 Main_dare (IIIZ)I -/
set_option maxRecDepth 100000 in
theorem e_Main_dare (p0 : Option Nat) (a1 : Int32) (a2 : Int32) (a3 : Int32) (a4 : Int32) (h : zHeap) : zc 161 [zR p0, zI a1, zI a2, zI a3, zI a4] h =
    zoR (zgR h p0 704) fun r1 =>
    zbR (zv 9 141 [zR r1, zI a1] h) fun r3 h2 =>
    zif r3.isNone
      (some (zI (i32 (-2)), h2))
      (zbI (zv 2 39 [zR r3, zI a2] h2) fun x5 h4 =>
      zif (decide (x5 = 0))
        (some (zI (i32 (-2)), h4))
        (zbI (zv 2 40 [zR r3, zI a3] h4) fun x7 h6 =>
        zif (decide (x7 ≠ 0))
          (zoR (zgR h6 p0 709) fun r8 =>
          zbV (zv 4 65 [zR r8, zR r3, zI a2, zI a3] h6) fun h9 =>
          zif (decide (a4 = 0))
            (zoR (zgR h9 p0 709) fun r10 =>
            zbI (zv 4 67 [zR r10] h9) fun x12 h11 =>
            some (zI x12, h11))
            (zoR (zgR h9 p0 709) fun r13 =>
            zbI (zv 4 68 [zR r13, zR r3] h9) fun x15 h14 =>
            some (zI x15, h14)))
          (some (zI (i32 (-2)), h6)))) := U_161 (zst []) 35 0 [yR p0, yI a1, yI a2, yI a3, yI a4, none] [] h
/-! 162 Main_alike (III)I -/
set_option maxRecDepth 100000 in
theorem e_Main_alike (p0 : Option Nat) (a1 : Int32) (a2 : Int32) (a3 : Int32) (h : zHeap) : zc 162 [zR p0, zI a1, zI a2, zI a3] h =
    zoR (zgR h p0 704) fun r1 =>
    zbR (zv 9 141 [zR r1, zI a1] h) fun r3 h2 =>
    zif r3.isNone
      (some (zI (i32 (-1)), h2))
      (zbI (zv 2 39 [zR r3, zI a2] h2) fun x5 h4 =>
      zif (decide (x5 = 0))
        (some (zI (i32 (-1)), h4))
        (zbI (zv 2 39 [zR r3, zI a3] h4) fun x7 h6 =>
        zif (decide (x7 ≠ 0))
          (zoR (zgR h6 p0 711) fun r8 =>
          zbI (zv 6 93 [zR r8, zR r3, zI a2, zI a3] h6) fun x10 h9 =>
          some (zI x10, h9))
          (some (zI (i32 (-1)), h6)))) := U_162 (zst []) 25 0 [yR p0, yI a1, yI a2, yI a3, none] [] h
/-! 163 Main_lows (I)I -/
set_option maxRecDepth 100000 in
theorem e_Main_lows (p0 : Option Nat) (a1 : Int32) (h : zHeap) : zc 163 [zR p0, zI a1] h =
    zoR (zgR h p0 704) fun r1 =>
    zbR (zv 9 141 [zR r1, zI a1] h) fun r3 h2 =>
    zif r3.isSome
      (zoR (zgR h2 p0 711) fun r4 =>
      zoI (zgI h2 r3 131) fun x5 =>
      zbV (zv 6 94 [zR r4, zR r3, zI x5] h2) fun h6 =>
      zoR (zgR h6 p0 711) fun r7 =>
      zoR (zgR h6 r7 384) fun r8 =>
      zoI (zaI h6 r8 (i32 0) 0) fun x9 =>
      some (zI x9, h6))
      (some (zI (i32 (-1)), h2)) := U_163 (zst []) 22 0 [yR p0, yI a1, none] [] h
/-! 164 Main_told (III)I -/
set_option maxRecDepth 100000 in
theorem e_Main_told (p0 : Option Nat) (a1 : Int32) (a2 : Int32) (a3 : Int32) (h : zHeap) : zc 164 [zR p0, zI a1, zI a2, zI a3] h =
    zoR (zgR h p0 704) fun r1 =>
    zbR (zv 9 141 [zR r1, zI a1] h) fun r3 h2 =>
    zif r3.isNone
      (some (zI (i32 (-1)), h2))
      (zbI (zv 2 41 [zR r3, zI a2] h2) fun x5 h4 =>
      zif (decide (x5 = 0))
        (some (zI (i32 (-1)), h4))
        (zif (decide (a3 < 0))
          (some (zI (i32 (-1)), h4))
          (zif (decide (a3 ≤ (i32 3)))
            (zoR (zgR h4 p0 711) fun r6 =>
            zif (decide (a3 ≠ (i32 3)))
              (zbI (zv 6 96 [zR r6, zR r3, zI a2, zI a3] h4) fun x8 h7 =>
              some (zI x8, h7))
              (zbI (zv 6 96 [zR r6, zR r3, zI a2, zI (i32 (-1))] h4) fun x10 h9 =>
              some (zI x10, h9)))
            (some (zI (i32 (-1)), h4))))) := U_164 (zst []) 31 0 [yR p0, yI a1, yI a2, yI a3, none] [] h
/-! 165 Main_weather (IIIII)I -/
set_option maxRecDepth 100000 in
theorem e_Main_weather (p0 : Option Nat) (a1 : Int32) (a2 : Int32) (a3 : Int32) (a4 : Int32) (a5 : Int32) (h : zHeap) : zc 165 [zR p0, zI a1, zI a2, zI a3, zI a4, zI a5] h =
    zoR (zgR h p0 704) fun r1 =>
    zbR (zv 9 141 [zR r1, zI a1] h) fun r3 h2 =>
    zif r3.isNone
      (some (zI (i32 (-1)), h2))
      (zbI (zv 2 42 [zR r3, zI a2, zI a3, zI a4] h2) fun x5 h4 =>
      zif (decide (x5 = 0))
        (some (zI (i32 (-1)), h4))
        (zbI (zc 191 [zI a5] h4) fun x7 h6 =>
        zif (decide (x7 ≠ 0))
          (zoR (zgR h6 p0 711) fun r8 =>
          zbI (zv 6 97 [zR r8, zR r3, zI a2, zI a3, zI a4, zI a5] h6) fun x10 h9 =>
          some (zI x10, h9))
          (some (zI (i32 (-1)), h6)))) := U_165 (zst []) 28 0 [yR p0, yI a1, yI a2, yI a3, yI a4, yI a5, none] [] h
