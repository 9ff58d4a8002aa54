/-! the law's equations -/
theorem e_Law (p0 : Option Nat) (h : zHeap) : zc 323 [zR p0] h =
    zbV (zv 11 149 [zR (some (hN h))] (znO zTb 11 h)) fun h1 =>
    zbV (zv 12 199 [zR (some (hN h1))] (znO zTb 12 h1)) fun h2 =>
    zr 323 10 [yR p0, yR (some (hN h)), yR (some (hN h1)), yI (i32 0)] [] h2 := U_323 (zst [10]) 120 0 [yR p0, none, none, none] [] h
set_option maxRecDepth 20000 in
theorem e_Law_10 (p0 : Option Nat) (p1 : Option Nat) (p2 : Option Nat) (a3 : Int32) (h : zHeap) : zr 323 10 [yR p0, yR p1, yR p2, yI a3] [] h =
    zoI (zaN h p0) fun x1 =>
    zif (decide ((x1 - (i32 7)) < a3))
      (zrz (i32 1) h)
      (zoI (zaI h p0 a3 0) fun x2 =>
      zif (decide ((x2 &&& (i32 63)) = i32 0))
        (zr 323 22 [yR p0, yR p1, yR p2, yI a3] [] h)
        (zif (decide ((x2 &&& (i32 63)) = i32 1))
        (zr 323 79 [yR p0, yR p1, yR p2, yI a3] [] h)
        (zif (decide ((x2 &&& (i32 63)) = i32 2))
        (zr 323 96 [yR p0, yR p1, yR p2, yI a3] [] h)
        (zif (decide ((x2 &&& (i32 63)) = i32 3))
        (zr 323 123 [yR p0, yR p1, yR p2, yI a3] [] h)
        (zif (decide ((x2 &&& (i32 63)) = i32 4))
        (zr 323 140 [yR p0, yR p1, yR p2, yI a3] [] h)
        (zif (decide ((x2 &&& (i32 63)) = i32 5))
        (zr 323 167 [yR p0, yR p1, yR p2, yI a3] [] h)
        (zif (decide ((x2 &&& (i32 63)) = i32 6))
        (zr 323 232 [yR p0, yR p1, yR p2, yI a3] [] h)
        (zif (decide ((x2 &&& (i32 63)) = i32 7))
        (zr 323 269 [yR p0, yR p1, yR p2, yI a3] [] h)
        (zif (decide ((x2 &&& (i32 63)) = i32 8))
        (zr 323 296 [yR p0, yR p1, yR p2, yI a3] [] h)
        (zif (decide ((x2 &&& (i32 63)) = i32 9))
        (zr 323 343 [yR p0, yR p1, yR p2, yI a3] [] h)
        (zif (decide ((x2 &&& (i32 63)) = i32 10))
        (zr 323 410 [yR p0, yR p1, yR p2, yI a3] [] h)
        (zif (decide ((x2 &&& (i32 63)) = i32 11))
        (zr 323 457 [yR p0, yR p1, yR p2, yI a3] [] h)
        (zif (decide ((x2 &&& (i32 63)) = i32 12))
        (zr 323 512 [yR p0, yR p1, yR p2, yI a3] [] h)
        (zif (decide ((x2 &&& (i32 63)) = i32 13))
        (zr 323 549 [yR p0, yR p1, yR p2, yI a3] [] h)
        (zif (decide ((x2 &&& (i32 63)) = i32 14))
        (zr 323 566 [yR p0, yR p1, yR p2, yI a3] [] h)
        (zif (decide ((x2 &&& (i32 63)) = i32 15))
        (zr 323 603 [yR p0, yR p1, yR p2, yI a3] [] h)
        (zif (decide ((x2 &&& (i32 63)) = i32 16))
        (zr 323 660 [yR p0, yR p1, yR p2, yI a3] [] h)
        (zif (decide ((x2 &&& (i32 63)) = i32 17))
        (zr 323 697 [yR p0, yR p1, yR p2, yI a3] [] h)
        (zif (decide ((x2 &&& (i32 63)) = i32 18))
        (zr 323 734 [yR p0, yR p1, yR p2, yI a3] [] h)
        (zif (decide ((x2 &&& (i32 63)) = i32 19))
        (zr 323 800 [yR p0, yR p1, yR p2, yI a3] [] h)
        (zif (decide ((x2 &&& (i32 63)) = i32 20))
        (zr 323 847 [yR p0, yR p1, yR p2, yI a3] [] h)
        (zif (decide ((x2 &&& (i32 63)) = i32 21))
        (zr 323 904 [yR p0, yR p1, yR p2, yI a3] [] h)
        (zif (decide ((x2 &&& (i32 63)) = i32 22))
        (zr 323 961 [yR p0, yR p1, yR p2, yI a3] [] h)
        (zif (decide ((x2 &&& (i32 63)) = i32 23))
        (zr 323 998 [yR p0, yR p1, yR p2, yI a3] [] h)
        (zif (decide ((x2 &&& (i32 63)) = i32 24))
        (zr 323 1045 [yR p0, yR p1, yR p2, yI a3] [] h)
        (zif (decide ((x2 &&& (i32 63)) = i32 25))
        (zr 323 1092 [yR p0, yR p1, yR p2, yI a3] [] h)
        (zif (decide ((x2 &&& (i32 63)) = i32 26))
        (zr 323 1137 [yR p0, yR p1, yR p2, yI a3] [] h)
        (zif (decide ((x2 &&& (i32 63)) = i32 27))
        (zr 323 1182 [yR p0, yR p1, yR p2, yI a3] [] h)
        (zif (decide ((x2 &&& (i32 63)) = i32 28))
        (zr 323 1209 [yR p0, yR p1, yR p2, yI a3] [] h)
        (zif (decide ((x2 &&& (i32 63)) = i32 29))
        (zr 323 1246 [yR p0, yR p1, yR p2, yI a3] [] h)
        (zif (decide ((x2 &&& (i32 63)) = i32 30))
        (zr 323 1273 [yR p0, yR p1, yR p2, yI a3] [] h)
        (zif (decide ((x2 &&& (i32 63)) = i32 31))
        (zr 323 1318 [yR p0, yR p1, yR p2, yI a3] [] h)
        (zif (decide ((x2 &&& (i32 63)) = i32 32))
        (zr 323 1355 [yR p0, yR p1, yR p2, yI a3] [] h)
        (zif (decide ((x2 &&& (i32 63)) = i32 33))
        (zr 323 1431 [yR p0, yR p1, yR p2, yI a3] [] h)
        (zif (decide ((x2 &&& (i32 63)) = i32 34))
        (zr 323 1476 [yR p0, yR p1, yR p2, yI a3] [] h)
        (zif (decide ((x2 &&& (i32 63)) = i32 35))
        (zr 323 1503 [yR p0, yR p1, yR p2, yI a3] [] h)
        (zif (decide ((x2 &&& (i32 63)) = i32 36))
        (zr 323 1548 [yR p0, yR p1, yR p2, yI a3] [] h)
        (zif (decide ((x2 &&& (i32 63)) = i32 37))
        (zr 323 1565 [yR p0, yR p1, yR p2, yI a3] [] h)
        (zif (decide ((x2 &&& (i32 63)) = i32 38))
        (zr 323 1582 [yR p0, yR p1, yR p2, yI a3] [] h)
        (zr 323 1599 [yR p0, yR p1, yR p2, yI a3] [] h)))))))))))))))))))))))))))))))))))))))) := U_323 (zst [22, 79, 96, 123, 140, 167, 232, 269, 296, 343, 410, 457, 512, 549, 566, 603, 660, 697, 734, 800, 847, 904, 961, 998, 1045, 1092, 1137, 1182, 1209, 1246, 1273, 1318, 1355, 1431, 1476, 1503, 1548, 1565, 1582, 1599]) 120 10 [yR p0, yR p1, yR p2, yI a3] [] h
set_option maxRecDepth 20000 in
theorem e_Law_22 (p0 : Option Nat) (p1 : Option Nat) (p2 : Option Nat) (a3 : Int32) (h : zHeap) : zr 323 22 [yR p0, yR p1, yR p2, yI a3] [] h =
    zoI (zaI h p0 (a3 + (i32 1)) 0) fun x1 =>
    zoI (zaI h p0 (a3 + (i32 2)) 0) fun x2 =>
    zoI (zaI h p0 (a3 + (i32 3)) 0) fun x3 =>
    zoI (zaI h p0 (a3 + (i32 4)) 0) fun x4 =>
    zoI (zaI h p0 (a3 + (i32 5)) 0) fun x5 =>
    zbI (zv 11 150 [zR p1, zI x1, zI x2, zI x3, zI x4, zI x5] h) fun x7 h6 =>
    zoI (zaI h6 p0 (a3 + (i32 1)) 0) fun x8 =>
    zoI (zaI h6 p0 (a3 + (i32 2)) 0) fun x9 =>
    zoI (zaI h6 p0 (a3 + (i32 3)) 0) fun x10 =>
    zoI (zaI h6 p0 (a3 + (i32 4)) 0) fun x11 =>
    zoI (zaI h6 p0 (a3 + (i32 5)) 0) fun x12 =>
    zbI (zv 12 201 [zR p2, zI x8, zI x9, zI x10, zI x11, zI x12] h6) fun x14 h13 =>
    zif (decide (x7 = x14))
      (zr 323 1599 [yR p0, yR p1, yR p2, yI a3] [] h13)
      (zrz (i32 0) h13) := U_323 (zst [1599]) 120 22 [yR p0, yR p1, yR p2, yI a3] [] h
set_option maxRecDepth 20000 in
theorem e_Law_79 (p0 : Option Nat) (p1 : Option Nat) (p2 : Option Nat) (a3 : Int32) (h : zHeap) : zr 323 79 [yR p0, yR p1, yR p2, yI a3] [] h =
    zoI (zaI h p0 (a3 + (i32 1)) 0) fun x1 =>
    zbI (zv 11 151 [zR p1, zI x1] h) fun x3 h2 =>
    zoI (zaI h2 p0 (a3 + (i32 1)) 0) fun x4 =>
    zbI (zv 12 202 [zR p2, zI x4] h2) fun x6 h5 =>
    zif (decide (x3 = x6))
      (zr 323 1599 [yR p0, yR p1, yR p2, yI a3] [] h5)
      (zrz (i32 0) h5) := U_323 (zst [1599]) 120 79 [yR p0, yR p1, yR p2, yI a3] [] h
set_option maxRecDepth 20000 in
theorem e_Law_96 (p0 : Option Nat) (p1 : Option Nat) (p2 : Option Nat) (a3 : Int32) (h : zHeap) : zr 323 96 [yR p0, yR p1, yR p2, yI a3] [] h =
    zoI (zaI h p0 (a3 + (i32 1)) 0) fun x1 =>
    zoI (zaI h p0 (a3 + (i32 2)) 0) fun x2 =>
    zbI (zv 11 152 [zR p1, zI x1, zI x2] h) fun x4 h3 =>
    zoI (zaI h3 p0 (a3 + (i32 1)) 0) fun x5 =>
    zoI (zaI h3 p0 (a3 + (i32 2)) 0) fun x6 =>
    zbI (zv 12 224 [zR p2, zI x5, zI x6] h3) fun x8 h7 =>
    zif (decide (x4 = x8))
      (zr 323 1599 [yR p0, yR p1, yR p2, yI a3] [] h7)
      (zrz (i32 0) h7) := U_323 (zst [1599]) 120 96 [yR p0, yR p1, yR p2, yI a3] [] h
set_option maxRecDepth 20000 in
theorem e_Law_123 (p0 : Option Nat) (p1 : Option Nat) (p2 : Option Nat) (a3 : Int32) (h : zHeap) : zr 323 123 [yR p0, yR p1, yR p2, yI a3] [] h =
    zoI (zaI h p0 (a3 + (i32 1)) 0) fun x1 =>
    zbI (zv 11 153 [zR p1, zI x1] h) fun x3 h2 =>
    zoI (zaI h2 p0 (a3 + (i32 1)) 0) fun x4 =>
    zbI (zv 12 225 [zR p2, zI x4] h2) fun x6 h5 =>
    zif (decide (x3 = x6))
      (zr 323 1599 [yR p0, yR p1, yR p2, yI a3] [] h5)
      (zrz (i32 0) h5) := U_323 (zst [1599]) 120 123 [yR p0, yR p1, yR p2, yI a3] [] h
set_option maxRecDepth 20000 in
theorem e_Law_140 (p0 : Option Nat) (p1 : Option Nat) (p2 : Option Nat) (a3 : Int32) (h : zHeap) : zr 323 140 [yR p0, yR p1, yR p2, yI a3] [] h =
    zoI (zaI h p0 (a3 + (i32 1)) 0) fun x1 =>
    zoI (zaI h p0 (a3 + (i32 2)) 0) fun x2 =>
    zbI (zv 11 154 [zR p1, zI x1, zI x2] h) fun x4 h3 =>
    zoI (zaI h3 p0 (a3 + (i32 1)) 0) fun x5 =>
    zoI (zaI h3 p0 (a3 + (i32 2)) 0) fun x6 =>
    zbI (zv 12 235 [zR p2, zI x5, zI x6] h3) fun x8 h7 =>
    zif (decide (x4 = x8))
      (zr 323 1599 [yR p0, yR p1, yR p2, yI a3] [] h7)
      (zrz (i32 0) h7) := U_323 (zst [1599]) 120 140 [yR p0, yR p1, yR p2, yI a3] [] h
set_option maxRecDepth 20000 in
theorem e_Law_167 (p0 : Option Nat) (p1 : Option Nat) (p2 : Option Nat) (a3 : Int32) (h : zHeap) : zr 323 167 [yR p0, yR p1, yR p2, yI a3] [] h =
    zoI (zaI h p0 (a3 + (i32 1)) 0) fun x1 =>
    zoI (zaI h p0 (a3 + (i32 2)) 0) fun x2 =>
    zoI (zaI h p0 (a3 + (i32 3)) 0) fun x3 =>
    zoI (zaI h p0 (a3 + (i32 4)) 0) fun x4 =>
    zoI (zaI h p0 (a3 + (i32 5)) 0) fun x5 =>
    zif (decide (x5 = 0))
      (zbI (zv 11 155 [zR p1, zI x1, zI x2, zI x3, zI x4, zI (i32 0)] h) fun x7 h6 =>
      zoI (zaI h6 p0 (a3 + (i32 1)) 0) fun x8 =>
      zoI (zaI h6 p0 (a3 + (i32 2)) 0) fun x9 =>
      zoI (zaI h6 p0 (a3 + (i32 3)) 0) fun x10 =>
      zoI (zaI h6 p0 (a3 + (i32 4)) 0) fun x11 =>
      zoI (zaI h6 p0 (a3 + (i32 5)) 0) fun x12 =>
      zif (decide (x12 = 0))
        (zbI (zv 12 241 [zR p2, zI x8, zI x9, zI x10, zI x11, zI (i32 0)] h6) fun x14 h13 =>
        zif (decide (x7 = x14))
          (zr 323 1599 [yR p0, yR p1, yR p2, yI a3] [] h13)
          (zrz (i32 0) h13))
        (zbI (zv 12 241 [zR p2, zI x8, zI x9, zI x10, zI x11, zI (i32 1)] h6) fun x16 h15 =>
        zif (decide (x7 = x16))
          (zr 323 1599 [yR p0, yR p1, yR p2, yI a3] [] h15)
          (zrz (i32 0) h15)))
      (zbI (zv 11 155 [zR p1, zI x1, zI x2, zI x3, zI x4, zI (i32 1)] h) fun x18 h17 =>
      zoI (zaI h17 p0 (a3 + (i32 1)) 0) fun x19 =>
      zoI (zaI h17 p0 (a3 + (i32 2)) 0) fun x20 =>
      zoI (zaI h17 p0 (a3 + (i32 3)) 0) fun x21 =>
      zoI (zaI h17 p0 (a3 + (i32 4)) 0) fun x22 =>
      zoI (zaI h17 p0 (a3 + (i32 5)) 0) fun x23 =>
      zif (decide (x23 = 0))
        (zbI (zv 12 241 [zR p2, zI x19, zI x20, zI x21, zI x22, zI (i32 0)] h17) fun x25 h24 =>
        zif (decide (x18 = x25))
          (zr 323 1599 [yR p0, yR p1, yR p2, yI a3] [] h24)
          (zrz (i32 0) h24))
        (zbI (zv 12 241 [zR p2, zI x19, zI x20, zI x21, zI x22, zI (i32 1)] h17) fun x27 h26 =>
        zif (decide (x18 = x27))
          (zr 323 1599 [yR p0, yR p1, yR p2, yI a3] [] h26)
          (zrz (i32 0) h26))) := U_323 (zst [1599]) 120 167 [yR p0, yR p1, yR p2, yI a3] [] h
set_option maxRecDepth 20000 in
theorem e_Law_232 (p0 : Option Nat) (p1 : Option Nat) (p2 : Option Nat) (a3 : Int32) (h : zHeap) : zr 323 232 [yR p0, yR p1, yR p2, yI a3] [] h =
    zoI (zaI h p0 (a3 + (i32 1)) 0) fun x1 =>
    zoI (zaI h p0 (a3 + (i32 2)) 0) fun x2 =>
    zoI (zaI h p0 (a3 + (i32 3)) 0) fun x3 =>
    zbI (zv 11 156 [zR p1, zI x1, zI x2, zI x3] h) fun x5 h4 =>
    zoI (zaI h4 p0 (a3 + (i32 1)) 0) fun x6 =>
    zoI (zaI h4 p0 (a3 + (i32 2)) 0) fun x7 =>
    zoI (zaI h4 p0 (a3 + (i32 3)) 0) fun x8 =>
    zbI (zv 12 287 [zR p2, zI x6, zI x7, zI x8] h4) fun x10 h9 =>
    zif (decide (x5 = x10))
      (zr 323 1599 [yR p0, yR p1, yR p2, yI a3] [] h9)
      (zrz (i32 0) h9) := U_323 (zst [1599]) 120 232 [yR p0, yR p1, yR p2, yI a3] [] h
set_option maxRecDepth 20000 in
theorem e_Law_269 (p0 : Option Nat) (p1 : Option Nat) (p2 : Option Nat) (a3 : Int32) (h : zHeap) : zr 323 269 [yR p0, yR p1, yR p2, yI a3] [] h =
    zoI (zaI h p0 (a3 + (i32 1)) 0) fun x1 =>
    zoI (zaI h p0 (a3 + (i32 2)) 0) fun x2 =>
    zbI (zv 11 157 [zR p1, zI x1, zI x2] h) fun x4 h3 =>
    zoI (zaI h3 p0 (a3 + (i32 1)) 0) fun x5 =>
    zoI (zaI h3 p0 (a3 + (i32 2)) 0) fun x6 =>
    zbI (zv 12 299 [zR p2, zI x5, zI x6] h3) fun x8 h7 =>
    zif (decide (x4 = x8))
      (zr 323 1599 [yR p0, yR p1, yR p2, yI a3] [] h7)
      (zrz (i32 0) h7) := U_323 (zst [1599]) 120 269 [yR p0, yR p1, yR p2, yI a3] [] h
set_option maxRecDepth 20000 in
theorem e_Law_296 (p0 : Option Nat) (p1 : Option Nat) (p2 : Option Nat) (a3 : Int32) (h : zHeap) : zr 323 296 [yR p0, yR p1, yR p2, yI a3] [] h =
    zoI (zaI h p0 (a3 + (i32 1)) 0) fun x1 =>
    zoI (zaI h p0 (a3 + (i32 2)) 0) fun x2 =>
    zoI (zaI h p0 (a3 + (i32 3)) 0) fun x3 =>
    zoI (zaI h p0 (a3 + (i32 4)) 0) fun x4 =>
    zbI (zv 11 158 [zR p1, zI x1, zI x2, zI x3, zI x4] h) fun x6 h5 =>
    zoI (zaI h5 p0 (a3 + (i32 1)) 0) fun x7 =>
    zoI (zaI h5 p0 (a3 + (i32 2)) 0) fun x8 =>
    zoI (zaI h5 p0 (a3 + (i32 3)) 0) fun x9 =>
    zoI (zaI h5 p0 (a3 + (i32 4)) 0) fun x10 =>
    zbI (zv 12 303 [zR p2, zI x7, zI x8, zI x9, zI x10] h5) fun x12 h11 =>
    zif (decide (x6 = x12))
      (zr 323 1599 [yR p0, yR p1, yR p2, yI a3] [] h11)
      (zrz (i32 0) h11) := U_323 (zst [1599]) 120 296 [yR p0, yR p1, yR p2, yI a3] [] h
set_option maxRecDepth 20000 in
theorem e_Law_343 (p0 : Option Nat) (p1 : Option Nat) (p2 : Option Nat) (a3 : Int32) (h : zHeap) : zr 323 343 [yR p0, yR p1, yR p2, yI a3] [] h =
    zoI (zaI h p0 (a3 + (i32 1)) 0) fun x1 =>
    zoI (zaI h p0 (a3 + (i32 2)) 0) fun x2 =>
    zoI (zaI h p0 (a3 + (i32 3)) 0) fun x3 =>
    zoI (zaI h p0 (a3 + (i32 4)) 0) fun x4 =>
    zoI (zaI h p0 (a3 + (i32 5)) 0) fun x5 =>
    zoI (zaI h p0 (a3 + (i32 6)) 0) fun x6 =>
    zbI (zv 11 159 [zR p1, zI x1, zI x2, zI x3, zI x4, zI x5, zI x6] h) fun x8 h7 =>
    zoI (zaI h7 p0 (a3 + (i32 1)) 0) fun x9 =>
    zoI (zaI h7 p0 (a3 + (i32 2)) 0) fun x10 =>
    zoI (zaI h7 p0 (a3 + (i32 3)) 0) fun x11 =>
    zoI (zaI h7 p0 (a3 + (i32 4)) 0) fun x12 =>
    zoI (zaI h7 p0 (a3 + (i32 5)) 0) fun x13 =>
    zoI (zaI h7 p0 (a3 + (i32 6)) 0) fun x14 =>
    zbI (zv 12 244 [zR p2, zI x9, zI x10, zI x11, zI x12, zI x13, zI x14] h7) fun x16 h15 =>
    zif (decide (x8 = x16))
      (zr 323 1599 [yR p0, yR p1, yR p2, yI a3] [] h15)
      (zrz (i32 0) h15) := U_323 (zst [1599]) 120 343 [yR p0, yR p1, yR p2, yI a3] [] h
set_option maxRecDepth 20000 in
theorem e_Law_410 (p0 : Option Nat) (p1 : Option Nat) (p2 : Option Nat) (a3 : Int32) (h : zHeap) : zr 323 410 [yR p0, yR p1, yR p2, yI a3] [] h =
    zoI (zaI h p0 (a3 + (i32 1)) 0) fun x1 =>
    zoI (zaI h p0 (a3 + (i32 2)) 0) fun x2 =>
    zoI (zaI h p0 (a3 + (i32 3)) 0) fun x3 =>
    zoI (zaI h p0 (a3 + (i32 4)) 0) fun x4 =>
    zbI (zv 11 160 [zR p1, zI x1, zI x2, zI x3, zI x4] h) fun x6 h5 =>
    zoI (zaI h5 p0 (a3 + (i32 1)) 0) fun x7 =>
    zoI (zaI h5 p0 (a3 + (i32 2)) 0) fun x8 =>
    zoI (zaI h5 p0 (a3 + (i32 3)) 0) fun x9 =>
    zoI (zaI h5 p0 (a3 + (i32 4)) 0) fun x10 =>
    zbI (zv 12 248 [zR p2, zI x7, zI x8, zI x9, zI x10] h5) fun x12 h11 =>
    zif (decide (x6 = x12))
      (zr 323 1599 [yR p0, yR p1, yR p2, yI a3] [] h11)
      (zrz (i32 0) h11) := U_323 (zst [1599]) 120 410 [yR p0, yR p1, yR p2, yI a3] [] h
set_option maxRecDepth 20000 in
theorem e_Law_457 (p0 : Option Nat) (p1 : Option Nat) (p2 : Option Nat) (a3 : Int32) (h : zHeap) : zr 323 457 [yR p0, yR p1, yR p2, yI a3] [] h =
    zoI (zaI h p0 (a3 + (i32 1)) 0) fun x1 =>
    zoI (zaI h p0 (a3 + (i32 2)) 0) fun x2 =>
    zoI (zaI h p0 (a3 + (i32 3)) 0) fun x3 =>
    zoI (zaI h p0 (a3 + (i32 4)) 0) fun x4 =>
    zif (decide (x4 = 0))
      (zbI (zv 11 161 [zR p1, zI x1, zI x2, zI x3, zI (i32 0)] h) fun x6 h5 =>
      zoI (zaI h5 p0 (a3 + (i32 1)) 0) fun x7 =>
      zoI (zaI h5 p0 (a3 + (i32 2)) 0) fun x8 =>
      zoI (zaI h5 p0 (a3 + (i32 3)) 0) fun x9 =>
      zoI (zaI h5 p0 (a3 + (i32 4)) 0) fun x10 =>
      zif (decide (x10 = 0))
        (zbI (zv 12 251 [zR p2, zI x7, zI x8, zI x9, zI (i32 0)] h5) fun x12 h11 =>
        zif (decide (x6 = x12))
          (zr 323 1599 [yR p0, yR p1, yR p2, yI a3] [] h11)
          (zrz (i32 0) h11))
        (zbI (zv 12 251 [zR p2, zI x7, zI x8, zI x9, zI (i32 1)] h5) fun x14 h13 =>
        zif (decide (x6 = x14))
          (zr 323 1599 [yR p0, yR p1, yR p2, yI a3] [] h13)
          (zrz (i32 0) h13)))
      (zbI (zv 11 161 [zR p1, zI x1, zI x2, zI x3, zI (i32 1)] h) fun x16 h15 =>
      zoI (zaI h15 p0 (a3 + (i32 1)) 0) fun x17 =>
      zoI (zaI h15 p0 (a3 + (i32 2)) 0) fun x18 =>
      zoI (zaI h15 p0 (a3 + (i32 3)) 0) fun x19 =>
      zoI (zaI h15 p0 (a3 + (i32 4)) 0) fun x20 =>
      zif (decide (x20 = 0))
        (zbI (zv 12 251 [zR p2, zI x17, zI x18, zI x19, zI (i32 0)] h15) fun x22 h21 =>
        zif (decide (x16 = x22))
          (zr 323 1599 [yR p0, yR p1, yR p2, yI a3] [] h21)
          (zrz (i32 0) h21))
        (zbI (zv 12 251 [zR p2, zI x17, zI x18, zI x19, zI (i32 1)] h15) fun x24 h23 =>
        zif (decide (x16 = x24))
          (zr 323 1599 [yR p0, yR p1, yR p2, yI a3] [] h23)
          (zrz (i32 0) h23))) := U_323 (zst [1599]) 120 457 [yR p0, yR p1, yR p2, yI a3] [] h
set_option maxRecDepth 20000 in
theorem e_Law_512 (p0 : Option Nat) (p1 : Option Nat) (p2 : Option Nat) (a3 : Int32) (h : zHeap) : zr 323 512 [yR p0, yR p1, yR p2, yI a3] [] h =
    zoI (zaI h p0 (a3 + (i32 1)) 0) fun x1 =>
    zoI (zaI h p0 (a3 + (i32 2)) 0) fun x2 =>
    zoI (zaI h p0 (a3 + (i32 3)) 0) fun x3 =>
    zbI (zv 11 162 [zR p1, zI x1, zI x2, zI x3] h) fun x5 h4 =>
    zoI (zaI h4 p0 (a3 + (i32 1)) 0) fun x6 =>
    zoI (zaI h4 p0 (a3 + (i32 2)) 0) fun x7 =>
    zoI (zaI h4 p0 (a3 + (i32 3)) 0) fun x8 =>
    zbI (zv 12 252 [zR p2, zI x6, zI x7, zI x8] h4) fun x10 h9 =>
    zif (decide (x5 = x10))
      (zr 323 1599 [yR p0, yR p1, yR p2, yI a3] [] h9)
      (zrz (i32 0) h9) := U_323 (zst [1599]) 120 512 [yR p0, yR p1, yR p2, yI a3] [] h
set_option maxRecDepth 20000 in
theorem e_Law_549 (p0 : Option Nat) (p1 : Option Nat) (p2 : Option Nat) (a3 : Int32) (h : zHeap) : zr 323 549 [yR p0, yR p1, yR p2, yI a3] [] h =
    zoI (zaI h p0 (a3 + (i32 1)) 0) fun x1 =>
    zbI (zv 11 163 [zR p1, zI x1] h) fun x3 h2 =>
    zoI (zaI h2 p0 (a3 + (i32 1)) 0) fun x4 =>
    zbI (zv 12 253 [zR p2, zI x4] h2) fun x6 h5 =>
    zif (decide (x3 = x6))
      (zr 323 1599 [yR p0, yR p1, yR p2, yI a3] [] h5)
      (zrz (i32 0) h5) := U_323 (zst [1599]) 120 549 [yR p0, yR p1, yR p2, yI a3] [] h
set_option maxRecDepth 20000 in
theorem e_Law_566 (p0 : Option Nat) (p1 : Option Nat) (p2 : Option Nat) (a3 : Int32) (h : zHeap) : zr 323 566 [yR p0, yR p1, yR p2, yI a3] [] h =
    zoI (zaI h p0 (a3 + (i32 1)) 0) fun x1 =>
    zoI (zaI h p0 (a3 + (i32 2)) 0) fun x2 =>
    zoI (zaI h p0 (a3 + (i32 3)) 0) fun x3 =>
    zbI (zv 11 164 [zR p1, zI x1, zI x2, zI x3] h) fun x5 h4 =>
    zoI (zaI h4 p0 (a3 + (i32 1)) 0) fun x6 =>
    zoI (zaI h4 p0 (a3 + (i32 2)) 0) fun x7 =>
    zoI (zaI h4 p0 (a3 + (i32 3)) 0) fun x8 =>
    zbI (zv 12 254 [zR p2, zI x6, zI x7, zI x8] h4) fun x10 h9 =>
    zif (decide (x5 = x10))
      (zr 323 1599 [yR p0, yR p1, yR p2, yI a3] [] h9)
      (zrz (i32 0) h9) := U_323 (zst [1599]) 120 566 [yR p0, yR p1, yR p2, yI a3] [] h
set_option maxRecDepth 20000 in
theorem e_Law_603 (p0 : Option Nat) (p1 : Option Nat) (p2 : Option Nat) (a3 : Int32) (h : zHeap) : zr 323 603 [yR p0, yR p1, yR p2, yI a3] [] h =
    zoI (zaI h p0 (a3 + (i32 1)) 0) fun x1 =>
    zoI (zaI h p0 (a3 + (i32 2)) 0) fun x2 =>
    zoI (zaI h p0 (a3 + (i32 3)) 0) fun x3 =>
    zoI (zaI h p0 (a3 + (i32 4)) 0) fun x4 =>
    zoI (zaI h p0 (a3 + (i32 5)) 0) fun x5 =>
    zbI (zv 11 165 [zR p1, zI x1, zI x2, zI x3, zI x4, zI x5] h) fun x7 h6 =>
    zoI (zaI h6 p0 (a3 + (i32 1)) 0) fun x8 =>
    zoI (zaI h6 p0 (a3 + (i32 2)) 0) fun x9 =>
    zoI (zaI h6 p0 (a3 + (i32 3)) 0) fun x10 =>
    zoI (zaI h6 p0 (a3 + (i32 4)) 0) fun x11 =>
    zoI (zaI h6 p0 (a3 + (i32 5)) 0) fun x12 =>
    zbI (zv 12 255 [zR p2, zI x8, zI x9, zI x10, zI x11, zI x12] h6) fun x14 h13 =>
    zif (decide (x7 = x14))
      (zr 323 1599 [yR p0, yR p1, yR p2, yI a3] [] h13)
      (zrz (i32 0) h13) := U_323 (zst [1599]) 120 603 [yR p0, yR p1, yR p2, yI a3] [] h
set_option maxRecDepth 20000 in
theorem e_Law_660 (p0 : Option Nat) (p1 : Option Nat) (p2 : Option Nat) (a3 : Int32) (h : zHeap) : zr 323 660 [yR p0, yR p1, yR p2, yI a3] [] h =
    zoI (zaI h p0 (a3 + (i32 1)) 0) fun x1 =>
    zoI (zaI h p0 (a3 + (i32 2)) 0) fun x2 =>
    zoI (zaI h p0 (a3 + (i32 3)) 0) fun x3 =>
    zbI (zv 11 166 [zR p1, zI x1, zI x2, zI x3] h) fun x5 h4 =>
    zoI (zaI h4 p0 (a3 + (i32 1)) 0) fun x6 =>
    zoI (zaI h4 p0 (a3 + (i32 2)) 0) fun x7 =>
    zoI (zaI h4 p0 (a3 + (i32 3)) 0) fun x8 =>
    zbI (zv 12 305 [zR p2, zI x6, zI x7, zI x8] h4) fun x10 h9 =>
    zif (decide (x5 = x10))
      (zr 323 1599 [yR p0, yR p1, yR p2, yI a3] [] h9)
      (zrz (i32 0) h9) := U_323 (zst [1599]) 120 660 [yR p0, yR p1, yR p2, yI a3] [] h
set_option maxRecDepth 20000 in
theorem e_Law_697 (p0 : Option Nat) (p1 : Option Nat) (p2 : Option Nat) (a3 : Int32) (h : zHeap) : zr 323 697 [yR p0, yR p1, yR p2, yI a3] [] h =
    zoI (zaI h p0 (a3 + (i32 1)) 0) fun x1 =>
    zoI (zaI h p0 (a3 + (i32 2)) 0) fun x2 =>
    zoI (zaI h p0 (a3 + (i32 3)) 0) fun x3 =>
    zbI (zv 11 167 [zR p1, zI x1, zI x2, zI x3] h) fun x5 h4 =>
    zoI (zaI h4 p0 (a3 + (i32 1)) 0) fun x6 =>
    zoI (zaI h4 p0 (a3 + (i32 2)) 0) fun x7 =>
    zoI (zaI h4 p0 (a3 + (i32 3)) 0) fun x8 =>
    zbI (zv 12 312 [zR p2, zI x6, zI x7, zI x8] h4) fun x10 h9 =>
    zif (decide (x5 = x10))
      (zr 323 1599 [yR p0, yR p1, yR p2, yI a3] [] h9)
      (zrz (i32 0) h9) := U_323 (zst [1599]) 120 697 [yR p0, yR p1, yR p2, yI a3] [] h
set_option maxRecDepth 20000 in
theorem e_Law_734 (p0 : Option Nat) (p1 : Option Nat) (p2 : Option Nat) (a3 : Int32) (h : zHeap) : zr 323 734 [yR p0, yR p1, yR p2, yI a3] [] h =
    zoI (zaI h p0 (a3 + (i32 1)) 0) fun x1 =>
    zoI (zaI h p0 (a3 + (i32 2)) 0) fun x2 =>
    zoI (zaI h p0 (a3 + (i32 3)) 0) fun x3 =>
    zoI (zaI h p0 (a3 + (i32 4)) 0) fun x4 =>
    zoI (zaI h p0 (a3 + (i32 5)) 0) fun x5 =>
    zif (decide (x5 = 0))
      (zbL (zv 11 168 [zR p1, zI x1, zI x2, zI x3, zI x4, zI (i32 0)] h) fun y7 h6 =>
      zoI (zaI h6 p0 (a3 + (i32 1)) 0) fun x8 =>
      zoI (zaI h6 p0 (a3 + (i32 2)) 0) fun x9 =>
      zoI (zaI h6 p0 (a3 + (i32 3)) 0) fun x10 =>
      zoI (zaI h6 p0 (a3 + (i32 4)) 0) fun x11 =>
      zoI (zaI h6 p0 (a3 + (i32 5)) 0) fun x12 =>
      zif (decide (x12 = 0))
        (zbL (zv 12 316 [zR p2, zI x8, zI x9, zI x10, zI x11, zI (i32 0)] h6) fun y14 h13 =>
        zif (decide ((zcmp y7 y14) = 0))
          (zr 323 1599 [yR p0, yR p1, yR p2, yI a3] [] h13)
          (zrz (i32 0) h13))
        (zbL (zv 12 316 [zR p2, zI x8, zI x9, zI x10, zI x11, zI (i32 1)] h6) fun y16 h15 =>
        zif (decide ((zcmp y7 y16) = 0))
          (zr 323 1599 [yR p0, yR p1, yR p2, yI a3] [] h15)
          (zrz (i32 0) h15)))
      (zbL (zv 11 168 [zR p1, zI x1, zI x2, zI x3, zI x4, zI (i32 1)] h) fun y18 h17 =>
      zoI (zaI h17 p0 (a3 + (i32 1)) 0) fun x19 =>
      zoI (zaI h17 p0 (a3 + (i32 2)) 0) fun x20 =>
      zoI (zaI h17 p0 (a3 + (i32 3)) 0) fun x21 =>
      zoI (zaI h17 p0 (a3 + (i32 4)) 0) fun x22 =>
      zoI (zaI h17 p0 (a3 + (i32 5)) 0) fun x23 =>
      zif (decide (x23 = 0))
        (zbL (zv 12 316 [zR p2, zI x19, zI x20, zI x21, zI x22, zI (i32 0)] h17) fun y25 h24 =>
        zif (decide ((zcmp y18 y25) = 0))
          (zr 323 1599 [yR p0, yR p1, yR p2, yI a3] [] h24)
          (zrz (i32 0) h24))
        (zbL (zv 12 316 [zR p2, zI x19, zI x20, zI x21, zI x22, zI (i32 1)] h17) fun y27 h26 =>
        zif (decide ((zcmp y18 y27) = 0))
          (zr 323 1599 [yR p0, yR p1, yR p2, yI a3] [] h26)
          (zrz (i32 0) h26))) := U_323 (zst [1599]) 120 734 [yR p0, yR p1, yR p2, yI a3] [] h
set_option maxRecDepth 20000 in
theorem e_Law_800 (p0 : Option Nat) (p1 : Option Nat) (p2 : Option Nat) (a3 : Int32) (h : zHeap) : zr 323 800 [yR p0, yR p1, yR p2, yI a3] [] h =
    zoI (zaI h p0 (a3 + (i32 1)) 0) fun x1 =>
    zoI (zaI h p0 (a3 + (i32 2)) 0) fun x2 =>
    zoI (zaI h p0 (a3 + (i32 3)) 0) fun x3 =>
    zoI (zaI h p0 (a3 + (i32 4)) 0) fun x4 =>
    zbI (zv 11 169 [zR p1, zI x1, zI x2, zI x3, zI x4] h) fun x6 h5 =>
    zoI (zaI h5 p0 (a3 + (i32 1)) 0) fun x7 =>
    zoI (zaI h5 p0 (a3 + (i32 2)) 0) fun x8 =>
    zoI (zaI h5 p0 (a3 + (i32 3)) 0) fun x9 =>
    zoI (zaI h5 p0 (a3 + (i32 4)) 0) fun x10 =>
    zbI (zv 12 319 [zR p2, zI x7, zI x8, zI x9, zI x10] h5) fun x12 h11 =>
    zif (decide (x6 = x12))
      (zr 323 1599 [yR p0, yR p1, yR p2, yI a3] [] h11)
      (zrz (i32 0) h11) := U_323 (zst [1599]) 120 800 [yR p0, yR p1, yR p2, yI a3] [] h
set_option maxRecDepth 20000 in
theorem e_Law_847 (p0 : Option Nat) (p1 : Option Nat) (p2 : Option Nat) (a3 : Int32) (h : zHeap) : zr 323 847 [yR p0, yR p1, yR p2, yI a3] [] h =
    zoI (zaI h p0 (a3 + (i32 1)) 0) fun x1 =>
    zoI (zaI h p0 (a3 + (i32 2)) 0) fun x2 =>
    zoI (zaI h p0 (a3 + (i32 3)) 0) fun x3 =>
    zoI (zaI h p0 (a3 + (i32 4)) 0) fun x4 =>
    zoI (zaI h p0 (a3 + (i32 5)) 0) fun x5 =>
    zbI (zv 11 170 [zR p1, zI x1, zI x2, zI x3, zI x4, zI x5] h) fun x7 h6 =>
    zoI (zaI h6 p0 (a3 + (i32 1)) 0) fun x8 =>
    zoI (zaI h6 p0 (a3 + (i32 2)) 0) fun x9 =>
    zoI (zaI h6 p0 (a3 + (i32 3)) 0) fun x10 =>
    zoI (zaI h6 p0 (a3 + (i32 4)) 0) fun x11 =>
    zoI (zaI h6 p0 (a3 + (i32 5)) 0) fun x12 =>
    zbI (zv 12 257 [zR p2, zI x8, zI x9, zI x10, zI x11, zI x12] h6) fun x14 h13 =>
    zif (decide (x7 = x14))
      (zr 323 1599 [yR p0, yR p1, yR p2, yI a3] [] h13)
      (zrz (i32 0) h13) := U_323 (zst [1599]) 120 847 [yR p0, yR p1, yR p2, yI a3] [] h
set_option maxRecDepth 20000 in
theorem e_Law_904 (p0 : Option Nat) (p1 : Option Nat) (p2 : Option Nat) (a3 : Int32) (h : zHeap) : zr 323 904 [yR p0, yR p1, yR p2, yI a3] [] h =
    zoI (zaI h p0 (a3 + (i32 1)) 0) fun x1 =>
    zoI (zaI h p0 (a3 + (i32 2)) 0) fun x2 =>
    zoI (zaI h p0 (a3 + (i32 3)) 0) fun x3 =>
    zoI (zaI h p0 (a3 + (i32 4)) 0) fun x4 =>
    zoI (zaI h p0 (a3 + (i32 5)) 0) fun x5 =>
    zbI (zv 11 171 [zR p1, zI x1, zI x2, zI x3, zI x4, zI x5] h) fun x7 h6 =>
    zoI (zaI h6 p0 (a3 + (i32 1)) 0) fun x8 =>
    zoI (zaI h6 p0 (a3 + (i32 2)) 0) fun x9 =>
    zoI (zaI h6 p0 (a3 + (i32 3)) 0) fun x10 =>
    zoI (zaI h6 p0 (a3 + (i32 4)) 0) fun x11 =>
    zoI (zaI h6 p0 (a3 + (i32 5)) 0) fun x12 =>
    zbI (zv 12 258 [zR p2, zI x8, zI x9, zI x10, zI x11, zI x12] h6) fun x14 h13 =>
    zif (decide (x7 = x14))
      (zr 323 1599 [yR p0, yR p1, yR p2, yI a3] [] h13)
      (zrz (i32 0) h13) := U_323 (zst [1599]) 120 904 [yR p0, yR p1, yR p2, yI a3] [] h
set_option maxRecDepth 20000 in
theorem e_Law_961 (p0 : Option Nat) (p1 : Option Nat) (p2 : Option Nat) (a3 : Int32) (h : zHeap) : zr 323 961 [yR p0, yR p1, yR p2, yI a3] [] h =
    zoI (zaI h p0 (a3 + (i32 1)) 0) fun x1 =>
    zoI (zaI h p0 (a3 + (i32 2)) 0) fun x2 =>
    zoI (zaI h p0 (a3 + (i32 3)) 0) fun x3 =>
    zbI (zv 11 172 [zR p1, zI x1, zI x2, zI x3] h) fun x5 h4 =>
    zoI (zaI h4 p0 (a3 + (i32 1)) 0) fun x6 =>
    zoI (zaI h4 p0 (a3 + (i32 2)) 0) fun x7 =>
    zoI (zaI h4 p0 (a3 + (i32 3)) 0) fun x8 =>
    zbI (zv 12 259 [zR p2, zI x6, zI x7, zI x8] h4) fun x10 h9 =>
    zif (decide (x5 = x10))
      (zr 323 1599 [yR p0, yR p1, yR p2, yI a3] [] h9)
      (zrz (i32 0) h9) := U_323 (zst [1599]) 120 961 [yR p0, yR p1, yR p2, yI a3] [] h
set_option maxRecDepth 20000 in
theorem e_Law_998 (p0 : Option Nat) (p1 : Option Nat) (p2 : Option Nat) (a3 : Int32) (h : zHeap) : zr 323 998 [yR p0, yR p1, yR p2, yI a3] [] h =
    zoI (zaI h p0 (a3 + (i32 1)) 0) fun x1 =>
    zoI (zaI h p0 (a3 + (i32 2)) 0) fun x2 =>
    zoI (zaI h p0 (a3 + (i32 3)) 0) fun x3 =>
    zoI (zaI h p0 (a3 + (i32 4)) 0) fun x4 =>
    zbI (zv 11 173 [zR p1, zI x1, zI x2, zI x3, zI x4] h) fun x6 h5 =>
    zoI (zaI h5 p0 (a3 + (i32 1)) 0) fun x7 =>
    zoI (zaI h5 p0 (a3 + (i32 2)) 0) fun x8 =>
    zoI (zaI h5 p0 (a3 + (i32 3)) 0) fun x9 =>
    zoI (zaI h5 p0 (a3 + (i32 4)) 0) fun x10 =>
    zbI (zv 12 261 [zR p2, zI x7, zI x8, zI x9, zI x10] h5) fun x12 h11 =>
    zif (decide (x6 = x12))
      (zr 323 1599 [yR p0, yR p1, yR p2, yI a3] [] h11)
      (zrz (i32 0) h11) := U_323 (zst [1599]) 120 998 [yR p0, yR p1, yR p2, yI a3] [] h
set_option maxRecDepth 20000 in
theorem e_Law_1045 (p0 : Option Nat) (p1 : Option Nat) (p2 : Option Nat) (a3 : Int32) (h : zHeap) : zr 323 1045 [yR p0, yR p1, yR p2, yI a3] [] h =
    zoI (zaI h p0 (a3 + (i32 1)) 0) fun x1 =>
    zoI (zaI h p0 (a3 + (i32 2)) 0) fun x2 =>
    zoI (zaI h p0 (a3 + (i32 3)) 0) fun x3 =>
    zoI (zaI h p0 (a3 + (i32 4)) 0) fun x4 =>
    zbI (zv 11 174 [zR p1, zI x1, zI x2, zI x3, zI x4] h) fun x6 h5 =>
    zoI (zaI h5 p0 (a3 + (i32 1)) 0) fun x7 =>
    zoI (zaI h5 p0 (a3 + (i32 2)) 0) fun x8 =>
    zoI (zaI h5 p0 (a3 + (i32 3)) 0) fun x9 =>
    zoI (zaI h5 p0 (a3 + (i32 4)) 0) fun x10 =>
    zbI (zv 12 262 [zR p2, zI x7, zI x8, zI x9, zI x10] h5) fun x12 h11 =>
    zif (decide (x6 = x12))
      (zr 323 1599 [yR p0, yR p1, yR p2, yI a3] [] h11)
      (zrz (i32 0) h11) := U_323 (zst [1599]) 120 1045 [yR p0, yR p1, yR p2, yI a3] [] h
set_option maxRecDepth 20000 in
theorem e_Law_1092 (p0 : Option Nat) (p1 : Option Nat) (p2 : Option Nat) (a3 : Int32) (h : zHeap) : zr 323 1092 [yR p0, yR p1, yR p2, yI a3] [] h =
    zoI (zaI h p0 (a3 + (i32 1)) 0) fun x1 =>
    zoI (zaI h p0 (a3 + (i32 2)) 0) fun x2 =>
    zoI (zaI h p0 (a3 + (i32 3)) 0) fun x3 =>
    zif (decide (x3 = 0))
      (zbI (zv 11 175 [zR p1, zI x1, zI x2, zI (i32 0)] h) fun x5 h4 =>
      zoI (zaI h4 p0 (a3 + (i32 1)) 0) fun x6 =>
      zoI (zaI h4 p0 (a3 + (i32 2)) 0) fun x7 =>
      zoI (zaI h4 p0 (a3 + (i32 3)) 0) fun x8 =>
      zif (decide (x8 = 0))
        (zbI (zv 12 264 [zR p2, zI x6, zI x7, zI (i32 0)] h4) fun x10 h9 =>
        zif (decide (x5 = x10))
          (zr 323 1599 [yR p0, yR p1, yR p2, yI a3] [] h9)
          (zrz (i32 0) h9))
        (zbI (zv 12 264 [zR p2, zI x6, zI x7, zI (i32 1)] h4) fun x12 h11 =>
        zif (decide (x5 = x12))
          (zr 323 1599 [yR p0, yR p1, yR p2, yI a3] [] h11)
          (zrz (i32 0) h11)))
      (zbI (zv 11 175 [zR p1, zI x1, zI x2, zI (i32 1)] h) fun x14 h13 =>
      zoI (zaI h13 p0 (a3 + (i32 1)) 0) fun x15 =>
      zoI (zaI h13 p0 (a3 + (i32 2)) 0) fun x16 =>
      zoI (zaI h13 p0 (a3 + (i32 3)) 0) fun x17 =>
      zif (decide (x17 = 0))
        (zbI (zv 12 264 [zR p2, zI x15, zI x16, zI (i32 0)] h13) fun x19 h18 =>
        zif (decide (x14 = x19))
          (zr 323 1599 [yR p0, yR p1, yR p2, yI a3] [] h18)
          (zrz (i32 0) h18))
        (zbI (zv 12 264 [zR p2, zI x15, zI x16, zI (i32 1)] h13) fun x21 h20 =>
        zif (decide (x14 = x21))
          (zr 323 1599 [yR p0, yR p1, yR p2, yI a3] [] h20)
          (zrz (i32 0) h20))) := U_323 (zst [1599]) 120 1092 [yR p0, yR p1, yR p2, yI a3] [] h
set_option maxRecDepth 20000 in
theorem e_Law_1137 (p0 : Option Nat) (p1 : Option Nat) (p2 : Option Nat) (a3 : Int32) (h : zHeap) : zr 323 1137 [yR p0, yR p1, yR p2, yI a3] [] h =
    zoI (zaI h p0 (a3 + (i32 1)) 0) fun x1 =>
    zoI (zaI h p0 (a3 + (i32 2)) 0) fun x2 =>
    zoI (zaI h p0 (a3 + (i32 3)) 0) fun x3 =>
    zif (decide (x3 = 0))
      (zbI (zv 11 176 [zR p1, zI x1, zI x2, zI (i32 0)] h) fun x5 h4 =>
      zoI (zaI h4 p0 (a3 + (i32 1)) 0) fun x6 =>
      zoI (zaI h4 p0 (a3 + (i32 2)) 0) fun x7 =>
      zoI (zaI h4 p0 (a3 + (i32 3)) 0) fun x8 =>
      zif (decide (x8 = 0))
        (zbI (zv 12 267 [zR p2, zI x6, zI x7, zI (i32 0)] h4) fun x10 h9 =>
        zif (decide (x5 = x10))
          (zr 323 1599 [yR p0, yR p1, yR p2, yI a3] [] h9)
          (zrz (i32 0) h9))
        (zbI (zv 12 267 [zR p2, zI x6, zI x7, zI (i32 1)] h4) fun x12 h11 =>
        zif (decide (x5 = x12))
          (zr 323 1599 [yR p0, yR p1, yR p2, yI a3] [] h11)
          (zrz (i32 0) h11)))
      (zbI (zv 11 176 [zR p1, zI x1, zI x2, zI (i32 1)] h) fun x14 h13 =>
      zoI (zaI h13 p0 (a3 + (i32 1)) 0) fun x15 =>
      zoI (zaI h13 p0 (a3 + (i32 2)) 0) fun x16 =>
      zoI (zaI h13 p0 (a3 + (i32 3)) 0) fun x17 =>
      zif (decide (x17 = 0))
        (zbI (zv 12 267 [zR p2, zI x15, zI x16, zI (i32 0)] h13) fun x19 h18 =>
        zif (decide (x14 = x19))
          (zr 323 1599 [yR p0, yR p1, yR p2, yI a3] [] h18)
          (zrz (i32 0) h18))
        (zbI (zv 12 267 [zR p2, zI x15, zI x16, zI (i32 1)] h13) fun x21 h20 =>
        zif (decide (x14 = x21))
          (zr 323 1599 [yR p0, yR p1, yR p2, yI a3] [] h20)
          (zrz (i32 0) h20))) := U_323 (zst [1599]) 120 1137 [yR p0, yR p1, yR p2, yI a3] [] h
set_option maxRecDepth 20000 in
theorem e_Law_1182 (p0 : Option Nat) (p1 : Option Nat) (p2 : Option Nat) (a3 : Int32) (h : zHeap) : zr 323 1182 [yR p0, yR p1, yR p2, yI a3] [] h =
    zoI (zaI h p0 (a3 + (i32 1)) 0) fun x1 =>
    zoI (zaI h p0 (a3 + (i32 2)) 0) fun x2 =>
    zbI (zv 11 177 [zR p1, zI x1, zI x2] h) fun x4 h3 =>
    zoI (zaI h3 p0 (a3 + (i32 1)) 0) fun x5 =>
    zoI (zaI h3 p0 (a3 + (i32 2)) 0) fun x6 =>
    zbI (zv 12 270 [zR p2, zI x5, zI x6] h3) fun x8 h7 =>
    zif (decide (x4 = x8))
      (zr 323 1599 [yR p0, yR p1, yR p2, yI a3] [] h7)
      (zrz (i32 0) h7) := U_323 (zst [1599]) 120 1182 [yR p0, yR p1, yR p2, yI a3] [] h
set_option maxRecDepth 20000 in
theorem e_Law_1209 (p0 : Option Nat) (p1 : Option Nat) (p2 : Option Nat) (a3 : Int32) (h : zHeap) : zr 323 1209 [yR p0, yR p1, yR p2, yI a3] [] h =
    zoI (zaI h p0 (a3 + (i32 1)) 0) fun x1 =>
    zoI (zaI h p0 (a3 + (i32 2)) 0) fun x2 =>
    zoI (zaI h p0 (a3 + (i32 3)) 0) fun x3 =>
    zbI (zv 11 178 [zR p1, zI x1, zI x2, zI x3] h) fun x5 h4 =>
    zoI (zaI h4 p0 (a3 + (i32 1)) 0) fun x6 =>
    zoI (zaI h4 p0 (a3 + (i32 2)) 0) fun x7 =>
    zoI (zaI h4 p0 (a3 + (i32 3)) 0) fun x8 =>
    zbI (zv 12 272 [zR p2, zI x6, zI x7, zI x8] h4) fun x10 h9 =>
    zif (decide (x5 = x10))
      (zr 323 1599 [yR p0, yR p1, yR p2, yI a3] [] h9)
      (zrz (i32 0) h9) := U_323 (zst [1599]) 120 1209 [yR p0, yR p1, yR p2, yI a3] [] h
set_option maxRecDepth 20000 in
theorem e_Law_1246 (p0 : Option Nat) (p1 : Option Nat) (p2 : Option Nat) (a3 : Int32) (h : zHeap) : zr 323 1246 [yR p0, yR p1, yR p2, yI a3] [] h =
    zoI (zaI h p0 (a3 + (i32 1)) 0) fun x1 =>
    zoI (zaI h p0 (a3 + (i32 2)) 0) fun x2 =>
    zbI (zv 11 179 [zR p1, zI x1, zI x2] h) fun x4 h3 =>
    zoI (zaI h3 p0 (a3 + (i32 1)) 0) fun x5 =>
    zoI (zaI h3 p0 (a3 + (i32 2)) 0) fun x6 =>
    zbI (zv 12 275 [zR p2, zI x5, zI x6] h3) fun x8 h7 =>
    zif (decide (x4 = x8))
      (zr 323 1599 [yR p0, yR p1, yR p2, yI a3] [] h7)
      (zrz (i32 0) h7) := U_323 (zst [1599]) 120 1246 [yR p0, yR p1, yR p2, yI a3] [] h
set_option maxRecDepth 20000 in
theorem e_Law_1273 (p0 : Option Nat) (p1 : Option Nat) (p2 : Option Nat) (a3 : Int32) (h : zHeap) : zr 323 1273 [yR p0, yR p1, yR p2, yI a3] [] h =
    zoI (zaI h p0 (a3 + (i32 1)) 0) fun x1 =>
    zoI (zaI h p0 (a3 + (i32 2)) 0) fun x2 =>
    zoI (zaI h p0 (a3 + (i32 3)) 0) fun x3 =>
    zif (decide (x3 = 0))
      (zbI (zv 11 180 [zR p1, zI x1, zI x2, zI (i32 0)] h) fun x5 h4 =>
      zoI (zaI h4 p0 (a3 + (i32 1)) 0) fun x6 =>
      zoI (zaI h4 p0 (a3 + (i32 2)) 0) fun x7 =>
      zoI (zaI h4 p0 (a3 + (i32 3)) 0) fun x8 =>
      zif (decide (x8 = 0))
        (zbI (zv 12 285 [zR p2, zI x6, zI x7, zI (i32 0)] h4) fun x10 h9 =>
        zif (decide (x5 = x10))
          (zr 323 1599 [yR p0, yR p1, yR p2, yI a3] [] h9)
          (zrz (i32 0) h9))
        (zbI (zv 12 285 [zR p2, zI x6, zI x7, zI (i32 1)] h4) fun x12 h11 =>
        zif (decide (x5 = x12))
          (zr 323 1599 [yR p0, yR p1, yR p2, yI a3] [] h11)
          (zrz (i32 0) h11)))
      (zbI (zv 11 180 [zR p1, zI x1, zI x2, zI (i32 1)] h) fun x14 h13 =>
      zoI (zaI h13 p0 (a3 + (i32 1)) 0) fun x15 =>
      zoI (zaI h13 p0 (a3 + (i32 2)) 0) fun x16 =>
      zoI (zaI h13 p0 (a3 + (i32 3)) 0) fun x17 =>
      zif (decide (x17 = 0))
        (zbI (zv 12 285 [zR p2, zI x15, zI x16, zI (i32 0)] h13) fun x19 h18 =>
        zif (decide (x14 = x19))
          (zr 323 1599 [yR p0, yR p1, yR p2, yI a3] [] h18)
          (zrz (i32 0) h18))
        (zbI (zv 12 285 [zR p2, zI x15, zI x16, zI (i32 1)] h13) fun x21 h20 =>
        zif (decide (x14 = x21))
          (zr 323 1599 [yR p0, yR p1, yR p2, yI a3] [] h20)
          (zrz (i32 0) h20))) := U_323 (zst [1599]) 120 1273 [yR p0, yR p1, yR p2, yI a3] [] h
set_option maxRecDepth 20000 in
theorem e_Law_1318 (p0 : Option Nat) (p1 : Option Nat) (p2 : Option Nat) (a3 : Int32) (h : zHeap) : zr 323 1318 [yR p0, yR p1, yR p2, yI a3] [] h =
    zoI (zaI h p0 (a3 + (i32 1)) 0) fun x1 =>
    zoI (zaI h p0 (a3 + (i32 2)) 0) fun x2 =>
    zoI (zaI h p0 (a3 + (i32 3)) 0) fun x3 =>
    zbI (zv 11 181 [zR p1, zI x1, zI x2, zI x3] h) fun x5 h4 =>
    zoI (zaI h4 p0 (a3 + (i32 1)) 0) fun x6 =>
    zoI (zaI h4 p0 (a3 + (i32 2)) 0) fun x7 =>
    zoI (zaI h4 p0 (a3 + (i32 3)) 0) fun x8 =>
    zbI (zv 12 301 [zR p2, zI x6, zI x7, zI x8] h4) fun x10 h9 =>
    zif (decide (x5 = x10))
      (zr 323 1599 [yR p0, yR p1, yR p2, yI a3] [] h9)
      (zrz (i32 0) h9) := U_323 (zst [1599]) 120 1318 [yR p0, yR p1, yR p2, yI a3] [] h
set_option maxRecDepth 20000 in
theorem e_Law_1355 (p0 : Option Nat) (p1 : Option Nat) (p2 : Option Nat) (a3 : Int32) (h : zHeap) : zr 323 1355 [yR p0, yR p1, yR p2, yI a3] [] h =
    zoI (zaI h p0 (a3 + (i32 1)) 0) fun x1 =>
    zoI (zaI h p0 (a3 + (i32 2)) 0) fun x2 =>
    zoI (zaI h p0 (a3 + (i32 3)) 0) fun x3 =>
    zoI (zaI h p0 (a3 + (i32 4)) 0) fun x4 =>
    zoI (zaI h p0 (a3 + (i32 5)) 0) fun x5 =>
    zoI (zaI h p0 (a3 + (i32 6)) 0) fun x6 =>
    zif (decide (x6 = 0))
      (zbL (zv 11 182 [zR p1, zI x1, zI x2, zI x3, zI x4, zI x5, zI (i32 0)] h) fun y8 h7 =>
      zoI (zaI h7 p0 (a3 + (i32 1)) 0) fun x9 =>
      zoI (zaI h7 p0 (a3 + (i32 2)) 0) fun x10 =>
      zoI (zaI h7 p0 (a3 + (i32 3)) 0) fun x11 =>
      zoI (zaI h7 p0 (a3 + (i32 4)) 0) fun x12 =>
      zoI (zaI h7 p0 (a3 + (i32 5)) 0) fun x13 =>
      zoI (zaI h7 p0 (a3 + (i32 6)) 0) fun x14 =>
      zif (decide (x14 = 0))
        (zbL (zv 12 315 [zR p2, zI x9, zI x10, zI x11, zI x12, zI x13, zI (i32 0)] h7) fun y16 h15 =>
        zif (decide ((zcmp y8 y16) = 0))
          (zr 323 1599 [yR p0, yR p1, yR p2, yI a3] [] h15)
          (zrz (i32 0) h15))
        (zbL (zv 12 315 [zR p2, zI x9, zI x10, zI x11, zI x12, zI x13, zI (i32 1)] h7) fun y18 h17 =>
        zif (decide ((zcmp y8 y18) = 0))
          (zr 323 1599 [yR p0, yR p1, yR p2, yI a3] [] h17)
          (zrz (i32 0) h17)))
      (zbL (zv 11 182 [zR p1, zI x1, zI x2, zI x3, zI x4, zI x5, zI (i32 1)] h) fun y20 h19 =>
      zoI (zaI h19 p0 (a3 + (i32 1)) 0) fun x21 =>
      zoI (zaI h19 p0 (a3 + (i32 2)) 0) fun x22 =>
      zoI (zaI h19 p0 (a3 + (i32 3)) 0) fun x23 =>
      zoI (zaI h19 p0 (a3 + (i32 4)) 0) fun x24 =>
      zoI (zaI h19 p0 (a3 + (i32 5)) 0) fun x25 =>
      zoI (zaI h19 p0 (a3 + (i32 6)) 0) fun x26 =>
      zif (decide (x26 = 0))
        (zbL (zv 12 315 [zR p2, zI x21, zI x22, zI x23, zI x24, zI x25, zI (i32 0)] h19) fun y28 h27 =>
        zif (decide ((zcmp y20 y28) = 0))
          (zr 323 1599 [yR p0, yR p1, yR p2, yI a3] [] h27)
          (zrz (i32 0) h27))
        (zbL (zv 12 315 [zR p2, zI x21, zI x22, zI x23, zI x24, zI x25, zI (i32 1)] h19) fun y30 h29 =>
        zif (decide ((zcmp y20 y30) = 0))
          (zr 323 1599 [yR p0, yR p1, yR p2, yI a3] [] h29)
          (zrz (i32 0) h29))) := U_323 (zst [1599]) 120 1355 [yR p0, yR p1, yR p2, yI a3] [] h
set_option maxRecDepth 20000 in
theorem e_Law_1431 (p0 : Option Nat) (p1 : Option Nat) (p2 : Option Nat) (a3 : Int32) (h : zHeap) : zr 323 1431 [yR p0, yR p1, yR p2, yI a3] [] h =
    zoI (zaI h p0 (a3 + (i32 1)) 0) fun x1 =>
    zoI (zaI h p0 (a3 + (i32 2)) 0) fun x2 =>
    zoI (zaI h p0 (a3 + (i32 3)) 0) fun x3 =>
    zif (decide (x3 = 0))
      (zbI (zv 11 183 [zR p1, zI x1, zI x2, zI (i32 0)] h) fun x5 h4 =>
      zoI (zaI h4 p0 (a3 + (i32 1)) 0) fun x6 =>
      zoI (zaI h4 p0 (a3 + (i32 2)) 0) fun x7 =>
      zoI (zaI h4 p0 (a3 + (i32 3)) 0) fun x8 =>
      zif (decide (x8 = 0))
        (zbI (zv 12 280 [zR p2, zI x6, zI x7, zI (i32 0)] h4) fun x10 h9 =>
        zif (decide (x5 = x10))
          (zr 323 1599 [yR p0, yR p1, yR p2, yI a3] [] h9)
          (zrz (i32 0) h9))
        (zbI (zv 12 280 [zR p2, zI x6, zI x7, zI (i32 1)] h4) fun x12 h11 =>
        zif (decide (x5 = x12))
          (zr 323 1599 [yR p0, yR p1, yR p2, yI a3] [] h11)
          (zrz (i32 0) h11)))
      (zbI (zv 11 183 [zR p1, zI x1, zI x2, zI (i32 1)] h) fun x14 h13 =>
      zoI (zaI h13 p0 (a3 + (i32 1)) 0) fun x15 =>
      zoI (zaI h13 p0 (a3 + (i32 2)) 0) fun x16 =>
      zoI (zaI h13 p0 (a3 + (i32 3)) 0) fun x17 =>
      zif (decide (x17 = 0))
        (zbI (zv 12 280 [zR p2, zI x15, zI x16, zI (i32 0)] h13) fun x19 h18 =>
        zif (decide (x14 = x19))
          (zr 323 1599 [yR p0, yR p1, yR p2, yI a3] [] h18)
          (zrz (i32 0) h18))
        (zbI (zv 12 280 [zR p2, zI x15, zI x16, zI (i32 1)] h13) fun x21 h20 =>
        zif (decide (x14 = x21))
          (zr 323 1599 [yR p0, yR p1, yR p2, yI a3] [] h20)
          (zrz (i32 0) h20))) := U_323 (zst [1599]) 120 1431 [yR p0, yR p1, yR p2, yI a3] [] h
set_option maxRecDepth 20000 in
theorem e_Law_1476 (p0 : Option Nat) (p1 : Option Nat) (p2 : Option Nat) (a3 : Int32) (h : zHeap) : zr 323 1476 [yR p0, yR p1, yR p2, yI a3] [] h =
    zoI (zaI h p0 (a3 + (i32 1)) 0) fun x1 =>
    zoI (zaI h p0 (a3 + (i32 2)) 0) fun x2 =>
    zbI (zv 11 184 [zR p1, zI x1, zI x2] h) fun x4 h3 =>
    zoI (zaI h3 p0 (a3 + (i32 1)) 0) fun x5 =>
    zoI (zaI h3 p0 (a3 + (i32 2)) 0) fun x6 =>
    zbI (zv 12 281 [zR p2, zI x5, zI x6] h3) fun x8 h7 =>
    zif (decide (x4 = x8))
      (zr 323 1599 [yR p0, yR p1, yR p2, yI a3] [] h7)
      (zrz (i32 0) h7) := U_323 (zst [1599]) 120 1476 [yR p0, yR p1, yR p2, yI a3] [] h
set_option maxRecDepth 20000 in
theorem e_Law_1503 (p0 : Option Nat) (p1 : Option Nat) (p2 : Option Nat) (a3 : Int32) (h : zHeap) : zr 323 1503 [yR p0, yR p1, yR p2, yI a3] [] h =
    zoI (zaI h p0 (a3 + (i32 1)) 0) fun x1 =>
    zoI (zaI h p0 (a3 + (i32 2)) 0) fun x2 =>
    zoI (zaI h p0 (a3 + (i32 3)) 0) fun x3 =>
    zif (decide (x3 = 0))
      (zbI (zv 11 185 [zR p1, zI x1, zI x2, zI (i32 0)] h) fun x5 h4 =>
      zoI (zaI h4 p0 (a3 + (i32 1)) 0) fun x6 =>
      zoI (zaI h4 p0 (a3 + (i32 2)) 0) fun x7 =>
      zoI (zaI h4 p0 (a3 + (i32 3)) 0) fun x8 =>
      zif (decide (x8 = 0))
        (zbI (zv 12 283 [zR p2, zI x6, zI x7, zI (i32 0)] h4) fun x10 h9 =>
        zif (decide (x5 = x10))
          (zr 323 1599 [yR p0, yR p1, yR p2, yI a3] [] h9)
          (zrz (i32 0) h9))
        (zbI (zv 12 283 [zR p2, zI x6, zI x7, zI (i32 1)] h4) fun x12 h11 =>
        zif (decide (x5 = x12))
          (zr 323 1599 [yR p0, yR p1, yR p2, yI a3] [] h11)
          (zrz (i32 0) h11)))
      (zbI (zv 11 185 [zR p1, zI x1, zI x2, zI (i32 1)] h) fun x14 h13 =>
      zoI (zaI h13 p0 (a3 + (i32 1)) 0) fun x15 =>
      zoI (zaI h13 p0 (a3 + (i32 2)) 0) fun x16 =>
      zoI (zaI h13 p0 (a3 + (i32 3)) 0) fun x17 =>
      zif (decide (x17 = 0))
        (zbI (zv 12 283 [zR p2, zI x15, zI x16, zI (i32 0)] h13) fun x19 h18 =>
        zif (decide (x14 = x19))
          (zr 323 1599 [yR p0, yR p1, yR p2, yI a3] [] h18)
          (zrz (i32 0) h18))
        (zbI (zv 12 283 [zR p2, zI x15, zI x16, zI (i32 1)] h13) fun x21 h20 =>
        zif (decide (x14 = x21))
          (zr 323 1599 [yR p0, yR p1, yR p2, yI a3] [] h20)
          (zrz (i32 0) h20))) := U_323 (zst [1599]) 120 1503 [yR p0, yR p1, yR p2, yI a3] [] h
set_option maxRecDepth 20000 in
theorem e_Law_1548 (p0 : Option Nat) (p1 : Option Nat) (p2 : Option Nat) (a3 : Int32) (h : zHeap) : zr 323 1548 [yR p0, yR p1, yR p2, yI a3] [] h =
    zoI (zaI h p0 (a3 + (i32 1)) 0) fun x1 =>
    zbI (zv 11 186 [zR p1, zI x1] h) fun x3 h2 =>
    zoI (zaI h2 p0 (a3 + (i32 1)) 0) fun x4 =>
    zbI (zv 12 320 [zR p2, zI x4] h2) fun x6 h5 =>
    zif (decide (x3 = x6))
      (zr 323 1599 [yR p0, yR p1, yR p2, yI a3] [] h5)
      (zrz (i32 0) h5) := U_323 (zst [1599]) 120 1548 [yR p0, yR p1, yR p2, yI a3] [] h
set_option maxRecDepth 20000 in
theorem e_Law_1565 (p0 : Option Nat) (p1 : Option Nat) (p2 : Option Nat) (a3 : Int32) (h : zHeap) : zr 323 1565 [yR p0, yR p1, yR p2, yI a3] [] h =
    zoI (zaI h p0 (a3 + (i32 1)) 0) fun x1 =>
    zbI (zv 11 187 [zR p1, zI x1] h) fun x3 h2 =>
    zoI (zaI h2 p0 (a3 + (i32 1)) 0) fun x4 =>
    zbI (zv 12 321 [zR p2, zI x4] h2) fun x6 h5 =>
    zif (decide (x3 = x6))
      (zr 323 1599 [yR p0, yR p1, yR p2, yI a3] [] h5)
      (zrz (i32 0) h5) := U_323 (zst [1599]) 120 1565 [yR p0, yR p1, yR p2, yI a3] [] h
set_option maxRecDepth 20000 in
theorem e_Law_1582 (p0 : Option Nat) (p1 : Option Nat) (p2 : Option Nat) (a3 : Int32) (h : zHeap) : zr 323 1582 [yR p0, yR p1, yR p2, yI a3] [] h =
    zoI (zaI h p0 (a3 + (i32 1)) 0) fun x1 =>
    zbI (zv 11 188 [zR p1, zI x1] h) fun x3 h2 =>
    zoI (zaI h2 p0 (a3 + (i32 1)) 0) fun x4 =>
    zbI (zv 12 322 [zR p2, zI x4] h2) fun x6 h5 =>
    zif (decide (x3 = x6))
      (zr 323 1599 [yR p0, yR p1, yR p2, yI a3] [] h5)
      (zrz (i32 0) h5) := U_323 (zst [1599]) 120 1582 [yR p0, yR p1, yR p2, yI a3] [] h
set_option maxRecDepth 20000 in
theorem e_Law_1599 (p0 : Option Nat) (p1 : Option Nat) (p2 : Option Nat) (a3 : Int32) (h : zHeap) : zr 323 1599 [yR p0, yR p1, yR p2, yI a3] [] h =
    zr 323 10 [yR p0, yR p1, yR p2, yI (a3 + i32 7)] [] h := U_323 (zst [10]) 120 1599 [yR p0, yR p1, yR p2, yI a3] [] h
