/-! 166 Main_fact (III)I -/
set_option maxRecDepth 100000 in
theorem e_Main_fact (p0 : Option Nat) (a1 : Int32) (a2 : Int32) (a3 : Int32) (h : zHeap) : zc 166 [zR p0, zI a1, zI a2, zI a3] h =
    zoR (zgR h p0 704) fun r1 =>
    zbR (zv 9 143 [zR r1, zI a1] h) fun r3 h2 =>
    zif r3.isSome
      (zbI (zv 3 55 [zR r3, zI a2, zI a3] h2) fun x5 h4 =>
      some (zI x5, h4))
      (some (zI (i32 (-2)), h2)) := U_166 (zst []) 15 0 [yR p0, yI a1, yI a2, yI a3, none] [] h
/-! 167 Main_fits (III)I -/
set_option maxRecDepth 100000 in
theorem e_Main_fits (p0 : Option Nat) (a1 : Int32) (a2 : Int32) (a3 : Int32) (h : zHeap) : zc 167 [zR p0, zI a1, zI a2, zI a3] h =
    zoR (zgR h p0 704) fun r1 =>
    zbR (zv 9 141 [zR r1, zI a1] h) fun r3 h2 =>
    zoR (zgR h2 p0 704) fun r4 =>
    zbR (zv 9 143 [zR r4, zI a2] h2) fun r6 h5 =>
    zif r3.isNone
      (some (zI (i32 (-2)), h5))
      (zif r6.isNone
        (some (zI (i32 (-2)), h5))
        (zbI (zv 2 43 [zR r3, zR r6] h5) fun x8 h7 =>
        zif (decide (x8 ≠ 0))
          (zoR (zgR h7 p0 710) fun r9 =>
          zbV (zv 7 124 [zR r9, zR r3, zR r6] h7) fun h10 =>
          zif (decide (a3 = i32 0))
            (zoR (zgR h10 p0 710) fun r11 =>
            zoI (zgI h10 r11 448) fun x12 =>
            some (zI x12, h10))
            (zif (decide (a3 = i32 1))
            (zoR (zgR h10 p0 710) fun r13 =>
            zbI (zv 7 127 [zR r13] h10) fun x15 h14 =>
            some (zI x15, h14))
            (zif (decide (a3 = i32 2))
            (zoR (zgR h10 p0 710) fun r16 =>
            zbI (zv 7 128 [zR r16] h10) fun x18 h17 =>
            some (zI x18, h17))
            (zif (decide (a3 = i32 3))
            (zoR (zgR h10 p0 710) fun r19 =>
            zbI (zv 7 129 [zR r19, zR r3, zR r6] h10) fun x21 h20 =>
            some (zI x21, h20))
            (zif (decide (a3 = i32 4))
            (zoR (zgR h10 p0 710) fun r22 =>
            zoI (zgI h10 r6 192) fun x23 =>
            zbI (zv 7 130 [zR r22, zR r3, zI x23] h10) fun x25 h24 =>
            some (zI x25, h24))
            (zif (decide ((i32 10) ≤ a3))
              (zoR (zgR h10 p0 710) fun r26 =>
              zbI (zv 7 126 [zR r26, zI (a3 - (i32 10))] h10) fun x28 h27 =>
              some (zI x28, h27))
              (some (zI (i32 (-2)), h10))))))))
          (some (zI (i32 (-2)), h7)))) := U_167 (zst []) 65 0 [yR p0, yI a1, yI a2, yI a3, none, none] [] h
/-! 168 Main_left (IIIIZ)J -/
set_option maxRecDepth 100000 in
theorem e_Main_left (p0 : Option Nat) (a1 : Int32) (a2 : Int32) (a3 : Int32) (a4 : Int32) (a5 : Int32) (h : zHeap) : zc 168 [zR p0, zI a1, zI a2, zI a3, zI a4, zI a5] h =
    zbI (zc 192 [zI a1, zI (i32 6)] h) fun x2 h1 =>
    zif (decide (x2 = 0))
      (some (zL (i64 (-1)), h1))
      (zbI (zc 192 [zI a2, zI (i32 6)] h1) fun x4 h3 =>
      zif (decide (x4 = 0))
        (some (zL (i64 (-1)), h3))
        (zbI (zc 192 [zI a3, zI (i32 3)] h3) fun x6 h5 =>
        zif (decide (x6 = 0))
          (some (zL (i64 (-1)), h5))
          (zbI (zc 192 [zI a4, zI (i32 10)] h5) fun x8 h7 =>
          zif (decide (x8 ≠ 0))
            (zbL (zc 196 [zL (i64 10), zI a3] h7) fun y10 h9 =>
            zbL (zc 196 [zL (((i32 10) - a4).toInt64), zI a3] h9) fun y12 h11 =>
            zr 168 33 [yR p0, yI a1, yI a2, yI a3, yI a4, yI a5, yL y10, none, yL y12, none, yL (i64 0), none, yI a2] [] h11)
            (some (zL (i64 (-1)), h7))))) := U_168 (zst [33]) 64 0 [yR p0, yI a1, yI a2, yI a3, yI a4, yI a5, none, none, none, none, none, none, none] [] h
set_option maxRecDepth 100000 in
theorem e_Main_left_33 (p0 : Option Nat) (a1 : Int32) (a2 : Int32) (a3 : Int32) (a4 : Int32) (a5 : Int32) (b6 : Int64) (b8 : Int64) (b10 : Int64) (a12 : Int32) (h : zHeap) : zr 168 33 [yR p0, yI a1, yI a2, yI a3, yI a4, yI a5, yL b6, none, yL b8, none, yL b10, none, yI a12] [] h =
    zif (decide (a1 < a12))
      (zbL (zc 196 [zL b6, zI a1] h) fun y2 h1 =>
      zbL (zc 198 [zL b10, zL y2, zI a5] h1) fun y4 h3 =>
      some (zL y4, h3))
      (zbL (zc 197 [zI a1, zI a12] h) fun y6 h5 =>
      zbL (zc 196 [zL b8, zI a12] h5) fun y8 h7 =>
      zbL (zc 196 [zL (b6 - b8), zI (a1 - a12)] h7) fun y10 h9 =>
      zr 168 33 [yR p0, yI a1, yI a2, yI a3, yI a4, yI a5, yL b6, none, yL b8, none, yL (b10 + ((y6 * y8) * y10)), none, yI (a12 + i32 1)] [] h9) := U_168 (zst [33]) 64 33 [yR p0, yI a1, yI a2, yI a3, yI a4, yI a5, yL b6, none, yL b8, none, yL b10, none, yI a12] [] h
/-! 169 Main_drawn (IIII)I -/
set_option maxRecDepth 100000 in
theorem e_Main_drawn (p0 : Option Nat) (a1 : Int32) (a2 : Int32) (a3 : Int32) (a4 : Int32) (h : zHeap) : zc 169 [zR p0, zI a1, zI a2, zI a3, zI a4] h =
    zoR (zgR h p0 704) fun r1 =>
    zbR (zv 9 141 [zR r1, zI a1] h) fun r3 h2 =>
    zif r3.isNone
      (some (zI (i32 (-2)), h2))
      (zbI (zc 192 [zI a3, zI (i32 60)] h2) fun x5 h4 =>
      zif (decide (x5 ≠ 0))
        (zoR (zgR h4 p0 707) fun r6 =>
        zbV (zv 1 24 [zR r6, zR r3, zI a2, zI a3] h4) fun h7 =>
        zoR (zgR h7 p0 707) fun r8 =>
        zbI (zv 1 27 [zR r8, zR r3, zI a4] h7) fun x10 h9 =>
        some (zI x10, h9))
        (some (zI (i32 (-2)), h4))) := U_169 (zst []) 26 0 [yR p0, yI a1, yI a2, yI a3, yI a4, none] [] h
/-! 170 Main_chant (IIIII)I -/
set_option maxRecDepth 100000 in
theorem e_Main_chant (p0 : Option Nat) (a1 : Int32) (a2 : Int32) (a3 : Int32) (a4 : Int32) (a5 : Int32) (h : zHeap) : zc 170 [zR p0, zI a1, zI a2, zI a3, zI a4, zI a5] h =
    zoR (zgR h p0 704) fun r1 =>
    zbR (zv 9 141 [zR r1, zI a1] h) fun r3 h2 =>
    zif r3.isNone
      (some (zI (i32 (-2)), h2))
      (zbI (zv 2 42 [zR r3, zI a2, zI a3, zI a4] h2) fun x5 h4 =>
      zif (decide (x5 = 0))
        (some (zI (i32 (-2)), h4))
        (zbI (zc 192 [zI a5, zI (i32 20)] h4) fun x7 h6 =>
        zif (decide (x7 ≠ 0))
          (zbI (zv 2 49 [zR r3, zI a2, zI a5, zI a3, zI a4] h6) fun x9 h8 =>
          some (zI x9, h8))
          (some (zI (i32 (-2)), h6)))) := U_170 (zst []) 27 0 [yR p0, yI a1, yI a2, yI a3, yI a4, yI a5, none] [] h
/-! 171 Main_ripe (IIIII)I -/
set_option maxRecDepth 100000 in
theorem e_Main_ripe (p0 : Option Nat) (a1 : Int32) (a2 : Int32) (a3 : Int32) (a4 : Int32) (a5 : Int32) (h : zHeap) : zc 171 [zR p0, zI a1, zI a2, zI a3, zI a4, zI a5] h =
    zoR (zgR h p0 704) fun r1 =>
    zbR (zv 9 141 [zR r1, zI a1] h) fun r3 h2 =>
    zif r3.isNone
      (some (zI (i32 (-1)), h2))
      (zbI (zv 2 42 [zR r3, zI a2, zI a3, zI a4] h2) fun x5 h4 =>
      zif (decide (x5 = 0))
        (some (zI (i32 (-1)), h4))
        (zbI (zc 191 [zI a5] h4) fun x7 h6 =>
        zif (decide (x7 ≠ 0))
          (zoR (zgR h6 p0 711) fun r8 =>
          zbI (zv 6 98 [zR r8, zR r3, zI a2, zI a3, zI a4, zI a5] h6) fun x10 h9 =>
          some (zI x10, h9))
          (some (zI (i32 (-1)), h6)))) := U_171 (zst []) 28 0 [yR p0, yI a1, yI a2, yI a3, yI a4, yI a5, none] [] h
/-! 172 Main_deepest (III)I -/
set_option maxRecDepth 100000 in
theorem e_Main_deepest (p0 : Option Nat) (a1 : Int32) (a2 : Int32) (a3 : Int32) (h : zHeap) : zc 172 [zR p0, zI a1, zI a2, zI a3] h =
    zoR (zgR h p0 704) fun r1 =>
    zbR (zv 9 141 [zR r1, zI a1] h) fun r3 h2 =>
    zif r3.isNone
      (some (zI (i32 (-1)), h2))
      (zbI (zv 2 39 [zR r3, zI a2] h2) fun x5 h4 =>
      zif (decide (x5 = 0))
        (some (zI (i32 (-1)), h4))
        (zbI (zv 2 40 [zR r3, zI a3] h4) fun x7 h6 =>
        zif (decide (x7 ≠ 0))
          (zoR (zgR h6 p0 711) fun r8 =>
          zbI (zv 6 99 [zR r8, zR r3, zI a2, zI a3] h6) fun x10 h9 =>
          some (zI x10, h9))
          (some (zI (i32 (-1)), h6)))) := U_172 (zst []) 25 0 [yR p0, yI a1, yI a2, yI a3, none] [] h
/-! 173 Main_program (IIII)I -/
set_option maxRecDepth 100000 in
theorem e_Main_program (p0 : Option Nat) (a1 : Int32) (a2 : Int32) (a3 : Int32) (a4 : Int32) (h : zHeap) : zc 173 [zR p0, zI a1, zI a2, zI a3, zI a4] h =
    zoR (zgR h p0 704) fun r1 =>
    zbR (zv 9 141 [zR r1, zI a1] h) fun r3 h2 =>
    zif r3.isNone
      (some (zI (i32 (-1)), h2))
      (zbI (zv 2 39 [zR r3, zI a2] h2) fun x5 h4 =>
      zif (decide (x5 = 0))
        (some (zI (i32 (-1)), h4))
        (zbI (zv 2 40 [zR r3, zI a3] h4) fun x7 h6 =>
        zif (decide (x7 ≠ 0))
          (zoR (zgR h6 p0 709) fun r8 =>
          zbV (zv 4 69 [zR r8, zR r3, zI a2, zI a3] h6) fun h9 =>
          zif (decide (a4 ≠ (i32 (-1))))
            (zoR (zgR h9 p0 709) fun r10 =>
            zbI (zv 4 72 [zR r10, zR r3, zI a4] h9) fun x12 h11 =>
            some (zI x12, h11))
            (zoR (zgR h9 p0 709) fun r13 =>
            zbI (zv 4 71 [zR r13] h9) fun x15 h14 =>
            some (zI x15, h14)))
          (some (zI (i32 (-1)), h6)))) := U_173 (zst []) 37 0 [yR p0, yI a1, yI a2, yI a3, yI a4, none] [] h
/-! 174 Main_edit (IIII)I -/
set_option maxRecDepth 100000 in
theorem e_Main_edit (p0 : Option Nat) (a1 : Int32) (a2 : Int32) (a3 : Int32) (a4 : Int32) (h : zHeap) : zc 174 [zR p0, zI a1, zI a2, zI a3, zI a4] h =
    zoR (zgR h p0 704) fun r1 =>
    zbR (zv 9 141 [zR r1, zI a1] h) fun r3 h2 =>
    zif r3.isNone
      (some (zI (i32 (-1)), h2))
      (zbI (zv 2 39 [zR r3, zI a2] h2) fun x5 h4 =>
      zif (decide (x5 = 0))
        (some (zI (i32 (-1)), h4))
        (zbI (zv 2 40 [zR r3, zI a3] h4) fun x7 h6 =>
        zif (decide (x7 = 0))
          (some (zI (i32 (-1)), h6))
          (zbI (zc 191 [zI a4] h6) fun x9 h8 =>
          zif (decide (x9 ≠ 0))
            (zoR (zgR h8 p0 711) fun r10 =>
            zbI (zv 6 100 [zR r10, zR r3, zI a2, zI a3, zI a4] h8) fun x12 h11 =>
            some (zI x12, h11))
            (some (zI (i32 (-1)), h8))))) := U_174 (zst []) 29 0 [yR p0, yI a1, yI a2, yI a3, yI a4, none] [] h
/-! 175 Main_choir (IIZ)I -/
set_option maxRecDepth 100000 in
theorem e_Main_choir (p0 : Option Nat) (a1 : Int32) (a2 : Int32) (a3 : Int32) (h : zHeap) : zc 175 [zR p0, zI a1, zI a2, zI a3] h =
    zoR (zgR h p0 704) fun r1 =>
    zbR (zv 9 141 [zR r1, zI a1] h) fun r3 h2 =>
    zif r3.isNone
      (some (zI (i32 (-1)), h2))
      (zbI (zv 2 40 [zR r3, zI a2] h2) fun x5 h4 =>
      zif (decide (x5 ≠ 0))
        (zoR (zgR h4 p0 711) fun r6 =>
        zbI (zv 6 101 [zR r6, zR r3, zI a2] h4) fun x8 h7 =>
        zif (decide (x8 = (i32 (-1))))
          (some (zI x8, h7))
          (zif (decide (a3 = 0))
            (zbI (zc 325 [zI x8] h7) fun x10 h9 =>
            some (zI x10, h9))
            (some (zI x8, h7))))
        (some (zI (i32 (-1)), h4))) := U_175 (zst []) 30 0 [yR p0, yI a1, yI a2, yI a3, none, none] [] h
/-! 176 Main_peace (IIZ)I -/
set_option maxRecDepth 100000 in
theorem e_Main_peace (p0 : Option Nat) (a1 : Int32) (a2 : Int32) (a3 : Int32) (h : zHeap) : zc 176 [zR p0, zI a1, zI a2, zI a3] h =
    zoR (zgR h p0 704) fun r1 =>
    zbR (zv 9 141 [zR r1, zI a1] h) fun r3 h2 =>
    zif r3.isNone
      (some (zI (i32 (-1)), h2))
      (zbI (zv 2 40 [zR r3, zI a2] h2) fun x5 h4 =>
      zif (decide (x5 ≠ 0))
        (zoR (zgR h4 p0 711) fun r6 =>
        zbI (zv 6 104 [zR r6, zR r3, zI a2] h4) fun x8 h7 =>
        zif (decide (a3 = 0))
          (zbI (zc 325 [zI x8] h7) fun x10 h9 =>
          some (zI x10, h9))
          (some (zI x8, h7)))
        (some (zI (i32 (-1)), h4))) := U_176 (zst []) 27 0 [yR p0, yI a1, yI a2, yI a3, none, none] [] h
/-! 177 Main_marched (II)I -/
set_option maxRecDepth 100000 in
theorem e_Main_marched (p0 : Option Nat) (a1 : Int32) (a2 : Int32) (h : zHeap) : zc 177 [zR p0, zI a1, zI a2] h =
    zoR (zgR h p0 704) fun r1 =>
    zbR (zv 9 141 [zR r1, zI a1] h) fun r3 h2 =>
    zif r3.isNone
      (some (zI (i32 (-1)), h2))
      (zbI (zv 2 41 [zR r3, zI a2] h2) fun x5 h4 =>
      zif (decide (x5 ≠ 0))
        (zoR (zgR h4 p0 711) fun r6 =>
        zbI (zv 6 106 [zR r6, zR r3, zI a2] h4) fun x8 h7 =>
        some (zI x8, h7))
        (some (zI (i32 (-1)), h4))) := U_177 (zst []) 20 0 [yR p0, yI a1, yI a2, none] [] h
/-! 178 Main_chords (III)I -/
set_option maxRecDepth 100000 in
theorem e_Main_chords (p0 : Option Nat) (a1 : Int32) (a2 : Int32) (a3 : Int32) (h : zHeap) : zc 178 [zR p0, zI a1, zI a2, zI a3] h =
    zoR (zgR h p0 704) fun r1 =>
    zbR (zv 9 141 [zR r1, zI a1] h) fun r3 h2 =>
    zif r3.isNone
      (some (zI (i32 (-1)), h2))
      (zbI (zv 2 40 [zR r3, zI a2] h2) fun x5 h4 =>
      zif (decide (x5 = 0))
        (some (zI (i32 (-1)), h4))
        (zbI (zv 2 41 [zR r3, zI a3] h4) fun x7 h6 =>
        zif (decide (x7 ≠ 0))
          (zoR (zgR h6 p0 711) fun r8 =>
          zbI (zv 6 108 [zR r8, zR r3, zI a2, zI a3] h6) fun x10 h9 =>
          some (zI x10, h9))
          (some (zI (i32 (-1)), h6)))) := U_178 (zst []) 25 0 [yR p0, yI a1, yI a2, yI a3, none] [] h
/-! 179 Main_twins (II)I -/
set_option maxRecDepth 100000 in
theorem e_Main_twins (p0 : Option Nat) (a1 : Int32) (a2 : Int32) (h : zHeap) : zc 179 [zR p0, zI a1, zI a2] h =
    zoR (zgR h p0 704) fun r1 =>
    zbR (zv 9 141 [zR r1, zI a1] h) fun r3 h2 =>
    zif r3.isNone
      (some (zI (i32 (-1)), h2))
      (zif (decide (a2 < 0))
        (some (zI (i32 (-1)), h2))
        (zif (decide (a2 ≤ (i32 2)))
          (zif (decide (a2 ≠ 0))
            (zoR (zgR h2 p0 711) fun r4 =>
            zbI (zv 6 112 [zR r4, zR r3] h2) fun x6 h5 =>
            zif (decide (a2 ≠ (i32 1)))
              (some (zI x6, h5))
              (zoR (zgR h5 p0 711) fun r7 =>
              zbI (zv 6 111 [zR r7, zR r3, zI x6] h5) fun x9 h8 =>
              some (zI x9, h8)))
            (zoR (zgR h2 p0 711) fun r10 =>
            zbI (zv 6 109 [zR r10, zR r3] h2) fun x12 h11 =>
            some (zI x12, h11)))
          (some (zI (i32 (-1)), h2)))) := U_179 (zst []) 38 0 [yR p0, yI a1, yI a2, none, none] [] h
/-! 180 Main_fairest (IIZ)I -/
set_option maxRecDepth 100000 in
theorem e_Main_fairest (p0 : Option Nat) (a1 : Int32) (a2 : Int32) (a3 : Int32) (h : zHeap) : zc 180 [zR p0, zI a1, zI a2, zI a3] h =
    zoR (zgR h p0 704) fun r1 =>
    zbR (zv 9 141 [zR r1, zI a1] h) fun r3 h2 =>
    zif r3.isNone
      (some (zI (i32 (-1)), h2))
      (zbI (zc 191 [zI a2] h2) fun x5 h4 =>
      zif (decide (x5 ≠ 0))
        (zoR (zgR h4 p0 711) fun r6 =>
        zbV (zv 6 94 [zR r6, zR r3, zI (i32 0)] h4) fun h7 =>
        zoR (zgR h7 p0 711) fun r8 =>
        zbI (zv 6 114 [zR r8, zR r3, zI a2] h7) fun x10 h9 =>
        zif (decide (a3 = 0))
          (some (zI x10, h9))
          (zoR (zgR h9 p0 711) fun r11 =>
          zbI (zv 6 113 [zR r11, zR r3, zI x10, zI a2] h9) fun x13 h12 =>
          some (zI x13, h12)))
        (some (zI (i32 (-1)), h4))) := U_180 (zst []) 35 0 [yR p0, yI a1, yI a2, yI a3, none, none] [] h
/-! 181 Main_after (III)I -/
set_option maxRecDepth 100000 in
theorem e_Main_after (p0 : Option Nat) (a1 : Int32) (a2 : Int32) (a3 : Int32) (h : zHeap) : zc 181 [zR p0, zI a1, zI a2, zI a3] h =
    zoR (zgR h p0 704) fun r1 =>
    zbR (zv 9 141 [zR r1, zI a1] h) fun r3 h2 =>
    zoR (zgR h2 p0 704) fun r4 =>
    zbR (zv 9 142 [zR r4, zI a2] h2) fun r6 h5 =>
    zif r3.isNone
      (some (zI (i32 (-2)), h5))
      (zif r6.isSome
        (zoR (zgR h5 p0 707) fun r7 =>
        zoI (zgI h5 r6 640) fun x8 =>
        zbV (zv 1 13 [zR r7, zR r3, zR r6, zI x8] h5) fun h9 =>
        zif (decide (a3 = i32 0))
          (zoR (zgR h9 p0 707) fun r10 =>
          zoI (zgI h9 r10 65) fun x11 =>
          some (zI x11, h9))
          (zif (decide (a3 = i32 1))
          (zoR (zgR h9 p0 707) fun r12 =>
          zbI (zv 1 29 [zR r12] h9) fun x14 h13 =>
          some (zI x14, h13))
          (zif (decide (a3 = i32 2))
          (zoR (zgR h9 p0 707) fun r15 =>
          zbI (zv 1 30 [zR r15] h9) fun x17 h16 =>
          some (zI x17, h16))
          (zif (decide (a3 = i32 3))
          (zoR (zgR h9 p0 707) fun r18 =>
          zbI (zv 1 32 [zR r18, zR r3] h9) fun x20 h19 =>
          some (zI x20, h19))
          (some (zI (i32 (-2)), h9))))))
        (some (zI (i32 (-2)), h5))) := U_181 (zst []) 45 0 [yR p0, yI a1, yI a2, yI a3, none, none] [] h
/-! 182 Main_odds (IIIIIZ)J -/
set_option maxRecDepth 100000 in
theorem e_Main_odds (p0 : Option Nat) (a1 : Int32) (a2 : Int32) (a3 : Int32) (a4 : Int32) (a5 : Int32) (a6 : Int32) (h : zHeap) : zc 182 [zR p0, zI a1, zI a2, zI a3, zI a4, zI a5, zI a6] h =
    zoR (zgR h p0 704) fun r1 =>
    zbR (zv 9 141 [zR r1, zI a1] h) fun r3 h2 =>
    zoR (zgR h2 p0 704) fun r4 =>
    zbR (zv 9 143 [zR r4, zI a2] h2) fun r6 h5 =>
    zif r3.isNone
      (some (zL (i64 (-1)), h5))
      (zif r6.isNone
        (some (zL (i64 (-1)), h5))
        (zbI (zv 2 43 [zR r3, zR r6] h5) fun x8 h7 =>
        zif (decide (x8 ≠ 0))
          (zbI (zv 2 40 [zR r3, zI a3] h7) fun x10 h9 =>
          zif (decide (x10 = 0))
            (some (zL (i64 (-1)), h9))
            (zbI (zv 2 41 [zR r3, zI a4] h9) fun x12 h11 =>
            zif (decide (x12 = 0))
              (some (zL (i64 (-1)), h11))
              (zbI (zc 191 [zI a5] h11) fun x14 h13 =>
              zif (decide (x14 ≠ 0))
                (zoR (zgR h13 p0 710) fun r15 =>
                zbV (zv 7 124 [zR r15, zR r3, zR r6] h13) fun h16 =>
                zoR (zgR h16 p0 710) fun r17 =>
                zoI (zgI h16 r6 192) fun x18 =>
                zbI (zv 7 133 [zR r17, zR r3, zI x18, zI a3, zI a4, zI a5] h16) fun x20 h19 =>
                zoR (zgR h19 p0 710) fun r21 =>
                zoI (zgI h19 r21 448) fun x22 =>
                zbL (zc 198 [zL x20.toInt64, zL x22.toInt64, zI a6] h19) fun y24 h23 =>
                some (zL y24, h23))
                (some (zL (i64 (-1)), h13)))))
          (some (zL (i64 (-1)), h7)))) := U_182 (zst []) 58 0 [yR p0, yI a1, yI a2, yI a3, yI a4, yI a5, yI a6, none, none, none] [] h
/-! 183 Main_owns (IIZ)I -/
set_option maxRecDepth 100000 in
theorem e_Main_owns (p0 : Option Nat) (a1 : Int32) (a2 : Int32) (a3 : Int32) (h : zHeap) : zc 183 [zR p0, zI a1, zI a2, zI a3] h =
    zoR (zgR h p0 704) fun r1 =>
    zbR (zv 9 141 [zR r1, zI a1] h) fun r3 h2 =>
    zif r3.isNone
      (some (zI (i32 (-2)), h2))
      (zif (decide (a3 = 0))
        (zbI (zv 2 40 [zR r3, zI a2] h2) fun x5 h4 =>
        zif (decide (x5 ≠ 0))
          (zoR (zgR h4 p0 711) fun r6 =>
          zbV (zv 6 115 [zR r6, zR r3] h4) fun h7 =>
          zif (decide (a3 = 0))
            (zoR (zgR h7 p0 711) fun r8 =>
            zoR (zgR h7 r8 385) fun r9 =>
            zoI (zaI h7 r9 a2 0) fun x10 =>
            some (zI x10, h7))
            (zoR (zgR h7 p0 711) fun r11 =>
            zbI (zv 6 118 [zR r11, zR r3, zI a2] h7) fun x13 h12 =>
            some (zI x13, h12)))
          (some (zI (i32 (-2)), h4)))
        (zbI (zv 2 39 [zR r3, zI a2] h2) fun x15 h14 =>
        zif (decide (x15 = 0))
          (some (zI (i32 (-2)), h14))
          (zoR (zgR h14 p0 711) fun r16 =>
          zbV (zv 6 115 [zR r16, zR r3] h14) fun h17 =>
          zif (decide (a3 = 0))
            (zoR (zgR h17 p0 711) fun r18 =>
            zoR (zgR h17 r18 385) fun r19 =>
            zoI (zaI h17 r19 a2 0) fun x20 =>
            some (zI x20, h17))
            (zoR (zgR h17 p0 711) fun r21 =>
            zbI (zv 6 118 [zR r21, zR r3, zI a2] h17) fun x23 h22 =>
            some (zI x23, h22))))) := U_183 (zst []) 39 0 [yR p0, yI a1, yI a2, yI a3, none] [] h
/-! 184 Main_wets (II)I -/
set_option maxRecDepth 100000 in
theorem e_Main_wets (p0 : Option Nat) (a1 : Int32) (a2 : Int32) (h : zHeap) : zc 184 [zR p0, zI a1, zI a2] h =
    zoR (zgR h p0 704) fun r1 =>
    zbR (zv 9 141 [zR r1, zI a1] h) fun r3 h2 =>
    zif r3.isNone
      (some (zI (i32 (-1)), h2))
      (zbI (zv 2 39 [zR r3, zI a2] h2) fun x5 h4 =>
      zif (decide (x5 ≠ 0))
        (zoR (zgR h4 p0 711) fun r6 =>
        zbI (zv 6 119 [zR r6, zR r3, zI a2] h4) fun x8 h7 =>
        some (zI x8, h7))
        (some (zI (i32 (-1)), h4))) := U_184 (zst []) 20 0 [yR p0, yI a1, yI a2, none] [] h
/-! 185 Main_clearest (IIZ)I -/
set_option maxRecDepth 100000 in
theorem e_Main_clearest (p0 : Option Nat) (a1 : Int32) (a2 : Int32) (a3 : Int32) (h : zHeap) : zc 185 [zR p0, zI a1, zI a2, zI a3] h =
    zoR (zgR h p0 704) fun r1 =>
    zbR (zv 9 141 [zR r1, zI a1] h) fun r3 h2 =>
    zif r3.isNone
      (some (zI (i32 (-2)), h2))
      (zbI (zv 2 41 [zR r3, zI a2] h2) fun x5 h4 =>
      zif (decide (x5 ≠ 0))
        (zoR (zgR h4 p0 711) fun r6 =>
        zbI (zv 6 122 [zR r6, zR r3, zI a2] h4) fun x8 h7 =>
        zif (decide (a3 ≠ 0))
          (zif (decide (x8 ≠ (i32 (-1))))
            (zoR (zgR h7 p0 711) fun r9 =>
            zbI (zv 6 121 [zR r9, zR r3, zI x8, zI a2] h7) fun x11 h10 =>
            some (zI x11, h10))
            (some (zI (i32 0), h7)))
          (some (zI x8, h7)))
        (some (zI (i32 (-2)), h4))) := U_185 (zst []) 36 0 [yR p0, yI a1, yI a2, yI a3, none, none] [] h
/-! 186 Main_count (I)I -/
set_option maxRecDepth 100000 in
theorem e_Main_count (p0 : Option Nat) (a1 : Int32) (h : zHeap) : zc 186 [zR p0, zI a1] h =
    zbI (zc 190 [zI a1] h) fun x2 h1 =>
    zif (decide (x2 = 0))
      (some (zI (i32 (-2)), h1))
      (zoR (zgR h1 p0 704) fun r3 =>
      zoR (zgR h1 r3 577) fun r4 =>
      zoI (zaI h1 r4 a1 0) fun x5 =>
      some (zI x5, h1)) := U_186 (zst []) 12 0 [yR p0, yI a1] [] h
/-! 187 Main_image (I)Z -/
set_option maxRecDepth 100000 in
theorem e_Main_image (p0 : Option Nat) (a1 : Int32) (h : zHeap) : zc 187 [zR p0, zI a1] h =
    zif (decide (a1 < 0))
      (zrz (i32 0) h)
      (zif (decide (a1 < (i32 3)))
        (zoR (zgR h p0 705) fun r1 =>
        zoR (zaR h r1 a1) fun r2 =>
        zif r2.isSome
          (zoR (zgR h p0 705) fun r3 =>
          zoR (zaR h r3 a1) fun r4 =>
          zoR (zgR h p0 704) fun r5 =>
          zbV (zv 9 138 [zR r4, zR r5] h) fun h6 =>
          zrz (i32 1) h6)
          (zoR (zgR h p0 705) fun r7 =>
          zbV (zv 9 137 [zR (some (hN h))] (znO zTb 9 h)) fun h8 =>
          zoH (zaT h8 r7 a1 (some (hN h))) fun h9 =>
          zoR (zgR h9 p0 705) fun r10 =>
          zoR (zaR h9 r10 a1) fun r11 =>
          zoR (zgR h9 p0 704) fun r12 =>
          zbV (zv 9 138 [zR r11, zR r12] h9) fun h13 =>
          zrz (i32 1) h13))
        (zrz (i32 0) h)) := U_187 (zst []) 29 0 [yR p0, yI a1] [] h
/-! 188 Main_again (I)Z -/
set_option maxRecDepth 100000 in
theorem e_Main_again (p0 : Option Nat) (a1 : Int32) (h : zHeap) : zc 188 [zR p0, zI a1] h =
    zif (decide (a1 < 0))
      (zrz (i32 0) h)
      (zif (decide ((i32 3) ≤ a1))
        (zrz (i32 0) h)
        (zoR (zgR h p0 705) fun r1 =>
        zoR (zaR h r1 a1) fun r2 =>
        zif r2.isSome
          (zoR (zgR h p0 704) fun r3 =>
          zoR (zgR h p0 705) fun r4 =>
          zoR (zaR h r4 a1) fun r5 =>
          zbV (zv 9 138 [zR r3, zR r5] h) fun h6 =>
          zrz (i32 1) h6)
          (zrz (i32 0) h))) := U_188 (zst []) 22 0 [yR p0, yI a1] [] h
/-! 189 Main_numberFor (II)I -/
set_option maxRecDepth 100000 in
theorem e_Main_numberFor (p0 : Option Nat) (a1 : Int32) (a2 : Int32) (h : zHeap) : zc 189 [zR p0, zI a1, zI a2] h =
    zbI (zc 190 [zI a1] h) fun x2 h1 =>
    zif (decide (x2 ≠ 0))
      (zif (decide (a2 ≠ (i32 (-1))))
        (zif (decide (a2 ≠ (i32 (-1))))
          (zoR (zgR h1 p0 704) fun r3 =>
          zoR (zgR h1 r3 577) fun r4 =>
          zoI (zaI h1 r4 a1 0) fun x5 =>
          zif (decide (a2 < 0))
            (some (zI (i32 (-2)), h1))
            (zif (decide (x5 ≤ a2))
              (some (zI (i32 (-2)), h1))
              (some (zI a2, h1))))
          (zif (decide (a2 < 0))
            (some (zI (i32 (-2)), h1))
            (zif (decide ((i32 2) ≤ a2))
              (some (zI (i32 (-2)), h1))
              (some (zI a2, h1)))))
        (zoR (zgR h1 p0 704) fun r6 =>
        zoR (zgR h1 r6 577) fun r7 =>
        zoI (zaI h1 r7 a1 0) fun x8 =>
        zif (decide (a2 ≠ (i32 (-1))))
          (zoR (zgR h1 p0 704) fun r9 =>
          zoR (zgR h1 r9 577) fun r10 =>
          zoI (zaI h1 r10 a1 0) fun x11 =>
          zif (decide (x8 < 0))
            (some (zI (i32 (-2)), h1))
            (zif (decide (x11 ≤ x8))
              (some (zI (i32 (-2)), h1))
              (some (zI x8, h1))))
          (zif (decide (x8 < 0))
            (some (zI (i32 (-2)), h1))
            (zif (decide ((i32 2) ≤ x8))
              (some (zI (i32 (-2)), h1))
              (some (zI x8, h1))))))
      (some (zI (i32 (-2)), h1)) := U_189 (zst []) 37 0 [yR p0, yI a1, yI a2, none, none] [] h
/-! 190 Main_isSort (I)Z -/
set_option maxRecDepth 100000 in
theorem e_Main_isSort (a0 : Int32) (h : zHeap) : zc 190 [zI a0] h =
    zif (decide (a0 < 0))
      (zrz (i32 0) h)
      (zif (decide ((i32 3) ≤ a0))
        (zrz (i32 0) h)
        (zrz (i32 1) h)) := U_190 (zst []) 10 0 [yI a0] [] h
/-! 191 Main_isAnswer (I)Z -/
set_option maxRecDepth 100000 in
theorem e_Main_isAnswer (a0 : Int32) (h : zHeap) : zc 191 [zI a0] h =
    zif (decide (a0 < 0))
      (zrz (i32 0) h)
      (zif (decide ((i32 3) ≤ a0))
        (zrz (i32 0) h)
        (zrz (i32 1) h)) := U_191 (zst []) 10 0 [yI a0] [] h
/-! 192 Main_within (II)Z -/
set_option maxRecDepth 100000 in
theorem e_Main_within (a0 : Int32) (a1 : Int32) (h : zHeap) : zc 192 [zI a0, zI a1] h =
    zif (decide (a0 < 0))
      (zrz (i32 0) h)
      (zif (decide (a1 < a0))
        (zrz (i32 0) h)
        (zrz (i32 1) h)) := U_192 (zst []) 10 0 [yI a0, yI a1] [] h
/-! 193 Main_dried (II)I -/
set_option maxRecDepth 100000 in
theorem e_Main_dried (a0 : Int32) (a1 : Int32) (h : zHeap) : zc 193 [zI a0, zI a1] h =
    some (zI (zmax (i32 0) (a0 - a1)), h) := U_193 (zst []) 7 0 [yI a0, yI a1] [] h
/-! 194 Main_wetted (I)I -/
set_option maxRecDepth 100000 in
theorem e_Main_wetted (a0 : Int32) (h : zHeap) : zc 194 [zI a0] h =
    some (zI (zmin (i32 9) (a0 + (i32 3))), h) := U_194 (zst []) 7 0 [yI a0] [] h
/-! 195 Main_areOpposed (II)Z -/
set_option maxRecDepth 100000 in
theorem e_Main_areOpposed (a0 : Int32) (a1 : Int32) (h : zHeap) : zc 195 [zI a0, zI a1] h =
    zif (decide (a0 ≠ (i32 1)))
      (zif (decide (a0 ≠ 0))
        (zrz (i32 0) h)
        (zif (decide (a1 ≠ (i32 1)))
          (zrz (i32 0) h)
          (zrz (i32 1) h)))
      (zif (decide (a1 = 0))
        (zrz (i32 1) h)
        (zif (decide (a0 ≠ 0))
          (zrz (i32 0) h)
          (zif (decide (a1 ≠ (i32 1)))
            (zrz (i32 0) h)
            (zrz (i32 1) h)))) := U_195 (zst []) 15 0 [yI a0, yI a1] [] h
/-! 196 Main_power (JI)J -/
set_option maxRecDepth 100000 in
theorem e_Main_power (b0 : Int64) (a2 : Int32) (h : zHeap) : zc 196 [zL b0, zI a2] h =
    zr 196 4 [yL b0, none, yI a2, yL (i64 1), none, yI (i32 0)] [] h := U_196 (zst [4]) 16 0 [yL b0, none, yI a2, none, none, none] [] h
set_option maxRecDepth 100000 in
theorem e_Main_power_4 (b0 : Int64) (a2 : Int32) (b3 : Int64) (a5 : Int32) (h : zHeap) : zr 196 4 [yL b0, none, yI a2, yL b3, none, yI a5] [] h =
    zif (decide (a2 ≤ a5))
      (some (zL b3, h))
      (zr 196 4 [yL b0, none, yI a2, yL (b3 * b0), none, yI (a5 + i32 1)] [] h) := U_196 (zst [4]) 16 4 [yL b0, none, yI a2, yL b3, none, yI a5] [] h
/-! 197 Main_choose (II)J -/
set_option maxRecDepth 100000 in
theorem e_Main_choose (a0 : Int32) (a1 : Int32) (h : zHeap) : zc 197 [zI a0, zI a1] h =
    zr 197 4 [yI a0, yI a1, yL (i64 1), none, yI (i32 0)] [] h := U_197 (zst [4]) 24 0 [yI a0, yI a1, none, none, none] [] h
set_option maxRecDepth 100000 in
theorem e_Main_choose_4 (a0 : Int32) (a1 : Int32) (b2 : Int64) (a4 : Int32) (h : zHeap) : zr 197 4 [yI a0, yI a1, yL b2, none, yI a4] [] h =
    zif (decide (a1 ≤ a4))
      (some (zL b2, h))
      (zoL (if ((a4 + (i32 1)).toInt64) = 0 then none else some ((b2 * ((a0 - a4).toInt64)) / ((a4 + (i32 1)).toInt64))) fun y1 =>
      zr 197 4 [yI a0, yI a1, yL y1, none, yI (a4 + i32 1)] [] h) := U_197 (zst [4]) 24 4 [yI a0, yI a1, yL b2, none, yI a4] [] h
/-! 198 Main_leastTerm (JJZ)J -/
set_option maxRecDepth 100000 in
theorem e_Main_leastTerm (b0 : Int64) (b2 : Int64) (a4 : Int32) (h : zHeap) : zc 198 [zL b0, zL b2, zI a4] h =
    zif (decide (0 < (zcmp b2 (i64 0))))
      (zr 198 12 [yL b0, none, yL b2, none, yI a4, yL b2, none, yL b0, none, yI (i32 0), none, none] [] h)
      (some (zL (i64 (-1)), h)) := U_198 (zst [12]) 44 0 [yL b0, none, yL b2, none, yI a4, none, none, none, none, none, none, none] [] h
set_option maxRecDepth 100000 in
theorem e_Main_leastTerm_12 (b0 : Int64) (b2 : Int64) (a4 : Int32) (b5 : Int64) (b7 : Int64) (a9 : Int32) (w10 : Option zVal) (h : zHeap) : zr 198 12 [yL b0, none, yL b2, none, yI a4, yL b5, none, yL b7, none, yI a9, w10, none] [] h =
    zif (decide ((i32 100) ≤ a9))
      (zif (decide ((zcmp b5 (i64 0)) ≠ 0))
        (zif (decide (a4 = 0))
          (zoL (if b5 = 0 then none else some (b0 / b5)) fun y1 =>
          some (zL y1, h))
          (zoL (if b5 = 0 then none else some (b2 / b5)) fun y2 =>
          some (zL y2, h)))
        (some (zL (i64 (-1)), h)))
      (zif (decide ((zcmp b7 (i64 0)) = 0))
        (zif (decide ((zcmp b5 (i64 0)) ≠ 0))
          (zif (decide (a4 = 0))
            (zoL (if b5 = 0 then none else some (b0 / b5)) fun y3 =>
            some (zL y3, h))
            (zoL (if b5 = 0 then none else some (b2 / b5)) fun y4 =>
            some (zL y4, h)))
          (some (zL (i64 (-1)), h)))
        (zoL (if b7 = 0 then none else some (zremL b5 b7)) fun y5 =>
        zr 198 12 [yL b0, none, yL b2, none, yI a4, yL b7, none, yL y5, none, yI (a9 + i32 1), yL y5, none] [] h)) := U_198 (zst [12]) 44 12 [yL b0, none, yL b2, none, yI a4, yL b5, none, yL b7, none, yI a9, w10, none] [] h
/-! 199 Model_init ()V -/
set_option maxRecDepth 100000 in
theorem e_Model_init (p0 : Nat) (h : zHeap) : zc 199 [zR (some p0)] h =
    zoN (zlen (i32 4920)) fun n1 =>
    zoH (zpR (znA 0 n1 h) (some p0) 768 (some (hN h))) fun h2 =>
    zoN (zlen (i32 3)) fun n3 =>
    zoH (zpR (znA 2 n3 h2) (some p0) 769 (some (hN h2))) fun h4 =>
    zoN (zlen (i32 241)) fun n5 =>
    zoH (zpR (znA 0 n5 h4) (some p0) 777 (some (hN h4))) fun h6 =>
    zoN (zlen (i32 800)) fun n7 =>
    zoH (zpR (znA 0 n7 h6) (some p0) 785 (some (hN h6))) fun h8 =>
    zoN (zlen (i32 576)) fun n9 =>
    zoH (zpR (znA 0 n9 h8) (some p0) 786 (some (hN h8))) fun h10 =>
    zoN (zlen (i32 256)) fun n11 =>
    zoH (zpR (znA 0 n11 h10) (some p0) 787 (some (hN h10))) fun h12 =>
    zoN (zlen (i32 256)) fun n13 =>
    zoH (zpR (znA 0 n13 h12) (some p0) 789 (some (hN h12))) fun h14 =>
    zoN (zlen (i32 6)) fun n15 =>
    zoH (zpR (znA 0 n15 h14) (some p0) 790 (some (hN h14))) fun h16 =>
    zoN (zlen (i32 4)) fun n17 =>
    zoH (zpR (znA 0 n17 h16) (some p0) 791 (some (hN h16))) fun h18 =>
    zoN (zlen (i32 6)) fun n19 =>
    zoH (zpR (znA 0 n19 h18) (some p0) 802 (some (hN h18))) fun h20 =>
    zoN (zlen (i32 6)) fun n21 =>
    zoH (zpR (znA 0 n21 h20) (some p0) 803 (some (hN h20))) fun h22 =>
    zoN (zlen (i32 4)) fun n23 =>
    zoH (zpR (znA 0 n23 h22) (some p0) 804 (some (hN h22))) fun h24 =>
    zoN (zlen (i32 8)) fun n25 =>
    zoH (zpR (znA 0 n25 h24) (some p0) 805 (some (hN h24))) fun h26 =>
    zoN (zlen (i32 8)) fun n27 =>
    zoH (zpR (znA 0 n27 h26) (some p0) 806 (some (hN h26))) fun h28 =>
    zoN (zlen (i32 8)) fun n29 =>
    zoH (zpR (znA 0 n29 h28) (some p0) 807 (some (hN h28))) fun h30 =>
    zoN (zlen (i32 9)) fun n31 =>
    zoH (zpR (znA 0 n31 h30) (some p0) 809 (some (hN h30))) fun h32 =>
    zoR (zgR h32 (some p0) 768) fun r33 =>
    zoH (zaS h32 r33 (i32 6) (i32 (-1))) fun h34 =>
    some (zI 0, h34) := U_199 (zst []) 73 0 [yR (some p0)] [] h
/-! 200 Model_isIn (III)Z -/
set_option maxRecDepth 100000 in
theorem e_Model_isIn (a0 : Int32) (a1 : Int32) (a2 : Int32) (h : zHeap) : zc 200 [zI a0, zI a1, zI a2] h =
    zif (decide (a0 < a1))
      (zrz (i32 0) h)
      (zif (decide (a2 < a0))
        (zrz (i32 0) h)
        (zrz (i32 1) h)) := U_200 (zst []) 11 0 [yI a0, yI a1, yI a2] [] h
/-! 201 Model_feed (IIIII)I -/
set_option maxRecDepth 100000 in
theorem e_Model_feed (p0 : Option Nat) (a1 : Int32) (a2 : Int32) (a3 : Int32) (a4 : Int32) (a5 : Int32) (h : zHeap) : zc 201 [zR p0, zI a1, zI a2, zI a3, zI a4, zI a5] h =
    zoR (zgR h p0 768) fun r1 =>
    zoI (zaI h r1 (i32 4) 0) fun x2 =>
    zif (decide ((x2 + (i32 20)) ≤ (i32 600)))
      (zr 201 12 [yR p0, yI a1, yI a2, yI a3, yI a4, yI a5, yI (i32 0), none] [] h)
      (some (zI (i32 (-1)), h)) := U_201 (zst [12, 36]) 73 0 [yR p0, yI a1, yI a2, yI a3, yI a4, yI a5, none, none] [] h
set_option maxRecDepth 100000 in
theorem e_Model_feed_12 (p0 : Option Nat) (a1 : Int32) (a2 : Int32) (a3 : Int32) (a4 : Int32) (a5 : Int32) (a6 : Int32) (w7 : Option zVal) (h : zHeap) : zr 201 12 [yR p0, yI a1, yI a2, yI a3, yI a4, yI a5, yI a6, w7] [] h =
    zif (decide ((i32 20) ≤ a6))
      (zoR (zgR h p0 768) fun r1 =>
      zoI (zaI h r1 (i32 4) 0) fun x2 =>
      some (zI x2, h))
      (zif (decide ((i32 4) ≤ a6))
        (zif (decide ((i32 8) ≤ a6))
          (zif (decide ((i32 12) ≤ a6))
            (zif (decide ((i32 16) ≤ a6))
              (zr 201 36 [yR p0, yI a1, yI a2, yI a3, yI a4, yI a5, yI a6, w7] [zI a5] h)
              (zr 201 36 [yR p0, yI a1, yI a2, yI a3, yI a4, yI a5, yI a6, w7] [zI a4] h))
            (zr 201 36 [yR p0, yI a1, yI a2, yI a3, yI a4, yI a5, yI a6, w7] [zI a3] h))
          (zr 201 36 [yR p0, yI a1, yI a2, yI a3, yI a4, yI a5, yI a6, w7] [zI a2] h))
        (zr 201 36 [yR p0, yI a1, yI a2, yI a3, yI a4, yI a5, yI a6, w7] [zI a1] h)) := U_201 (zst [12, 36]) 73 12 [yR p0, yI a1, yI a2, yI a3, yI a4, yI a5, yI a6, w7] [] h
set_option maxRecDepth 100000 in
theorem e_Model_feed_36 (p0 : Option Nat) (a1 : Int32) (a2 : Int32) (a3 : Int32) (a4 : Int32) (a5 : Int32) (a6 : Int32) (w7 : Option zVal) (s0 : Int32) (h : zHeap) : zr 201 36 [yR p0, yI a1, yI a2, yI a3, yI a4, yI a5, yI a6, w7] [zI s0] h =
    zoR (zgR h p0 768) fun r1 =>
    zoR (zgR h p0 768) fun r2 =>
    zoI (zaI h r2 (i32 4) 0) fun x3 =>
    zoI (if (i32 4) = 0 then none else some (zrem a6 (i32 4))) fun x4 =>
    zoH (zaS h r1 ((i32 10) + x3) ((zshr s0 ((i32 24) - ((i32 8) * x4))) &&& (i32 255))) fun h5 =>
    zoR (zgR h5 p0 768) fun r6 =>
    zoI (zaI h5 r6 (i32 4) 0) fun x7 =>
    zoH (zaS h5 r6 (i32 4) (x7 + (i32 1))) fun h8 =>
    zr 201 12 [yR p0, yI a1, yI a2, yI a3, yI a4, yI a5, yI (a6 + i32 1), yI s0] [] h8 := U_201 (zst [12, 36]) 73 36 [yR p0, yI a1, yI a2, yI a3, yI a4, yI a5, yI a6, w7] [zI s0] h
/-! 202 Model_end (I)I -/
set_option maxRecDepth 100000 in
theorem e_Model_end (p0 : Option Nat) (a1 : Int32) (h : zHeap) : zc 202 [zR p0, zI a1] h =
    zif (decide (a1 < 0))
      (some (zI (i32 (-1)), h))
      (zoR (zgR h p0 768) fun r1 =>
      zoI (zaI h r1 (i32 4) 0) fun x2 =>
      zif (decide (a1 ≤ x2))
        (zoR (zgR h p0 768) fun r3 =>
        zoH (zaS h r3 (i32 4) a1) fun h4 =>
        some (zI a1, h4))
        (some (zI (i32 (-1)), h))) := U_202 (zst []) 18 0 [yR p0, yI a1] [] h
/-! 203 Model_byteAt (I)I -/
set_option maxRecDepth 100000 in
theorem e_Model_byteAt (p0 : Option Nat) (a1 : Int32) (h : zHeap) : zc 203 [zR p0, zI a1] h =
    zoI (zgI h p0 770) fun x1 =>
    zif (decide (x1 ≤ a1))
      (some (zI (i32 (-1)), h))
      (zoR (zgR h p0 768) fun r2 =>
      zoI (zaI h r2 ((i32 10) + a1) 0) fun x3 =>
      some (zI x3, h)) := U_203 (zst []) 14 0 [yR p0, yI a1] [] h
/-! 204 Model_isLetter (I)Z -/
set_option maxRecDepth 100000 in
theorem e_Model_isLetter (a0 : Int32) (h : zHeap) : zc 204 [zI a0] h =
    zif (decide (a0 < (i32 97)))
      (zrz (i32 0) h)
      (zif (decide ((i32 122) < a0))
        (zrz (i32 0) h)
        (zrz (i32 1) h)) := U_204 (zst []) 11 0 [yI a0] [] h
/-! 205 Model_isDigit (I)Z -/
set_option maxRecDepth 100000 in
theorem e_Model_isDigit (a0 : Int32) (h : zHeap) : zc 205 [zI a0] h =
    zif (decide (a0 < (i32 48)))
      (zrz (i32 0) h)
      (zif (decide ((i32 57) < a0))
        (zrz (i32 0) h)
        (zrz (i32 1) h)) := U_205 (zst []) 11 0 [yI a0] [] h
/-! 206 Model_four (IIII)J -/
set_option maxRecDepth 100000 in
theorem e_Model_four (a0 : Int32) (a1 : Int32) (a2 : Int32) (a3 : Int32) (h : zHeap) : zc 206 [zI a0, zI a1, zI a2, zI a3] h =
    some (zL (((((((a0 * (i32 32)) + a1) * (i32 32)) + a2) * (i32 32)) + a3).toInt64), h) := U_206 (zst []) 16 0 [yI a0, yI a1, yI a2, yI a3] [] h
/-! 207 Model_eight (IIIIIIII)J -/
set_option maxRecDepth 100000 in
theorem e_Model_eight (a0 : Int32) (a1 : Int32) (a2 : Int32) (a3 : Int32) (a4 : Int32) (a5 : Int32) (a6 : Int32) (a7 : Int32) (h : zHeap) : zc 207 [zI a0, zI a1, zI a2, zI a3, zI a4, zI a5, zI a6, zI a7] h =
    zbL (zc 206 [zI a0, zI a1, zI a2, zI a3] h) fun y2 h1 =>
    zbL (zc 206 [zI a4, zI a5, zI a6, zI a7] h1) fun y4 h3 =>
    some (zL ((y2 * (i64 1048576)) + y4), h3) := U_207 (zst []) 15 0 [yI a0, yI a1, yI a2, yI a3, yI a4, yI a5, yI a6, yI a7] [] h
/-! 208 Model_wordOf (J)I -/
set_option maxRecDepth 100000 in
theorem e_Model_wordOf (b0 : Int64) (h : zHeap) : zc 208 [zL b0] h =
    zbL (zc 206 [zI (i32 18), zI (i32 5), zI (i32 5), zI (i32 4)] h) fun y2 h1 =>
    zif (decide ((zcmp b0 y2) ≠ 0))
      (zbL (zc 207 [zI (i32 0), zI (i32 0), zI (i32 16), zI (i32 12), zI (i32 1), zI (i32 25), zI (i32 5), zI (i32 18)] h1) fun y4 h3 =>
      zif (decide ((zcmp b0 y4) ≠ 0))
        (zbL (zc 207 [zI (i32 17), zI (i32 21), zI (i32 5), zI (i32 19), zI (i32 20), zI (i32 9), zI (i32 15), zI (i32 14)] h3) fun y6 h5 =>
        zif (decide ((zcmp b0 y6) ≠ 0))
          (zbL (zc 207 [zI (i32 0), zI (i32 0), zI (i32 0), zI (i32 13), zI (i32 5), zI (i32 1), zI (i32 14), zI (i32 19)] h5) fun y8 h7 =>
          zif (decide ((zcmp b0 y8) ≠ 0))
            (zbL (zc 206 [zI (i32 0), zI (i32 1), zI (i32 19), zI (i32 11)] h7) fun y10 h9 =>
            zif (decide ((zcmp b0 y10) ≠ 0))
              (zbL (zc 206 [zI (i32 4), zI (i32 21), zI (i32 5), zI (i32 20)] h9) fun y12 h11 =>
              zif (decide ((zcmp b0 y12) ≠ 0))
                (zbL (zc 206 [zI (i32 0), zI (i32 23), zI (i32 5), zI (i32 20)] h11) fun y14 h13 =>
                zif (decide ((zcmp b0 y14) ≠ 0))
                  (zbL (zc 206 [zI (i32 0), zI (i32 3), zI (i32 21), zI (i32 20)] h13) fun y16 h15 =>
                  zif (decide ((zcmp b0 y16) ≠ 0))
                    (zbL (zc 206 [zI (i32 3), zI (i32 15), zI (i32 12), zI (i32 4)] h15) fun y18 h17 =>
                    zif (decide ((zcmp b0 y18) ≠ 0))
                      (zbL (zc 207 [zI (i32 0), zI (i32 0), zI (i32 0), zI (i32 14), zI (i32 9), zI (i32 7), zI (i32 8), zI (i32 20)] h17) fun y20 h19 =>
                      zif (decide ((zcmp b0 y20) ≠ 0))
                        (zbL (zc 206 [zI (i32 0), zI (i32 0), zI (i32 14), zI (i32 15)] h19) fun y22 h21 =>
                        zif (decide ((zcmp b0 y22) ≠ 0))
                          (zbL (zc 206 [zI (i32 0), zI (i32 25), zI (i32 5), zI (i32 19)] h21) fun y24 h23 =>
                          zif (decide ((zcmp b0 y24) ≠ 0))
                            (zbL (zc 206 [zI (i32 23), zI (i32 1), zI (i32 9), zI (i32 20)] h23) fun y26 h25 =>
                            zif (decide ((zcmp b0 y26) ≠ 0))
                              (zbL (zc 207 [zI (i32 0), zI (i32 0), zI (i32 0), zI (i32 8), zI (i32 5), zI (i32 1), zI (i32 18), zI (i32 4)] h25) fun y28 h27 =>
                              zif (decide ((zcmp b0 y28) ≠ 0))
                                (zbL (zc 207 [zI (i32 0), zI (i32 0), zI (i32 0), zI (i32 3), zI (i32 15), zI (i32 21), zI (i32 7), zI (i32 8)] h27) fun y30 h29 =>
                                zif (decide ((zcmp b0 y30) ≠ 0))
                                  (zr 208 175 [yL b0, none] [zI (i32 99)] h29)
                                  (zr 208 175 [yL b0, none] [zI (i32 15)] h29))
                                (some (zI (i32 14), h27)))
                              (some (zI (i32 13), h25)))
                            (some (zI (i32 12), h23)))
                          (some (zI (i32 11), h21)))
                        (some (zI (i32 10), h19)))
                      (some (zI (i32 9), h17)))
                    (some (zI (i32 8), h15)))
                  (some (zI (i32 7), h13)))
                (some (zI (i32 6), h11)))
              (some (zI (i32 5), h9)))
            (some (zI (i32 4), h7)))
          (some (zI (i32 3), h5)))
        (some (zI (i32 2), h3)))
      (some (zI (i32 1), h1)) := U_208 (zst [175]) 177 0 [yL b0, none] [] h
set_option maxRecDepth 100000 in
theorem e_Model_wordOf_175 (b0 : Int64) (s0 : Int32) (h : zHeap) : zr 208 175 [yL b0, none] [zI s0] h =
    some (zI s0, h) := U_208 (zst [175]) 177 175 [yL b0, none] [zI s0] h
/-! 209 Model_advance ()V -/
set_option maxRecDepth 100000 in
theorem e_Model_advance_0 (p0 : Option Nat) (h : zHeap) : zr 209 0 [yR p0, none, none, none] [] h =
    zoI (zgI h p0 771) fun x1 =>
    zbI (zv 12 203 [zR p0, zI x1] h) fun x3 h2 =>
    zif (decide (x3 = (i32 10)))
      (zoI (zgI h2 p0 771) fun x4 =>
      zoH (zpI h2 p0 771 (x4 + (i32 1))) fun h5 =>
      zr 209 0 [yR p0, none, none, none] [] h5)
      (zoI (zgI h2 p0 771) fun x6 =>
      zbI (zv 12 203 [zR p0, zI x6] h2) fun x8 h7 =>
      zif (decide (x8 ≠ (i32 32)))
        (zoI (zgI h7 p0 771) fun x9 =>
        zoH (zpI h7 p0 772 x9) fun h10 =>
        zoI (zgI h10 p0 771) fun x11 =>
        zbI (zv 12 203 [zR p0, zI x11] h10) fun x13 h12 =>
        zif (decide (0 ≤ x13))
          (zbI (zc 204 [zI x13] h12) fun x15 h14 =>
          zif (decide (x15 = 0))
            (zbI (zc 205 [zI x13] h14) fun x17 h16 =>
            zif (decide (x17 = 0))
              (zoI (zgI h16 p0 771) fun x18 =>
              zoH (zpI h16 p0 771 (x18 + (i32 1))) fun h19 =>
              zif (decide (x13 ≠ (i32 59)))
                (zoH (zpI h19 p0 773 (i32 4)) fun h20 =>
                some (zI 0, h20))
                (zoH (zpI h19 p0 773 (i32 2)) fun h21 =>
                some (zI 0, h21)))
              (zoH (zpI h16 p0 774 (i32 0)) fun h22 =>
              zr 209 100 [yR p0, yI x13, none, none] [] h22))
            (zr 209 39 [yR p0, yI x13, yL (i64 0), none] [] h14))
          (zoH (zpI h12 p0 773 (i32 0)) fun h23 =>
          some (zI 0, h23)))
        (zoI (zgI h7 p0 771) fun x24 =>
        zoH (zpI h7 p0 771 (x24 + (i32 1))) fun h25 =>
        zr 209 0 [yR p0, none, none, none] [] h25)) := U_209 (zst [0, 39, 100]) 162 0 [yR p0, none, none, none] [] h
set_option maxRecDepth 100000 in
theorem e_Model_advance (p0 : Option Nat) (h : zHeap) : zc 209 [zR p0] h = zr 209 0 [yR p0, none, none, none] [] h := rfl
set_option maxRecDepth 100000 in
theorem e_Model_advance_39 (p0 : Option Nat) (a1 : Int32) (b2 : Int64) (h : zHeap) : zr 209 39 [yR p0, yI a1, yL b2, none] [] h =
    zoI (zgI h p0 771) fun x1 =>
    zbI (zv 12 203 [zR p0, zI x1] h) fun x3 h2 =>
    zbI (zc 204 [zI x3] h2) fun x5 h4 =>
    zif (decide (x5 = 0))
      (zoI (zgI h4 p0 771) fun x6 =>
      zoI (zgI h4 p0 772) fun x7 =>
      zif (decide ((x6 - x7) ≤ (i32 8)))
        (zbI (zc 208 [zL b2] h4) fun x9 h8 =>
        zoH (zpI h8 p0 775 x9) fun h10 =>
        zoI (zgI h10 p0 775) fun x11 =>
        zif (decide (x11 ≠ (i32 99)))
          (zoH (zpI h10 p0 773 (i32 3)) fun h12 =>
          some (zI 0, h12))
          (zoH (zpI h10 p0 773 (i32 4)) fun h13 =>
          some (zI 0, h13)))
        (zoH (zpI h4 p0 775 (i32 99)) fun h14 =>
        zoI (zgI h14 p0 775) fun x15 =>
        zif (decide (x15 ≠ (i32 99)))
          (zoH (zpI h14 p0 773 (i32 3)) fun h16 =>
          some (zI 0, h16))
          (zoH (zpI h14 p0 773 (i32 4)) fun h17 =>
          some (zI 0, h17))))
      (zoI (zgI h4 p0 771) fun x18 =>
      zoI (zgI h4 p0 772) fun x19 =>
      zif (decide ((i32 8) ≤ (x18 - x19)))
        (zoI (zgI h4 p0 771) fun x20 =>
        zoH (zpI h4 p0 771 (x20 + (i32 1))) fun h21 =>
        zr 209 39 [yR p0, yI a1, yL b2, none] [] h21)
        (zoI (zgI h4 p0 771) fun x22 =>
        zbI (zv 12 203 [zR p0, zI x22] h4) fun x24 h23 =>
        zoI (zgI h23 p0 771) fun x25 =>
        zoH (zpI h23 p0 771 (x25 + (i32 1))) fun h26 =>
        zr 209 39 [yR p0, yI a1, yL ((((i64 32) * b2) + x24.toInt64) - (i64 96)), none] [] h26)) := U_209 (zst [0, 39, 100]) 162 39 [yR p0, yI a1, yL b2, none] [] h
set_option maxRecDepth 100000 in
theorem e_Model_advance_100 (p0 : Option Nat) (a1 : Int32) (h : zHeap) : zr 209 100 [yR p0, yI a1, none, none] [] h =
    zoI (zgI h p0 771) fun x1 =>
    zbI (zv 12 203 [zR p0, zI x1] h) fun x3 h2 =>
    zbI (zc 205 [zI x3] h2) fun x5 h4 =>
    zif (decide (x5 = 0))
      (zoI (zgI h4 p0 771) fun x6 =>
      zoI (zgI h4 p0 772) fun x7 =>
      zif (decide ((x6 - x7) ≤ (i32 2)))
        (zoH (zpI h4 p0 773 (i32 1)) fun h8 =>
        some (zI 0, h8))
        (zoH (zpI h4 p0 773 (i32 4)) fun h9 =>
        some (zI 0, h9)))
      (zoI (zgI h4 p0 771) fun x10 =>
      zoI (zgI h4 p0 772) fun x11 =>
      zif (decide ((i32 2) ≤ (x10 - x11)))
        (zoI (zgI h4 p0 771) fun x12 =>
        zoH (zpI h4 p0 771 (x12 + (i32 1))) fun h13 =>
        zr 209 100 [yR p0, yI a1, none, none] [] h13)
        (zoI (zgI h4 p0 774) fun x14 =>
        zoI (zgI h4 p0 771) fun x15 =>
        zbI (zv 12 203 [zR p0, zI x15] h4) fun x17 h16 =>
        zoH (zpI h16 p0 774 ((((i32 10) * x14) + x17) - (i32 48))) fun h18 =>
        zoI (zgI h18 p0 771) fun x19 =>
        zoH (zpI h18 p0 771 (x19 + (i32 1))) fun h20 =>
        zr 209 100 [yR p0, yI a1, none, none] [] h20)) := U_209 (zst [0, 39, 100]) 162 100 [yR p0, yI a1, none, none] [] h
/-! 210 Model_ends ()V -/
set_option maxRecDepth 100000 in
theorem e_Model_ends (p0 : Option Nat) (h : zHeap) : zc 210 [zR p0] h =
    zoI (zgI h p0 776) fun x1 =>
    zif (decide (x1 = 0))
      (zoH (zpZ h p0 776 (i32 1)) fun h2 =>
      zoR (zgR h2 p0 768) fun r3 =>
      zoH (zaS h2 r3 (i32 5) (i32 1)) fun h4 =>
      zoR (zgR h4 p0 768) fun r5 =>
      zoI (zgI h4 p0 772) fun x6 =>
      zoH (zaS h4 r5 (i32 6) x6) fun h7 =>
      some (zI 0, h7))
      (some (zI 0, h)) := U_210 (zst []) 20 0 [yR p0] [] h
/-! 211 Model_also (II)V -/
set_option maxRecDepth 100000 in
theorem e_Model_also (p0 : Option Nat) (a1 : Int32) (a2 : Int32) (h : zHeap) : zc 211 [zR p0, zI a1, zI a2] h =
    zoI (zgI h p0 776) fun x1 =>
    zif (decide (x1 ≠ 0))
      (some (zI 0, h))
      (zoR (zgR h p0 768) fun r2 =>
      zoI (zaI h r2 (i32 5) 0) fun x3 =>
      zif (decide (x3 = 0))
        (zoR (zgR h p0 768) fun r4 =>
        zoH (zaS h r4 (i32 5) a1) fun h5 =>
        zoR (zgR h5 p0 768) fun r6 =>
        zoH (zaS h5 r6 (i32 6) a2) fun h7 =>
        some (zI 0, h7))
        (zoR (zgR h p0 768) fun r8 =>
        zoI (zaI h r8 (i32 6) 0) fun x9 =>
        zif (decide (x9 < a2))
          (some (zI 0, h))
          (zoR (zgR h p0 768) fun r10 =>
          zoI (zaI h r10 (i32 6) 0) fun x11 =>
          zif (decide (x11 ≠ a2))
            (zoR (zgR h p0 768) fun r12 =>
            zoH (zaS h r12 (i32 5) a1) fun h13 =>
            zoR (zgR h13 p0 768) fun r14 =>
            zoH (zaS h13 r14 (i32 6) a2) fun h15 =>
            some (zI 0, h15))
            (zoR (zgR h p0 768) fun r16 =>
            zoI (zaI h r16 (i32 5) 0) fun x17 =>
            zif (decide (a1 < x17))
              (zoR (zgR h p0 768) fun r18 =>
              zoH (zaS h r18 (i32 5) a1) fun h19 =>
              zoR (zgR h19 p0 768) fun r20 =>
              zoH (zaS h19 r20 (i32 6) a2) fun h21 =>
              some (zI 0, h21))
              (some (zI 0, h)))))) := U_211 (zst []) 39 0 [yR p0, yI a1, yI a2] [] h
/-! 212 Model_numbered (II)I -/
set_option maxRecDepth 100000 in
theorem e_Model_numbered (p0 : Option Nat) (a1 : Int32) (a2 : Int32) (h : zHeap) : zc 212 [zR p0, zI a1, zI a2] h =
    zoI (zgI h p0 776) fun x1 =>
    zif (decide (x1 ≠ 0))
      (zbV (zv 12 210 [zR p0] h) fun h2 =>
      some (zI a1, h2))
      (zoI (zgI h p0 773) fun x3 =>
      zif (decide (x3 = (i32 1)))
        (zoI (zgI h p0 774) fun x4 =>
        zbI (zc 200 [zI x4, zI a1, zI a2] h) fun x6 h5 =>
        zif (decide (x6 ≠ 0))
          (zbV (zv 12 209 [zR p0] h5) fun h7 =>
          zbI (zc 200 [zI x4, zI a1, zI a2] h7) fun x9 h8 =>
          zif (decide (x9 = 0))
            (some (zI a1, h8))
            (some (zI x4, h8)))
          (zoI (zgI h5 p0 772) fun x10 =>
          zbV (zv 12 211 [zR p0, zI (i32 2), zI x10] h5) fun h11 =>
          zbV (zv 12 209 [zR p0] h11) fun h12 =>
          zbI (zc 200 [zI x4, zI a1, zI a2] h12) fun x14 h13 =>
          zif (decide (x14 = 0))
            (some (zI a1, h13))
            (some (zI x4, h13))))
        (zbV (zv 12 210 [zR p0] h) fun h15 =>
        some (zI a1, h15))) := U_212 (zst []) 36 0 [yR p0, yI a1, yI a2, none] [] h
/-! 213 Model_wordIn (II)I -/
set_option maxRecDepth 100000 in
theorem e_Model_wordIn (p0 : Option Nat) (a1 : Int32) (a2 : Int32) (h : zHeap) : zc 213 [zR p0, zI a1, zI a2] h =
    zoI (zgI h p0 776) fun x1 =>
    zif (decide (x1 ≠ 0))
      (zbV (zv 12 210 [zR p0] h) fun h2 =>
      some (zI (i32 0), h2))
      (zoI (zgI h p0 773) fun x3 =>
      zif (decide (x3 ≠ (i32 3)))
        (zbV (zv 12 210 [zR p0] h) fun h4 =>
        some (zI (i32 0), h4))
        (zoI (zgI h p0 775) fun x5 =>
        zbI (zc 200 [zI x5, zI a1, zI a2] h) fun x7 h6 =>
        zif (decide (x7 ≠ 0))
          (zoI (zgI h6 p0 775) fun x8 =>
          zbV (zv 12 209 [zR p0] h6) fun h9 =>
          some (zI x8, h9))
          (zbV (zv 12 210 [zR p0] h6) fun h10 =>
          some (zI (i32 0), h10)))) := U_213 (zst []) 25 0 [yR p0, yI a1, yI a2, none] [] h
/-! 214 Model_endsLine ()V -/
set_option maxRecDepth 100000 in
theorem e_Model_endsLine (p0 : Option Nat) (h : zHeap) : zc 214 [zR p0] h =
    zoI (zgI h p0 776) fun x1 =>
    zif (decide (x1 ≠ 0))
      (zbV (zv 12 210 [zR p0] h) fun h2 =>
      some (zI 0, h2))
      (zoI (zgI h p0 773) fun x3 =>
      zif (decide (x3 ≠ (i32 2)))
        (zbV (zv 12 210 [zR p0] h) fun h4 =>
        some (zI 0, h4))
        (zbV (zv 12 209 [zR p0] h) fun h5 =>
        some (zI 0, h5))) := U_214 (zst []) 14 0 [yR p0] [] h
/-! 215 Model_comes (I)Z -/
set_option maxRecDepth 100000 in
theorem e_Model_comes (p0 : Option Nat) (a1 : Int32) (h : zHeap) : zc 215 [zR p0, zI a1] h =
    zoI (zgI h p0 776) fun x1 =>
    zif (decide (x1 ≠ 0))
      (zrz (i32 0) h)
      (zoI (zgI h p0 773) fun x2 =>
      zif (decide (x2 ≠ (i32 3)))
        (zrz (i32 0) h)
        (zoI (zgI h p0 775) fun x3 =>
        zif (decide (x3 = a1))
          (zbV (zv 12 209 [zR p0] h) fun h4 =>
          zrz (i32 1) h4)
          (zrz (i32 0) h))) := U_215 (zst []) 18 0 [yR p0, yI a1] [] h
/-! 216 Model_unlike (II)I -/
set_option maxRecDepth 100000 in
theorem e_Model_unlike (p0 : Option Nat) (a1 : Int32) (a2 : Int32) (h : zHeap) : zc 216 [zR p0, zI a1, zI a2] h =
    zoI (zgI h p0 772) fun x1 =>
    zoI (zgI h p0 776) fun x2 =>
    zif (decide (x2 ≠ 0))
      (zbI (zv 12 212 [zR p0, zI (i32 0), zI a1] h) fun x4 h3 =>
      zif (decide ((i32 0) = 0))
        (some (zI x4, h3))
        (zbV (zv 12 211 [zR p0, zI (i32 2), zI x1] h3) fun h5 =>
        some (zI x4, h5)))
      (zoI (zgI h p0 773) fun x6 =>
      zif (decide (x6 ≠ (i32 1)))
        (zbI (zv 12 212 [zR p0, zI (i32 0), zI a1] h) fun x8 h7 =>
        zif (decide ((i32 0) = 0))
          (some (zI x8, h7))
          (zbV (zv 12 211 [zR p0, zI (i32 2), zI x1] h7) fun h9 =>
          some (zI x8, h9)))
        (zoI (zgI h p0 774) fun x10 =>
        zif (decide (x10 ≠ a2))
          (zbI (zv 12 212 [zR p0, zI (i32 0), zI a1] h) fun x12 h11 =>
          zif (decide ((i32 0) = 0))
            (some (zI x12, h11))
            (zbV (zv 12 211 [zR p0, zI (i32 2), zI x1] h11) fun h13 =>
            some (zI x12, h13)))
          (zbI (zv 12 212 [zR p0, zI (i32 0), zI a1] h) fun x15 h14 =>
          zif (decide ((i32 1) = 0))
            (some (zI x15, h14))
            (zbV (zv 12 211 [zR p0, zI (i32 2), zI x1] h14) fun h16 =>
            some (zI x15, h16))))) := U_216 (zst []) 32 0 [yR p0, yI a1, yI a2, none, none, none] [] h
/-! 217 Model_pairTold (IIIIIII)V -/
set_option maxRecDepth 100000 in
theorem e_Model_pairTold (p0 : Option Nat) (a1 : Int32) (a2 : Int32) (a3 : Int32) (a4 : Int32) (a5 : Int32) (a6 : Int32) (a7 : Int32) (h : zHeap) : zc 217 [zR p0, zI a1, zI a2, zI a3, zI a4, zI a5, zI a6, zI a7] h =
    zoI (zgI h p0 776) fun x1 =>
    zif (decide (x1 ≠ 0))
      (zr 217 13 [yR p0, yI a1, yI a2, yI a3, yI a4, yI a5, yI a6, yI a7, none, none] [] h)
      (zoR (zgR h p0 777) fun r2 =>
      zoI (zaI h r2 a2 0) fun x3 =>
      zif (decide (x3 < a4))
        (zr 217 13 [yR p0, yI a1, yI a2, yI a3, yI a4, yI a5, yI a6, yI a7, none, none] [] h)
        (zbV (zv 12 211 [zR p0, zI (i32 3), zI a1] h) fun h4 =>
        zr 217 13 [yR p0, yI a1, yI a2, yI a3, yI a4, yI a5, yI a6, yI a7, none, none] [] h4)) := U_217 (zst [13]) 66 0 [yR p0, yI a1, yI a2, yI a3, yI a4, yI a5, yI a6, yI a7, none, none] [] h
set_option maxRecDepth 100000 in
theorem e_Model_pairTold_13 (p0 : Option Nat) (a1 : Int32) (a2 : Int32) (a3 : Int32) (a4 : Int32) (a5 : Int32) (a6 : Int32) (a7 : Int32) (h : zHeap) : zr 217 13 [yR p0, yI a1, yI a2, yI a3, yI a4, yI a5, yI a6, yI a7, none, none] [] h =
    zbI (zv 12 212 [zR p0, zI a5, zI a6] h) fun x2 h1 =>
    zbI (zv 12 212 [zR p0, zI (i32 0), zI a7] h1) fun x4 h3 =>
    zoR (zgR h3 p0 777) fun r5 =>
    zoI (zaI h3 r5 a2 0) fun x6 =>
    zif (decide (x6 < a4))
      (zoR (zgR h3 p0 777) fun r7 =>
      zoR (zgR h3 p0 777) fun r8 =>
      zoI (zaI h3 r8 a2 0) fun x9 =>
      zoH (zaS h3 r7 (a3 + ((i32 2) * x9)) x2) fun h10 =>
      zoR (zgR h10 p0 777) fun r11 =>
      zoR (zgR h10 p0 777) fun r12 =>
      zoI (zaI h10 r12 a2 0) fun x13 =>
      zoH (zaS h10 r11 ((a3 + (i32 1)) + ((i32 2) * x13)) x4) fun h14 =>
      zoR (zgR h14 p0 777) fun r15 =>
      zoI (zaI h14 r15 a2 0) fun x16 =>
      zoH (zaS h14 r15 a2 (x16 + (i32 1))) fun h17 =>
      some (zI 0, h17))
      (some (zI 0, h3)) := U_217 (zst [13]) 66 13 [yR p0, yI a1, yI a2, yI a3, yI a4, yI a5, yI a6, yI a7, none, none] [] h
/-! 218 Model_duchyLine ()V -/
set_option maxRecDepth 100000 in
theorem e_Model_duchyLine (p0 : Option Nat) (h : zHeap) : zc 218 [zR p0] h =
    zoI (zgI h p0 772) fun x1 =>
    zbI (zv 12 215 [zR p0, zI (i32 9)] h) fun x3 h2 =>
    zif (decide (x3 = 0))
      (zbI (zv 12 213 [zR p0, zI (i32 1), zI (i32 4)] h2) fun x5 h4 =>
      zif (decide (x5 = i32 1))
        (zbV (zv 12 217 [zR p0, zI x1, zI (i32 0), zI (i32 4), zI (i32 6), zI (i32 0), zI (i32 9), zI (i32 7)] h4) fun h6 =>
        zbV (zv 12 214 [zR p0] h6) fun h7 =>
        some (zI 0, h7))
        (zif (decide (x5 = i32 2))
        (zoR (zgR h4 p0 777) fun r8 =>
        zoI (zaI h4 r8 (i32 1) 0) fun x9 =>
        zif (decide (x9 < (i32 4)))
          (zr 218 43 [yR p0, yI x1, yI x5, none] [] h4)
          (zbV (zv 12 211 [zR p0, zI (i32 3), zI x1] h4) fun h10 =>
          zr 218 43 [yR p0, yI x1, yI x5, none] [] h10))
        (zif (decide (x5 = i32 3))
        (zbV (zv 12 217 [zR p0, zI x1, zI (i32 2), zI (i32 20), zI (i32 8), zI (i32 1), zI (i32 15), zI (i32 3)] h4) fun h11 =>
        zbV (zv 12 214 [zR p0] h11) fun h12 =>
        some (zI 0, h12))
        (zif (decide (x5 = i32 4))
        (zbI (zv 12 212 [zR p0, zI (i32 0), zI (i32 7)] h4) fun x14 h13 =>
        zoR (zgR h13 p0 777) fun r15 =>
        zbI (zv 12 213 [zR p0, zI (i32 11), zI (i32 13)] h13) fun x17 h16 =>
        zoH (zaS h16 r15 ((i32 36) + x14) (x17 - (i32 11))) fun h18 =>
        zbV (zv 12 214 [zR p0] h18) fun h19 =>
        some (zI 0, h19))
        (zbV (zv 12 214 [zR p0] h4) fun h20 =>
        some (zI 0, h20))))))
      (zoR (zgR h2 p0 777) fun r21 =>
      zbI (zv 12 212 [zR p0, zI (i32 0), zI (i32 9)] h2) fun x23 h22 =>
      zoH (zaS h22 r21 (i32 3) x23) fun h24 =>
      zbV (zv 12 214 [zR p0] h24) fun h25 =>
      some (zI 0, h25)) := U_218 (zst [43]) 106 0 [yR p0, none, none, none] [] h
set_option maxRecDepth 100000 in
theorem e_Model_duchyLine_43 (p0 : Option Nat) (a1 : Int32) (a2 : Int32) (h : zHeap) : zr 218 43 [yR p0, yI a1, yI a2, none] [] h =
    zbI (zv 12 212 [zR p0, zI (i32 1), zI (i32 9)] h) fun x2 h1 =>
    zoR (zgR h1 p0 777) fun r3 =>
    zoI (zaI h1 r3 (i32 1) 0) fun x4 =>
    zif (decide (x4 < (i32 4)))
      (zoR (zgR h1 p0 777) fun r5 =>
      zoR (zgR h1 p0 777) fun r6 =>
      zoI (zaI h1 r6 (i32 1) 0) fun x7 =>
      zoH (zaS h1 r5 ((i32 16) + x7) x2) fun h8 =>
      zoR (zgR h8 p0 777) fun r9 =>
      zoI (zaI h8 r9 (i32 1) 0) fun x10 =>
      zoH (zaS h8 r9 (i32 1) (x10 + (i32 1))) fun h11 =>
      zbV (zv 12 214 [zR p0] h11) fun h12 =>
      some (zI 0, h12))
      (zbV (zv 12 214 [zR p0] h1) fun h13 =>
      some (zI 0, h13)) := U_218 (zst [43]) 106 43 [yR p0, yI a1, yI a2, none] [] h
/-! 219 Model_yearLine ()V -/
set_option maxRecDepth 100000 in
theorem e_Model_yearLine (p0 : Option Nat) (h : zHeap) : zc 219 [zR p0] h =
    zoI (zgI h p0 772) fun x1 =>
    zbI (zv 12 213 [zR p0, zI (i32 5), zI (i32 10)] h) fun x3 h2 =>
    zoI (zgI h2 p0 776) fun x4 =>
    zif (decide (x4 ≠ 0))
      (zr 219 23 [yR p0, yI x1, yI (x3 - (i32 5)), none, none, none, none, none, none, none] [] h2)
      (zoR (zgR h2 p0 777) fun r5 =>
      zoI (zaI h2 r5 (i32 0) 0) fun x6 =>
      zif (decide (x6 < (i32 40)))
        (zr 219 23 [yR p0, yI x1, yI (x3 - (i32 5)), none, none, none, none, none, none, none] [] h2)
        (zbV (zv 12 211 [zR p0, zI (i32 3), zI x1] h2) fun h7 =>
        zr 219 23 [yR p0, yI x1, yI (x3 - (i32 5)), none, none, none, none, none, none, none] [] h7)) := U_219 (zst [23, 37, 49, 81, 94, 95, 105]) 170 0 [yR p0, none, none, none, none, none, none, none, none, none] [] h
set_option maxRecDepth 100000 in
theorem e_Model_yearLine_23 (p0 : Option Nat) (a1 : Int32) (a2 : Int32) (h : zHeap) : zr 219 23 [yR p0, yI a1, yI a2, none, none, none, none, none, none, none] [] h =
    zoR (zgR h p0 777) fun r1 =>
    zoI (zaI h r1 (i32 0) 0) fun x2 =>
    zif (decide ((i32 40) ≤ x2))
      (zr 219 37 [yR p0, yI a1, yI a2, none, none, none, none, none, none, none] [zI (i32 39), zI (i32 6), zI (i32 1)] h)
      (zoR (zgR h p0 777) fun r3 =>
      zoI (zaI h r3 (i32 0) 0) fun x4 =>
      zr 219 37 [yR p0, yI a1, yI a2, none, none, none, none, none, none, none] [zI x4, zI (i32 6), zI (i32 1)] h) := U_219 (zst [23, 37, 49, 81, 94, 95, 105]) 170 23 [yR p0, yI a1, yI a2, none, none, none, none, none, none, none] [] h
set_option maxRecDepth 100000 in
theorem e_Model_yearLine_37 (p0 : Option Nat) (a1 : Int32) (a2 : Int32) (s0 : Int32) (s1 : Int32) (s2 : Int32) (h : zHeap) : zr 219 37 [yR p0, yI a1, yI a2, none, none, none, none, none, none, none] [zI s2, zI s1, zI s0] h =
    zoR (zgR h p0 777) fun r1 =>
    zoI (zaI h r1 (i32 0) 0) fun x2 =>
    zif (decide ((i32 40) ≤ x2))
      (zr 219 49 [yR p0, yI a1, yI a2, yI (s0 + (s1 * s2)), none, none, none, none, none, none] [zI (i32 0)] h)
      (zr 219 49 [yR p0, yI a1, yI a2, yI (s0 + (s1 * s2)), none, none, none, none, none, none] [zI (i32 1)] h) := U_219 (zst [23, 37, 49, 81, 94, 95, 105]) 170 37 [yR p0, yI a1, yI a2, none, none, none, none, none, none, none] [zI s2, zI s1, zI s0] h
set_option maxRecDepth 100000 in
theorem e_Model_yearLine_49 (p0 : Option Nat) (a1 : Int32) (a2 : Int32) (a3 : Int32) (s0 : Int32) (h : zHeap) : zr 219 49 [yR p0, yI a1, yI a2, yI a3, none, none, none, none, none, none] [zI s0] h =
    zif (decide (a2 ≠ (i32 5)))
      (zif (decide (a2 ≠ (i32 4)))
        (zbI (zv 12 212 [zR p0, zI (i32 0), zI (i32 5)] h) fun x2 h1 =>
        zif (decide (a2 ≤ (i32 1)))
          (zif (decide (a2 ≠ 0))
            (zbI (zv 12 216 [zR p0, zI (i32 5), zI x2] h1) fun x4 h3 =>
            zr 219 81 [yR p0, yI a1, yI a2, yI a3, yI s0, yI x2, none, none, none, none] [zI x4] h3)
            (zbI (zv 12 212 [zR p0, zI (i32 0), zI (i32 3)] h1) fun x6 h5 =>
            zr 219 81 [yR p0, yI a1, yI a2, yI a3, yI s0, yI x2, none, none, none, none] [zI x6] h5))
          (zr 219 81 [yR p0, yI a1, yI a2, yI a3, yI s0, yI x2, none, none, none, none] [zI (i32 (-1))] h1))
        (zbI (zv 12 212 [zR p0, zI (i32 0), zI (i32 9)] h) fun x8 h7 =>
        zif (decide (a2 ≤ (i32 1)))
          (zif (decide (a2 ≠ 0))
            (zbI (zv 12 216 [zR p0, zI (i32 5), zI x8] h7) fun x10 h9 =>
            zr 219 81 [yR p0, yI a1, yI a2, yI a3, yI s0, yI x8, none, none, none, none] [zI x10] h9)
            (zbI (zv 12 212 [zR p0, zI (i32 0), zI (i32 3)] h7) fun x12 h11 =>
            zr 219 81 [yR p0, yI a1, yI a2, yI a3, yI s0, yI x8, none, none, none, none] [zI x12] h11))
          (zr 219 81 [yR p0, yI a1, yI a2, yI a3, yI s0, yI x8, none, none, none, none] [zI (i32 (-1))] h7)))
      (zif (decide (a2 ≤ (i32 1)))
        (zif (decide (a2 ≠ 0))
          (zbI (zv 12 216 [zR p0, zI (i32 5), zI (i32 (-1))] h) fun x14 h13 =>
          zr 219 81 [yR p0, yI a1, yI a2, yI a3, yI s0, yI (i32 (-1)), none, none, none, none] [zI x14] h13)
          (zbI (zv 12 212 [zR p0, zI (i32 0), zI (i32 3)] h) fun x16 h15 =>
          zr 219 81 [yR p0, yI a1, yI a2, yI a3, yI s0, yI (i32 (-1)), none, none, none, none] [zI x16] h15))
        (zr 219 81 [yR p0, yI a1, yI a2, yI a3, yI s0, yI (i32 (-1)), none, none, none, none] [zI (i32 (-1))] h)) := U_219 (zst [23, 37, 49, 81, 94, 95, 105]) 170 49 [yR p0, yI a1, yI a2, yI a3, none, none, none, none, none, none] [zI s0] h
set_option maxRecDepth 100000 in
theorem e_Model_yearLine_81 (p0 : Option Nat) (a1 : Int32) (a2 : Int32) (a3 : Int32) (a4 : Int32) (a5 : Int32) (s0 : Int32) (h : zHeap) : zr 219 81 [yR p0, yI a1, yI a2, yI a3, yI a4, yI a5, none, none, none, none] [zI s0] h =
    zif (decide (a2 ≤ (i32 1)))
      (zif (decide (a2 ≠ 0))
        (zr 219 94 [yR p0, yI a1, yI a2, yI a3, yI a4, yI a5, yI s0, none, none, none] [zI (i32 3), zI (i32 0), zR p0] h)
        (zr 219 94 [yR p0, yI a1, yI a2, yI a3, yI a4, yI a5, yI s0, none, none, none] [zI (i32 7), zI (i32 0), zR p0] h))
      (zr 219 95 [yR p0, yI a1, yI a2, yI a3, yI a4, yI a5, yI s0, none, none, none] [zI (i32 (-1))] h) := U_219 (zst [23, 37, 49, 81, 94, 95, 105]) 170 81 [yR p0, yI a1, yI a2, yI a3, yI a4, yI a5, none, none, none, none] [zI s0] h
set_option maxRecDepth 100000 in
theorem e_Model_yearLine_94 (p0 : Option Nat) (a1 : Int32) (a2 : Int32) (a3 : Int32) (a4 : Int32) (a5 : Int32) (a6 : Int32) (q0 : Option Nat) (s1 : Int32) (s2 : Int32) (h : zHeap) : zr 219 94 [yR p0, yI a1, yI a2, yI a3, yI a4, yI a5, yI a6, none, none, none] [zI s2, zI s1, zR q0] h =
    zbI (zv 12 212 [zR q0, zI s1, zI s2] h) fun x2 h1 =>
    zr 219 95 [yR p0, yI a1, yI a2, yI a3, yI a4, yI a5, yI a6, none, none, none] [zI x2] h1 := U_219 (zst [23, 37, 49, 81, 94, 95, 105]) 170 94 [yR p0, yI a1, yI a2, yI a3, yI a4, yI a5, yI a6, none, none, none] [zI s2, zI s1, zR q0] h
set_option maxRecDepth 100000 in
theorem e_Model_yearLine_95 (p0 : Option Nat) (a1 : Int32) (a2 : Int32) (a3 : Int32) (a4 : Int32) (a5 : Int32) (a6 : Int32) (s0 : Int32) (h : zHeap) : zr 219 95 [yR p0, yI a1, yI a2, yI a3, yI a4, yI a5, yI a6, none, none, none] [zI s0] h =
    zif (decide (a2 ≠ (i32 1)))
      (zr 219 105 [yR p0, yI a1, yI a2, yI a3, yI a4, yI a5, yI a6, yI s0, none, none] [zI (i32 (-1))] h)
      (zbI (zv 12 216 [zR p0, zI (i32 3), zI s0] h) fun x2 h1 =>
      zr 219 105 [yR p0, yI a1, yI a2, yI a3, yI a4, yI a5, yI a6, yI s0, none, none] [zI x2] h1) := U_219 (zst [23, 37, 49, 81, 94, 95, 105]) 170 95 [yR p0, yI a1, yI a2, yI a3, yI a4, yI a5, yI a6, none, none, none] [zI s0] h
set_option maxRecDepth 100000 in
theorem e_Model_yearLine_105 (p0 : Option Nat) (a1 : Int32) (a2 : Int32) (a3 : Int32) (a4 : Int32) (a5 : Int32) (a6 : Int32) (a7 : Int32) (s0 : Int32) (h : zHeap) : zr 219 105 [yR p0, yI a1, yI a2, yI a3, yI a4, yI a5, yI a6, yI a7, none, none] [zI s0] h =
    zif (decide (a2 ≠ (i32 1)))
      (zif (decide (a4 = 0))
        (zbV (zv 12 214 [zR p0] h) fun h1 =>
        some (zI 0, h1))
        (zoR (zgR h p0 777) fun r2 =>
        zoH (zaS h r2 a3 a2) fun h3 =>
        zoR (zgR h3 p0 777) fun r4 =>
        zoH (zaS h3 r4 (a3 + (i32 1)) a5) fun h5 =>
        zoR (zgR h5 p0 777) fun r6 =>
        zoH (zaS h5 r6 (a3 + (i32 2)) a6) fun h7 =>
        zoR (zgR h7 p0 777) fun r8 =>
        zoH (zaS h7 r8 (a3 + (i32 3)) a7) fun h9 =>
        zoR (zgR h9 p0 777) fun r10 =>
        zoH (zaS h9 r10 (a3 + (i32 4)) s0) fun h11 =>
        zoR (zgR h11 p0 777) fun r12 =>
        zoH (zaS h11 r12 (a3 + (i32 5)) (i32 (-1))) fun h13 =>
        zoR (zgR h13 p0 777) fun r14 =>
        zoI (zaI h13 r14 (i32 0) 0) fun x15 =>
        zoH (zaS h13 r14 (i32 0) (x15 + (i32 1))) fun h16 =>
        zbV (zv 12 214 [zR p0] h16) fun h17 =>
        some (zI 0, h17)))
      (zbI (zv 12 212 [zR p0, zI (i32 0), zI (i32 7)] h) fun x19 h18 =>
      zif (decide (a4 = 0))
        (zbV (zv 12 214 [zR p0] h18) fun h20 =>
        some (zI 0, h20))
        (zoR (zgR h18 p0 777) fun r21 =>
        zoH (zaS h18 r21 a3 a2) fun h22 =>
        zoR (zgR h22 p0 777) fun r23 =>
        zoH (zaS h22 r23 (a3 + (i32 1)) a5) fun h24 =>
        zoR (zgR h24 p0 777) fun r25 =>
        zoH (zaS h24 r25 (a3 + (i32 2)) a6) fun h26 =>
        zoR (zgR h26 p0 777) fun r27 =>
        zoH (zaS h26 r27 (a3 + (i32 3)) a7) fun h28 =>
        zoR (zgR h28 p0 777) fun r29 =>
        zoH (zaS h28 r29 (a3 + (i32 4)) s0) fun h30 =>
        zoR (zgR h30 p0 777) fun r31 =>
        zoH (zaS h30 r31 (a3 + (i32 5)) x19) fun h32 =>
        zoR (zgR h32 p0 777) fun r33 =>
        zoI (zaI h32 r33 (i32 0) 0) fun x34 =>
        zoH (zaS h32 r33 (i32 0) (x34 + (i32 1))) fun h35 =>
        zbV (zv 12 214 [zR p0] h35) fun h36 =>
        some (zI 0, h36))) := U_219 (zst [23, 37, 49, 81, 94, 95, 105]) 170 105 [yR p0, yI a1, yI a2, yI a3, yI a4, yI a5, yI a6, yI a7, none, none] [zI s0] h
/-! 220 Model_logLine ()V -/
set_option maxRecDepth 100000 in
theorem e_Model_logLine (p0 : Option Nat) (h : zHeap) : zc 220 [zR p0] h =
    zoI (zgI h p0 772) fun x1 =>
    zbI (zv 12 213 [zR p0, zI (i32 14), zI (i32 15)] h) fun x3 h2 =>
    zoI (zgI h2 p0 776) fun x4 =>
    zif (decide (x4 ≠ 0))
      (zr 220 23 [yR p0, yI x1, yI (x3 - (i32 14)), none, none, none, none] [] h2)
      (zoR (zgR h2 p0 777) fun r5 =>
      zoI (zaI h2 r5 (i32 0) 0) fun x6 =>
      zif (decide (x6 < (i32 8)))
        (zr 220 23 [yR p0, yI x1, yI (x3 - (i32 14)), none, none, none, none] [] h2)
        (zbV (zv 12 211 [zR p0, zI (i32 3), zI x1] h2) fun h7 =>
        zr 220 23 [yR p0, yI x1, yI (x3 - (i32 14)), none, none, none, none] [] h7)) := U_220 (zst [23]) 89 0 [yR p0, none, none, none, none, none, none] [] h
set_option maxRecDepth 100000 in
theorem e_Model_logLine_23 (p0 : Option Nat) (a1 : Int32) (a2 : Int32) (h : zHeap) : zr 220 23 [yR p0, yI a1, yI a2, none, none, none, none] [] h =
    zbI (zv 12 212 [zR p0, zI (i32 0), zI (i32 3)] h) fun x2 h1 =>
    zbI (zv 12 212 [zR p0, zI (i32 0), zI (i32 7)] h1) fun x4 h3 =>
    zif (decide (a2 ≠ (i32 1)))
      (zbI (zv 12 212 [zR p0, zI (i32 0), zI (i32 7)] h3) fun x6 h5 =>
      zoR (zgR h5 p0 777) fun r7 =>
      zoI (zaI h5 r7 (i32 0) 0) fun x8 =>
      zif (decide ((i32 8) ≤ x8))
        (zbV (zv 12 214 [zR p0] h5) fun h9 =>
        some (zI 0, h9))
        (zoR (zgR h5 p0 777) fun r10 =>
        zoI (zaI h5 r10 (i32 0) 0) fun x11 =>
        zoR (zgR h5 p0 777) fun r12 =>
        zoH (zaS h5 r12 ((i32 1) + ((i32 3) * x11)) x2) fun h13 =>
        zoR (zgR h13 p0 777) fun r14 =>
        zoH (zaS h13 r14 (((i32 1) + ((i32 3) * x11)) + (i32 1)) x4) fun h15 =>
        zoR (zgR h15 p0 777) fun r16 =>
        zoH (zaS h15 r16 (((i32 1) + ((i32 3) * x11)) + (i32 2)) x6) fun h17 =>
        zoR (zgR h17 p0 777) fun r18 =>
        zoI (zaI h17 r18 (i32 0) 0) fun x19 =>
        zoH (zaS h17 r18 (i32 0) (x19 + (i32 1))) fun h20 =>
        zbV (zv 12 214 [zR p0] h20) fun h21 =>
        some (zI 0, h21)))
      (zoR (zgR h3 p0 777) fun r22 =>
      zoI (zaI h3 r22 (i32 0) 0) fun x23 =>
      zif (decide ((i32 8) ≤ x23))
        (zbV (zv 12 214 [zR p0] h3) fun h24 =>
        some (zI 0, h24))
        (zoR (zgR h3 p0 777) fun r25 =>
        zoI (zaI h3 r25 (i32 0) 0) fun x26 =>
        zoR (zgR h3 p0 777) fun r27 =>
        zoH (zaS h3 r27 ((i32 1) + ((i32 3) * x26)) x2) fun h28 =>
        zoR (zgR h28 p0 777) fun r29 =>
        zoH (zaS h28 r29 (((i32 1) + ((i32 3) * x26)) + (i32 1)) x4) fun h30 =>
        zoR (zgR h30 p0 777) fun r31 =>
        zoH (zaS h30 r31 (((i32 1) + ((i32 3) * x26)) + (i32 2)) (i32 (-1))) fun h32 =>
        zoR (zgR h32 p0 777) fun r33 =>
        zoI (zaI h32 r33 (i32 0) 0) fun x34 =>
        zoH (zaS h32 r33 (i32 0) (x34 + (i32 1))) fun h35 =>
        zbV (zv 12 214 [zR p0] h35) fun h36 =>
        some (zI 0, h36))) := U_220 (zst [23]) 89 23 [yR p0, yI a1, yI a2, none, none, none, none] [] h
/-! 221 Model_placeOf (II)I -/
set_option maxRecDepth 100000 in
theorem e_Model_placeOf (a0 : Int32) (a1 : Int32) (h : zHeap) : zc 221 [zI a0, zI a1] h =
    zif (decide (a0 ≠ 0))
      (zif (decide (a0 ≠ (i32 1)))
        (some (zI ((i32 1180) + ((i32 25) * a1)), h))
        (some (zI ((i32 698) + ((i32 241) * a1)), h)))
      (some (zI ((i32 610) + ((i32 44) * a1)), h)) := U_221 (zst []) 24 0 [yI a0, yI a1] [] h
/-! 222 Model_sizeOf (I)I -/
set_option maxRecDepth 100000 in
theorem e_Model_sizeOf (a0 : Int32) (h : zHeap) : zc 222 [zI a0] h =
    zif (decide (a0 ≠ 0))
      (zif (decide (a0 ≠ (i32 1)))
        (some (zI (i32 25), h))
        (some (zI (i32 241), h)))
      (some (zI (i32 44), h)) := U_222 (zst []) 12 0 [yI a0] [] h
/-! 223 Model_isOf (II)Z -/
set_option maxRecDepth 100000 in
theorem e_Model_isOf (p0 : Option Nat) (a1 : Int32) (a2 : Int32) (h : zHeap) : zc 223 [zR p0, zI a1, zI a2] h =
    zoR (zgR h p0 768) fun r1 =>
    zoI (zaI h r1 a1 0) fun x2 =>
    zbI (zc 200 [zI a2, zI (i32 0), zI (x2 - (i32 1))] h) fun x4 h3 =>
    zrz x4 h3 := U_223 (zst []) 11 0 [yR p0, yI a1, yI a2] [] h
/-! 224 Model_text (II)I -/
set_option maxRecDepth 100000 in
theorem e_Model_text (p0 : Option Nat) (a1 : Int32) (a2 : Int32) (h : zHeap) : zc 224 [zR p0, zI a1, zI a2] h =
    zoR (zgR h p0 768) fun r1 =>
    zoI (zaI h r1 (i32 4) 0) fun x2 =>
    zoH (zpI h p0 770 x2) fun h3 =>
    zoR (zgR h3 p0 768) fun r4 =>
    zoH (zaS h3 r4 (i32 4) (i32 0)) fun h5 =>
    zoR (zgR h5 p0 768) fun r6 =>
    zoH (zaS h5 r6 (i32 5) (i32 0)) fun h7 =>
    zoR (zgR h7 p0 768) fun r8 =>
    zoH (zaS h7 r8 (i32 6) (i32 (-1))) fun h9 =>
    zbI (zc 200 [zI a1, zI (i32 0), zI (i32 2)] h9) fun x11 h10 =>
    zif (decide (x11 = 0))
      (some (zI (i32 (-2)), h10))
      (zif (decide (a2 ≠ (i32 (-1))))
        (zbI (zv 12 223 [zR p0, zI a1, zI a2] h10) fun x13 h12 =>
        zif (decide (x13 ≠ 0))
          (zoH (zpI h12 p0 771 (i32 0)) fun h14 =>
          zoH (zpZ h14 p0 776 (i32 0)) fun h15 =>
          zr 224 51 [yR p0, yI a1, yI a2, yI (i32 0), none] [] h15)
          (some (zI (i32 (-2)), h12)))
        (zoR (zgR h10 p0 768) fun r16 =>
        zoI (zaI h10 r16 a1 0) fun x17 =>
        zif (decide (x17 < (i32 2)))
          (zoH (zpI h10 p0 771 (i32 0)) fun h18 =>
          zoH (zpZ h18 p0 776 (i32 0)) fun h19 =>
          zr 224 51 [yR p0, yI a1, yI a2, yI (i32 0), none] [] h19)
          (some (zI (i32 (-2)), h10)))) := U_224 (zst [51, 76, 123]) 144 0 [yR p0, yI a1, yI a2, none, none] [] h
set_option maxRecDepth 100000 in
theorem e_Model_text_51 (p0 : Option Nat) (a1 : Int32) (a2 : Int32) (a3 : Int32) (h : zHeap) : zr 224 51 [yR p0, yI a1, yI a2, yI a3, none] [] h =
    zif (decide ((i32 241) ≤ a3))
      (zbV (zv 12 209 [zR p0] h) fun h1 =>
      zr 224 76 [yR p0, yI a1, yI a2, yI a3, none] [] h1)
      (zoR (zgR h p0 777) fun r2 =>
      zif (decide (a1 ≠ 0))
        (zoH (zaS h r2 a3 (i32 0)) fun h3 =>
        zr 224 51 [yR p0, yI a1, yI a2, yI (a3 + i32 1), none] [] h3)
        (zbI (zc 200 [zI a3, zI (i32 36), zI (i32 43)] h) fun x5 h4 =>
        zif (decide (x5 = 0))
          (zoH (zaS h4 r2 a3 (i32 0)) fun h6 =>
          zr 224 51 [yR p0, yI a1, yI a2, yI (a3 + i32 1), none] [] h6)
          (zoI (if (i32 2) = 0 then none else some (zrem (a3 - (i32 36)) (i32 2))) fun x7 =>
          zoH (zaS h4 r2 a3 x7) fun h8 =>
          zr 224 51 [yR p0, yI a1, yI a2, yI (a3 + i32 1), none] [] h8))) := U_224 (zst [51, 76, 123]) 144 51 [yR p0, yI a1, yI a2, yI a3, none] [] h
set_option maxRecDepth 100000 in
theorem e_Model_text_76 (p0 : Option Nat) (a1 : Int32) (a2 : Int32) (a3 : Int32) (h : zHeap) : zr 224 76 [yR p0, yI a1, yI a2, yI a3, none] [] h =
    zoI (zgI h p0 776) fun x1 =>
    zif (decide (x1 ≠ 0))
      (zoR (zgR h p0 768) fun r2 =>
      zoI (zaI h r2 (i32 5) 0) fun x3 =>
      zif (decide (x3 = 0))
        (zif (decide (a2 ≠ (i32 (-1))))
          (zif (decide (a2 ≠ (i32 (-1))))
            (zr 224 123 [yR p0, yI a1, yI a2, yI a2, yI (i32 0)] [] h)
            (zoR (zgR h p0 768) fun r4 =>
            zoI (zaI h r4 a1 0) fun x5 =>
            zoH (zaS h r4 a1 (x5 + (i32 1))) fun h6 =>
            zr 224 123 [yR p0, yI a1, yI a2, yI a2, yI (i32 0)] [] h6))
          (zoR (zgR h p0 768) fun r7 =>
          zoI (zaI h r7 a1 0) fun x8 =>
          zif (decide (a2 ≠ (i32 (-1))))
            (zr 224 123 [yR p0, yI a1, yI a2, yI x8, yI (i32 0)] [] h)
            (zoR (zgR h p0 768) fun r9 =>
            zoI (zaI h r9 a1 0) fun x10 =>
            zoH (zaS h r9 a1 (x10 + (i32 1))) fun h11 =>
            zr 224 123 [yR p0, yI a1, yI a2, yI x8, yI (i32 0)] [] h11)))
        (some (zI (i32 (-1)), h)))
      (zoI (zgI h p0 773) fun x12 =>
      zif (decide (x12 = 0))
        (zoR (zgR h p0 768) fun r13 =>
        zoI (zaI h r13 (i32 5) 0) fun x14 =>
        zif (decide (x14 = 0))
          (zif (decide (a2 ≠ (i32 (-1))))
            (zif (decide (a2 ≠ (i32 (-1))))
              (zr 224 123 [yR p0, yI a1, yI a2, yI a2, yI (i32 0)] [] h)
              (zoR (zgR h p0 768) fun r15 =>
              zoI (zaI h r15 a1 0) fun x16 =>
              zoH (zaS h r15 a1 (x16 + (i32 1))) fun h17 =>
              zr 224 123 [yR p0, yI a1, yI a2, yI a2, yI (i32 0)] [] h17))
            (zoR (zgR h p0 768) fun r18 =>
            zoI (zaI h r18 a1 0) fun x19 =>
            zif (decide (a2 ≠ (i32 (-1))))
              (zr 224 123 [yR p0, yI a1, yI a2, yI x19, yI (i32 0)] [] h)
              (zoR (zgR h p0 768) fun r20 =>
              zoI (zaI h r20 a1 0) fun x21 =>
              zoH (zaS h r20 a1 (x21 + (i32 1))) fun h22 =>
              zr 224 123 [yR p0, yI a1, yI a2, yI x19, yI (i32 0)] [] h22)))
          (some (zI (i32 (-1)), h)))
        (zif (decide (a1 = i32 0))
          (zbV (zv 12 218 [zR p0] h) fun h23 =>
          zr 224 76 [yR p0, yI a1, yI a2, yI a3, none] [] h23)
          (zif (decide (a1 = i32 1))
          (zbV (zv 12 219 [zR p0] h) fun h24 =>
          zr 224 76 [yR p0, yI a1, yI a2, yI a3, none] [] h24)
          (zbV (zv 12 220 [zR p0] h) fun h25 =>
          zr 224 76 [yR p0, yI a1, yI a2, yI a3, none] [] h25)))) := U_224 (zst [51, 76, 123]) 144 76 [yR p0, yI a1, yI a2, yI a3, none] [] h
set_option maxRecDepth 100000 in
theorem e_Model_text_123 (p0 : Option Nat) (a1 : Int32) (a2 : Int32) (a3 : Int32) (a4 : Int32) (h : zHeap) : zr 224 123 [yR p0, yI a1, yI a2, yI a3, yI a4] [] h =
    zbI (zc 222 [zI a1] h) fun x2 h1 =>
    zif (decide (x2 ≤ a4))
      (some (zI a3, h1))
      (zoR (zgR h1 p0 768) fun r3 =>
      zbI (zc 221 [zI a1, zI a3] h1) fun x5 h4 =>
      zoR (zgR h4 p0 777) fun r6 =>
      zoI (zaI h4 r6 a4 0) fun x7 =>
      zoH (zaS h4 r3 (x5 + a4) x7) fun h8 =>
      zr 224 123 [yR p0, yI a1, yI a2, yI a3, yI (a4 + i32 1)] [] h8) := U_224 (zst [51, 76, 123]) 144 123 [yR p0, yI a1, yI a2, yI a3, yI a4] [] h
/-! 225 Model_fault (I)I -/
set_option maxRecDepth 100000 in
theorem e_Model_fault (p0 : Option Nat) (a1 : Int32) (h : zHeap) : zc 225 [zR p0, zI a1] h =
    zif (decide (a1 ≠ 0))
      (zif (decide (a1 ≠ (i32 1)))
        (some (zI (i32 (-1)), h))
        (zoR (zgR h p0 768) fun r1 =>
        zoI (zaI h r1 (i32 6) 0) fun x2 =>
        some (zI x2, h)))
      (zoR (zgR h p0 768) fun r3 =>
      zoI (zaI h r3 (i32 5) 0) fun x4 =>
      some (zI x4, h)) := U_225 (zst []) 18 0 [yR p0, yI a1] [] h
/-! 226 Model_isDuchy (I)Z -/
set_option maxRecDepth 100000 in
theorem e_Model_isDuchy (p0 : Option Nat) (a1 : Int32) (h : zHeap) : zc 226 [zR p0, zI a1] h =
    zbI (zv 12 223 [zR p0, zI (i32 0), zI a1] h) fun x2 h1 =>
    zif (decide (x2 ≠ 0))
      (zbI (zc 221 [zI (i32 0), zI a1] h1) fun x4 h3 =>
      zoH (zpI h3 p0 778 x4) fun h5 =>
      zoR (zgR h5 p0 768) fun r6 =>
      zoI (zgI h5 p0 778) fun x7 =>
      zoI (zaI h5 r6 x7 0) fun x8 =>
      zoH (zpI h5 p0 779 x8) fun h9 =>
      zoR (zgR h9 p0 768) fun r10 =>
      zoI (zgI h9 p0 778) fun x11 =>
      zoI (zaI h9 r10 (x11 + (i32 1)) 0) fun x12 =>
      zoH (zpI h9 p0 780 x12) fun h13 =>
      zoR (zgR h13 p0 768) fun r14 =>
      zoI (zgI h13 p0 778) fun x15 =>
      zoI (zaI h13 r14 (x15 + (i32 2)) 0) fun x16 =>
      zoH (zpI h13 p0 781 x16) fun h17 =>
      zrz (i32 1) h17)
      (zrz (i32 0) h1) := U_226 (zst []) 40 0 [yR p0, yI a1] [] h
/-! 227 Model_isReed (I)Z -/
set_option maxRecDepth 100000 in
theorem e_Model_isReed (p0 : Option Nat) (a1 : Int32) (h : zHeap) : zc 227 [zR p0, zI a1] h =
    zoI (zgI h p0 779) fun x1 =>
    zbI (zc 200 [zI a1, zI (i32 0), zI (x1 - (i32 1))] h) fun x3 h2 =>
    zrz x3 h2 := U_227 (zst []) 9 0 [yR p0, yI a1] [] h
/-! 228 Model_isPlayer (I)Z -/
set_option maxRecDepth 100000 in
theorem e_Model_isPlayer (p0 : Option Nat) (a1 : Int32) (h : zHeap) : zc 228 [zR p0, zI a1] h =
    zoI (zgI h p0 780) fun x1 =>
    zbI (zc 200 [zI a1, zI (i32 0), zI (x1 - (i32 1))] h) fun x3 h2 =>
    zrz x3 h2 := U_228 (zst []) 9 0 [yR p0, yI a1] [] h
/-! 229 Model_isQuestion (I)Z -/
set_option maxRecDepth 100000 in
theorem e_Model_isQuestion (p0 : Option Nat) (a1 : Int32) (h : zHeap) : zc 229 [zR p0, zI a1] h =
    zoI (zgI h p0 781) fun x1 =>
    zbI (zc 200 [zI a1, zI (i32 0), zI (x1 - (i32 1))] h) fun x3 h2 =>
    zrz x3 h2 := U_229 (zst []) 9 0 [yR p0, yI a1] [] h
/-! 230 Model_wetOf (I)I -/
set_option maxRecDepth 100000 in
theorem e_Model_wetOf (p0 : Option Nat) (a1 : Int32) (h : zHeap) : zc 230 [zR p0, zI a1] h =
    zoR (zgR h p0 768) fun r1 =>
    zoI (zgI h p0 778) fun x2 =>
    zoI (zaI h r1 ((x2 + (i32 4)) + ((i32 2) * a1)) 0) fun x3 =>
    some (zI x3, h) := U_230 (zst []) 13 0 [yR p0, yI a1] [] h
/-! 231 Model_keyOf (I)I -/
set_option maxRecDepth 100000 in
theorem e_Model_keyOf (p0 : Option Nat) (a1 : Int32) (h : zHeap) : zc 231 [zR p0, zI a1] h =
    zoR (zgR h p0 768) fun r1 =>
    zoI (zgI h p0 778) fun x2 =>
    zoI (zaI h r1 (((x2 + (i32 4)) + (i32 1)) + ((i32 2) * a1)) 0) fun x3 =>
    some (zI x3, h) := U_231 (zst []) 15 0 [yR p0, yI a1] [] h
/-! 232 Model_breathOf (I)I -/
set_option maxRecDepth 100000 in
theorem e_Model_breathOf (p0 : Option Nat) (a1 : Int32) (h : zHeap) : zc 232 [zR p0, zI a1] h =
    zoR (zgR h p0 768) fun r1 =>
    zoI (zgI h p0 778) fun x2 =>
    zoI (zaI h r1 ((x2 + (i32 16)) + a1) 0) fun x3 =>
    some (zI x3, h) := U_232 (zst []) 11 0 [yR p0, yI a1] [] h
/-! 233 Model_depthOf (I)I -/
set_option maxRecDepth 100000 in
theorem e_Model_depthOf (p0 : Option Nat) (a1 : Int32) (h : zHeap) : zc 233 [zR p0, zI a1] h =
    zoR (zgR h p0 768) fun r1 =>
    zoI (zgI h p0 778) fun x2 =>
    zoI (zaI h r1 ((x2 + (i32 20)) + ((i32 2) * a1)) 0) fun x3 =>
    some (zI x3, h) := U_233 (zst []) 13 0 [yR p0, yI a1] [] h
/-! 234 Model_kindOf (I)I -/
set_option maxRecDepth 100000 in
theorem e_Model_kindOf (p0 : Option Nat) (a1 : Int32) (h : zHeap) : zc 234 [zR p0, zI a1] h =
    zoR (zgR h p0 768) fun r1 =>
    zoI (zgI h p0 778) fun x2 =>
    zoI (zaI h r1 (((x2 + (i32 20)) + (i32 1)) + ((i32 2) * a1)) 0) fun x3 =>
    some (zI x3, h) := U_234 (zst []) 15 0 [yR p0, yI a1] [] h
/-! 235 Model_duchy (II)I -/
set_option maxRecDepth 100000 in
theorem e_Model_duchy (p0 : Option Nat) (a1 : Int32) (a2 : Int32) (h : zHeap) : zc 235 [zR p0, zI a1, zI a2] h =
    zbI (zv 12 226 [zR p0, zI a1] h) fun x2 h1 =>
    zif (decide (x2 ≠ 0))
      (zbI (zc 200 [zI a2, zI (i32 0), zI (i32 3)] h1) fun x4 h3 =>
      zif (decide (x4 = 0))
        (zoI (if (i32 10) = 0 then none else some (zrem a2 (i32 10))) fun x5 =>
        zoI (if (i32 10) = 0 then none else some (a2 / (i32 10))) fun x6 =>
        zif (decide (x6 = i32 1))
          (zbI (zv 12 227 [zR p0, zI x5] h3) fun x8 h7 =>
          zif (decide (x8 = 0))
            (some (zI (i32 (-1)), h7))
            (zbI (zv 12 230 [zR p0, zI x5] h7) fun x10 h9 =>
            some (zI x10, h9)))
          (zif (decide (x6 = i32 2))
          (zbI (zv 12 227 [zR p0, zI x5] h3) fun x12 h11 =>
          zif (decide (x12 = 0))
            (some (zI (i32 (-1)), h11))
            (zbI (zv 12 231 [zR p0, zI x5] h11) fun x14 h13 =>
            some (zI x14, h13)))
          (zif (decide (x6 = i32 3))
          (zbI (zv 12 228 [zR p0, zI x5] h3) fun x16 h15 =>
          zif (decide (x16 = 0))
            (some (zI (i32 (-1)), h15))
            (zbI (zv 12 232 [zR p0, zI x5] h15) fun x18 h17 =>
            some (zI x18, h17)))
          (zif (decide (x6 = i32 4))
          (zbI (zv 12 229 [zR p0, zI x5] h3) fun x20 h19 =>
          zif (decide (x20 = 0))
            (some (zI (i32 (-1)), h19))
            (zbI (zv 12 233 [zR p0, zI x5] h19) fun x22 h21 =>
            some (zI x22, h21)))
          (zif (decide (x6 = i32 5))
          (zbI (zv 12 229 [zR p0, zI x5] h3) fun x24 h23 =>
          zif (decide (x24 = 0))
            (some (zI (i32 (-1)), h23))
            (zbI (zv 12 234 [zR p0, zI x5] h23) fun x26 h25 =>
            some (zI x26, h25)))
          (zif (decide (x6 = i32 6))
          (zif (decide ((i32 8) ≤ x5))
            (some (zI (i32 (-1)), h3))
            (zoR (zgR h3 p0 768) fun r27 =>
            zoI (zgI h3 p0 778) fun x28 =>
            zoI (zaI h3 r27 ((x28 + (i32 36)) + x5) 0) fun x29 =>
            some (zI x29, h3)))
          (some (zI (i32 (-1)), h3))))))))
        (zoR (zgR h3 p0 768) fun r30 =>
        zoI (zgI h3 p0 778) fun x31 =>
        zoI (zaI h3 r30 (x31 + a2) 0) fun x32 =>
        some (zI x32, h3)))
      (some (zI (i32 (-1)), h1)) := U_235 (zst []) 95 0 [yR p0, yI a1, yI a2, none] [] h
/-! 236 Model_lays (I)V -/
set_option maxRecDepth 100000 in
theorem e_Model_lays (p0 : Option Nat) (a1 : Int32) (h : zHeap) : zc 236 [zR p0, zI a1] h =
    zbI (zv 12 230 [zR p0, zI a1] h) fun x2 h1 =>
    zoH (zpI h1 p0 782 x2) fun h3 =>
    zbI (zv 12 231 [zR p0, zI a1] h3) fun x5 h4 =>
    zoH (zpI h4 p0 783 x5) fun h6 =>
    zoR (zgR h6 p0 768) fun r7 =>
    zoI (zgI h6 p0 778) fun x8 =>
    zoI (zaI h6 r7 (x8 + (i32 3)) 0) fun x9 =>
    zoH (zpI h6 p0 784 x9) fun h10 =>
    some (zI 0, h10) := U_236 (zst []) 21 0 [yR p0, yI a1] [] h
