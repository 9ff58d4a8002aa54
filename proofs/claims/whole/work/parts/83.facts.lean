/-! the statement's start -/
def zStr (i : Nat) : Term := .string "ReedOracles$Reader" ((zStrs.getD i (0, "")).1)
abbrev zFl : List Cond := flatC (Jvm.Cond.and given_1 narrow_1)
set_option maxRecDepth 100000 in
theorem zs_ex : ∀ i, i < 15 → Cond.exactly (zStr i) "java/lang/String" ∈ zFl := by
  intro i hi
  match i, hi with
  | 0, _ => exact List.mem_of_getElem? (i := 161) (by decide +kernel)
  | 1, _ => exact List.mem_of_getElem? (i := 169) (by decide +kernel)
  | 2, _ => exact List.mem_of_getElem? (i := 180) (by decide +kernel)
  | 3, _ => exact List.mem_of_getElem? (i := 205) (by decide +kernel)
  | 4, _ => exact List.mem_of_getElem? (i := 194) (by decide +kernel)
  | 5, _ => exact List.mem_of_getElem? (i := 218) (by decide +kernel)
  | 6, _ => exact List.mem_of_getElem? (i := 230) (by decide +kernel)
  | 7, _ => exact List.mem_of_getElem? (i := 244) (by decide +kernel)
  | 8, _ => exact List.mem_of_getElem? (i := 258) (by decide +kernel)
  | 9, _ => exact List.mem_of_getElem? (i := 273) (by decide +kernel)
  | 10, _ => exact List.mem_of_getElem? (i := 291) (by decide +kernel)
  | 11, _ => exact List.mem_of_getElem? (i := 310) (by decide +kernel)
  | 12, _ => exact List.mem_of_getElem? (i := 330) (by decide +kernel)
  | 13, _ => exact List.mem_of_getElem? (i := 348) (by decide +kernel)
  | 14, _ => exact List.mem_of_getElem? (i := 368) (by decide +kernel)
  | i + 15, hi => exact absurd hi (by omega)
set_option maxRecDepth 100000 in
theorem zs_co : ∀ i, i < 15 → Cond.eq (.field (zStr i) "java/lang/String" "coder" "B") (.int 0) ∈ zFl := by
  intro i hi
  match i, hi with
  | 0, _ => exact List.mem_of_getElem? (i := 162) (by decide +kernel)
  | 1, _ => exact List.mem_of_getElem? (i := 170) (by decide +kernel)
  | 2, _ => exact List.mem_of_getElem? (i := 181) (by decide +kernel)
  | 3, _ => exact List.mem_of_getElem? (i := 206) (by decide +kernel)
  | 4, _ => exact List.mem_of_getElem? (i := 195) (by decide +kernel)
  | 5, _ => exact List.mem_of_getElem? (i := 219) (by decide +kernel)
  | 6, _ => exact List.mem_of_getElem? (i := 231) (by decide +kernel)
  | 7, _ => exact List.mem_of_getElem? (i := 245) (by decide +kernel)
  | 8, _ => exact List.mem_of_getElem? (i := 259) (by decide +kernel)
  | 9, _ => exact List.mem_of_getElem? (i := 274) (by decide +kernel)
  | 10, _ => exact List.mem_of_getElem? (i := 292) (by decide +kernel)
  | 11, _ => exact List.mem_of_getElem? (i := 311) (by decide +kernel)
  | 12, _ => exact List.mem_of_getElem? (i := 331) (by decide +kernel)
  | 13, _ => exact List.mem_of_getElem? (i := 349) (by decide +kernel)
  | 14, _ => exact List.mem_of_getElem? (i := 369) (by decide +kernel)
  | i + 15, hi => exact absurd hi (by omega)
set_option maxRecDepth 100000 in
theorem zs_ar : ∀ i, i < 15 → Cond.arrayOf (.field (zStr i) "java/lang/String" "value" "[B") .byte ∈ zFl := by
  intro i hi
  match i, hi with
  | 0, _ => exact List.mem_of_getElem? (i := 163) (by decide +kernel)
  | 1, _ => exact List.mem_of_getElem? (i := 171) (by decide +kernel)
  | 2, _ => exact List.mem_of_getElem? (i := 182) (by decide +kernel)
  | 3, _ => exact List.mem_of_getElem? (i := 207) (by decide +kernel)
  | 4, _ => exact List.mem_of_getElem? (i := 196) (by decide +kernel)
  | 5, _ => exact List.mem_of_getElem? (i := 220) (by decide +kernel)
  | 6, _ => exact List.mem_of_getElem? (i := 232) (by decide +kernel)
  | 7, _ => exact List.mem_of_getElem? (i := 246) (by decide +kernel)
  | 8, _ => exact List.mem_of_getElem? (i := 260) (by decide +kernel)
  | 9, _ => exact List.mem_of_getElem? (i := 275) (by decide +kernel)
  | 10, _ => exact List.mem_of_getElem? (i := 293) (by decide +kernel)
  | 11, _ => exact List.mem_of_getElem? (i := 312) (by decide +kernel)
  | 12, _ => exact List.mem_of_getElem? (i := 332) (by decide +kernel)
  | 13, _ => exact List.mem_of_getElem? (i := 350) (by decide +kernel)
  | 14, _ => exact List.mem_of_getElem? (i := 370) (by decide +kernel)
  | i + 15, hi => exact absurd hi (by omega)
set_option maxRecDepth 100000 in
theorem zs_le : ∀ i, i < 15 → Cond.eq (.length (.field (zStr i) "java/lang/String" "value" "[B")) (.int (Int32.ofNat ((zTx.map List.length).getD i 0))) ∈ zFl := by
  intro i hi
  match i, hi with
  | 0, _ => exact List.mem_of_getElem? (i := 164) (by decide +kernel)
  | 1, _ => exact List.mem_of_getElem? (i := 172) (by decide +kernel)
  | 2, _ => exact List.mem_of_getElem? (i := 183) (by decide +kernel)
  | 3, _ => exact List.mem_of_getElem? (i := 208) (by decide +kernel)
  | 4, _ => exact List.mem_of_getElem? (i := 197) (by decide +kernel)
  | 5, _ => exact List.mem_of_getElem? (i := 221) (by decide +kernel)
  | 6, _ => exact List.mem_of_getElem? (i := 233) (by decide +kernel)
  | 7, _ => exact List.mem_of_getElem? (i := 247) (by decide +kernel)
  | 8, _ => exact List.mem_of_getElem? (i := 261) (by decide +kernel)
  | 9, _ => exact List.mem_of_getElem? (i := 276) (by decide +kernel)
  | 10, _ => exact List.mem_of_getElem? (i := 294) (by decide +kernel)
  | 11, _ => exact List.mem_of_getElem? (i := 313) (by decide +kernel)
  | 12, _ => exact List.mem_of_getElem? (i := 333) (by decide +kernel)
  | 13, _ => exact List.mem_of_getElem? (i := 351) (by decide +kernel)
  | 14, _ => exact List.mem_of_getElem? (i := 371) (by decide +kernel)
  | i + 15, hi => exact absurd hi (by omega)
set_option maxRecDepth 100000 in
theorem zs_el0 : ∀ i, i < 4 → Cond.eq (.elem (.field (zStr 0) "java/lang/String" "value" "[B") (.int (Int32.ofNat i))) (.int (((zTx.map (fun t => t.map i32)).getD 0 []).getD i 0)) ∈ zFl := by
  intro i hi
  match i, hi with
  | 0, _ => exact List.mem_of_getElem? (i := 165) (by decide +kernel)
  | 1, _ => exact List.mem_of_getElem? (i := 166) (by decide +kernel)
  | 2, _ => exact List.mem_of_getElem? (i := 167) (by decide +kernel)
  | 3, _ => exact List.mem_of_getElem? (i := 168) (by decide +kernel)
  | i + 4, hi => exact absurd hi (by omega)
set_option maxRecDepth 100000 in
theorem zs_el1 : ∀ i, i < 6 → Cond.eq (.elem (.field (zStr 1) "java/lang/String" "value" "[B") (.int (Int32.ofNat i))) (.int (((zTx.map (fun t => t.map i32)).getD 1 []).getD i 0)) ∈ zFl := by
  intro i hi
  match i, hi with
  | 0, _ => exact List.mem_of_getElem? (i := 173) (by decide +kernel)
  | 1, _ => exact List.mem_of_getElem? (i := 174) (by decide +kernel)
  | 2, _ => exact List.mem_of_getElem? (i := 175) (by decide +kernel)
  | 3, _ => exact List.mem_of_getElem? (i := 176) (by decide +kernel)
  | 4, _ => exact List.mem_of_getElem? (i := 177) (by decide +kernel)
  | 5, _ => exact List.mem_of_getElem? (i := 178) (by decide +kernel)
  | i + 6, hi => exact absurd hi (by omega)
set_option maxRecDepth 100000 in
theorem zs_el2 : ∀ i, i < 8 → Cond.eq (.elem (.field (zStr 2) "java/lang/String" "value" "[B") (.int (Int32.ofNat i))) (.int (((zTx.map (fun t => t.map i32)).getD 2 []).getD i 0)) ∈ zFl := by
  intro i hi
  match i, hi with
  | 0, _ => exact List.mem_of_getElem? (i := 184) (by decide +kernel)
  | 1, _ => exact List.mem_of_getElem? (i := 185) (by decide +kernel)
  | 2, _ => exact List.mem_of_getElem? (i := 186) (by decide +kernel)
  | 3, _ => exact List.mem_of_getElem? (i := 187) (by decide +kernel)
  | 4, _ => exact List.mem_of_getElem? (i := 188) (by decide +kernel)
  | 5, _ => exact List.mem_of_getElem? (i := 189) (by decide +kernel)
  | 6, _ => exact List.mem_of_getElem? (i := 190) (by decide +kernel)
  | 7, _ => exact List.mem_of_getElem? (i := 191) (by decide +kernel)
  | i + 8, hi => exact absurd hi (by omega)
set_option maxRecDepth 100000 in
theorem zs_el3 : ∀ i, i < 5 → Cond.eq (.elem (.field (zStr 3) "java/lang/String" "value" "[B") (.int (Int32.ofNat i))) (.int (((zTx.map (fun t => t.map i32)).getD 3 []).getD i 0)) ∈ zFl := by
  intro i hi
  match i, hi with
  | 0, _ => exact List.mem_of_getElem? (i := 209) (by decide +kernel)
  | 1, _ => exact List.mem_of_getElem? (i := 210) (by decide +kernel)
  | 2, _ => exact List.mem_of_getElem? (i := 211) (by decide +kernel)
  | 3, _ => exact List.mem_of_getElem? (i := 212) (by decide +kernel)
  | 4, _ => exact List.mem_of_getElem? (i := 213) (by decide +kernel)
  | i + 5, hi => exact absurd hi (by omega)
set_option maxRecDepth 100000 in
theorem zs_el4 : ∀ i, i < 4 → Cond.eq (.elem (.field (zStr 4) "java/lang/String" "value" "[B") (.int (Int32.ofNat i))) (.int (((zTx.map (fun t => t.map i32)).getD 4 []).getD i 0)) ∈ zFl := by
  intro i hi
  match i, hi with
  | 0, _ => exact List.mem_of_getElem? (i := 198) (by decide +kernel)
  | 1, _ => exact List.mem_of_getElem? (i := 199) (by decide +kernel)
  | 2, _ => exact List.mem_of_getElem? (i := 200) (by decide +kernel)
  | 3, _ => exact List.mem_of_getElem? (i := 201) (by decide +kernel)
  | i + 4, hi => exact absurd hi (by omega)
set_option maxRecDepth 100000 in
theorem zs_el5 : ∀ i, i < 3 → Cond.eq (.elem (.field (zStr 5) "java/lang/String" "value" "[B") (.int (Int32.ofNat i))) (.int (((zTx.map (fun t => t.map i32)).getD 5 []).getD i 0)) ∈ zFl := by
  intro i hi
  match i, hi with
  | 0, _ => exact List.mem_of_getElem? (i := 222) (by decide +kernel)
  | 1, _ => exact List.mem_of_getElem? (i := 223) (by decide +kernel)
  | 2, _ => exact List.mem_of_getElem? (i := 224) (by decide +kernel)
  | i + 3, hi => exact absurd hi (by omega)
set_option maxRecDepth 100000 in
theorem zs_el6 : ∀ i, i < 4 → Cond.eq (.elem (.field (zStr 6) "java/lang/String" "value" "[B") (.int (Int32.ofNat i))) (.int (((zTx.map (fun t => t.map i32)).getD 6 []).getD i 0)) ∈ zFl := by
  intro i hi
  match i, hi with
  | 0, _ => exact List.mem_of_getElem? (i := 234) (by decide +kernel)
  | 1, _ => exact List.mem_of_getElem? (i := 235) (by decide +kernel)
  | 2, _ => exact List.mem_of_getElem? (i := 236) (by decide +kernel)
  | 3, _ => exact List.mem_of_getElem? (i := 237) (by decide +kernel)
  | i + 4, hi => exact absurd hi (by omega)
set_option maxRecDepth 100000 in
theorem zs_el7 : ∀ i, i < 3 → Cond.eq (.elem (.field (zStr 7) "java/lang/String" "value" "[B") (.int (Int32.ofNat i))) (.int (((zTx.map (fun t => t.map i32)).getD 7 []).getD i 0)) ∈ zFl := by
  intro i hi
  match i, hi with
  | 0, _ => exact List.mem_of_getElem? (i := 248) (by decide +kernel)
  | 1, _ => exact List.mem_of_getElem? (i := 249) (by decide +kernel)
  | 2, _ => exact List.mem_of_getElem? (i := 250) (by decide +kernel)
  | i + 3, hi => exact absurd hi (by omega)
set_option maxRecDepth 100000 in
theorem zs_el8 : ∀ i, i < 3 → Cond.eq (.elem (.field (zStr 8) "java/lang/String" "value" "[B") (.int (Int32.ofNat i))) (.int (((zTx.map (fun t => t.map i32)).getD 8 []).getD i 0)) ∈ zFl := by
  intro i hi
  match i, hi with
  | 0, _ => exact List.mem_of_getElem? (i := 262) (by decide +kernel)
  | 1, _ => exact List.mem_of_getElem? (i := 263) (by decide +kernel)
  | 2, _ => exact List.mem_of_getElem? (i := 264) (by decide +kernel)
  | i + 3, hi => exact absurd hi (by omega)
set_option maxRecDepth 100000 in
theorem zs_el9 : ∀ i, i < 5 → Cond.eq (.elem (.field (zStr 9) "java/lang/String" "value" "[B") (.int (Int32.ofNat i))) (.int (((zTx.map (fun t => t.map i32)).getD 9 []).getD i 0)) ∈ zFl := by
  intro i hi
  match i, hi with
  | 0, _ => exact List.mem_of_getElem? (i := 277) (by decide +kernel)
  | 1, _ => exact List.mem_of_getElem? (i := 278) (by decide +kernel)
  | 2, _ => exact List.mem_of_getElem? (i := 279) (by decide +kernel)
  | 3, _ => exact List.mem_of_getElem? (i := 280) (by decide +kernel)
  | 4, _ => exact List.mem_of_getElem? (i := 281) (by decide +kernel)
  | i + 5, hi => exact absurd hi (by omega)
set_option maxRecDepth 100000 in
theorem zs_el10 : ∀ i, i < 5 → Cond.eq (.elem (.field (zStr 10) "java/lang/String" "value" "[B") (.int (Int32.ofNat i))) (.int (((zTx.map (fun t => t.map i32)).getD 10 []).getD i 0)) ∈ zFl := by
  intro i hi
  match i, hi with
  | 0, _ => exact List.mem_of_getElem? (i := 295) (by decide +kernel)
  | 1, _ => exact List.mem_of_getElem? (i := 296) (by decide +kernel)
  | 2, _ => exact List.mem_of_getElem? (i := 297) (by decide +kernel)
  | 3, _ => exact List.mem_of_getElem? (i := 298) (by decide +kernel)
  | 4, _ => exact List.mem_of_getElem? (i := 299) (by decide +kernel)
  | i + 5, hi => exact absurd hi (by omega)
set_option maxRecDepth 100000 in
theorem zs_el11 : ∀ i, i < 5 → Cond.eq (.elem (.field (zStr 11) "java/lang/String" "value" "[B") (.int (Int32.ofNat i))) (.int (((zTx.map (fun t => t.map i32)).getD 11 []).getD i 0)) ∈ zFl := by
  intro i hi
  match i, hi with
  | 0, _ => exact List.mem_of_getElem? (i := 314) (by decide +kernel)
  | 1, _ => exact List.mem_of_getElem? (i := 315) (by decide +kernel)
  | 2, _ => exact List.mem_of_getElem? (i := 316) (by decide +kernel)
  | 3, _ => exact List.mem_of_getElem? (i := 317) (by decide +kernel)
  | 4, _ => exact List.mem_of_getElem? (i := 318) (by decide +kernel)
  | i + 5, hi => exact absurd hi (by omega)
set_option maxRecDepth 100000 in
theorem zs_el12 : ∀ i, i < 2 → Cond.eq (.elem (.field (zStr 12) "java/lang/String" "value" "[B") (.int (Int32.ofNat i))) (.int (((zTx.map (fun t => t.map i32)).getD 12 []).getD i 0)) ∈ zFl := by
  intro i hi
  match i, hi with
  | 0, _ => exact List.mem_of_getElem? (i := 334) (by decide +kernel)
  | 1, _ => exact List.mem_of_getElem? (i := 335) (by decide +kernel)
  | i + 2, hi => exact absurd hi (by omega)
set_option maxRecDepth 100000 in
theorem zs_el13 : ∀ i, i < 3 → Cond.eq (.elem (.field (zStr 13) "java/lang/String" "value" "[B") (.int (Int32.ofNat i))) (.int (((zTx.map (fun t => t.map i32)).getD 13 []).getD i 0)) ∈ zFl := by
  intro i hi
  match i, hi with
  | 0, _ => exact List.mem_of_getElem? (i := 352) (by decide +kernel)
  | 1, _ => exact List.mem_of_getElem? (i := 353) (by decide +kernel)
  | 2, _ => exact List.mem_of_getElem? (i := 354) (by decide +kernel)
  | i + 3, hi => exact absurd hi (by omega)
set_option maxRecDepth 100000 in
theorem zs_el14 : ∀ i, i < 4 → Cond.eq (.elem (.field (zStr 14) "java/lang/String" "value" "[B") (.int (Int32.ofNat i))) (.int (((zTx.map (fun t => t.map i32)).getD 14 []).getD i 0)) ∈ zFl := by
  intro i hi
  match i, hi with
  | 0, _ => exact List.mem_of_getElem? (i := 372) (by decide +kernel)
  | 1, _ => exact List.mem_of_getElem? (i := 373) (by decide +kernel)
  | 2, _ => exact List.mem_of_getElem? (i := 374) (by decide +kernel)
  | 3, _ => exact List.mem_of_getElem? (i := 375) (by decide +kernel)
  | i + 4, hi => exact absurd hi (by omega)
set_option maxRecDepth 100000 in
theorem zs_el : ∀ i, i < 15 → ∀ j, j < (zTx.map List.length).getD i 0 → Cond.eq (.elem (.field (zStr i) "java/lang/String" "value" "[B") (.int (Int32.ofNat j))) (.int (((zTx.map (fun t => t.map i32)).getD i []).getD j 0)) ∈ zFl := by
  intro i hi
  match i, hi with
  | 0, _ => exact zs_el0
  | 1, _ => exact zs_el1
  | 2, _ => exact zs_el2
  | 3, _ => exact zs_el3
  | 4, _ => exact zs_el4
  | 5, _ => exact zs_el5
  | 6, _ => exact zs_el6
  | 7, _ => exact zs_el7
  | 8, _ => exact zs_el8
  | 9, _ => exact zs_el9
  | 10, _ => exact zs_el10
  | 11, _ => exact zs_el11
  | 12, _ => exact zs_el12
  | 13, _ => exact zs_el13
  | 14, _ => exact zs_el14
  | i + 15, hi => exact absurd hi (by omega)
set_option maxRecDepth 100000 in
theorem zs_ne0 : ∀ j, j < 0 → (Cond.not (Cond.eq (zStr 0) (zStr j)) ∈ zFl ∨ Cond.not (Cond.eq (zStr j) (zStr 0)) ∈ zFl) := fun j h => absurd h (by omega)
set_option maxRecDepth 100000 in
theorem zs_ne1 : ∀ i, i < 1 → (Cond.not (Cond.eq (zStr 1) (zStr i)) ∈ zFl ∨ Cond.not (Cond.eq (zStr i) (zStr 1)) ∈ zFl) := by
  intro i hi
  match i, hi with
  | 0, _ => exact Or.inr (List.mem_of_getElem? (i := 179) (by decide +kernel))
  | i + 1, hi => exact absurd hi (by omega)
set_option maxRecDepth 100000 in
theorem zs_ne2 : ∀ i, i < 2 → (Cond.not (Cond.eq (zStr 2) (zStr i)) ∈ zFl ∨ Cond.not (Cond.eq (zStr i) (zStr 2)) ∈ zFl) := by
  intro i hi
  match i, hi with
  | 0, _ => exact Or.inr (List.mem_of_getElem? (i := 192) (by decide +kernel))
  | 1, _ => exact Or.inr (List.mem_of_getElem? (i := 193) (by decide +kernel))
  | i + 2, hi => exact absurd hi (by omega)
set_option maxRecDepth 100000 in
theorem zs_ne3 : ∀ i, i < 3 → (Cond.not (Cond.eq (zStr 3) (zStr i)) ∈ zFl ∨ Cond.not (Cond.eq (zStr i) (zStr 3)) ∈ zFl) := by
  intro i hi
  match i, hi with
  | 0, _ => exact Or.inr (List.mem_of_getElem? (i := 214) (by decide +kernel))
  | 1, _ => exact Or.inr (List.mem_of_getElem? (i := 215) (by decide +kernel))
  | 2, _ => exact Or.inr (List.mem_of_getElem? (i := 216) (by decide +kernel))
  | i + 3, hi => exact absurd hi (by omega)
set_option maxRecDepth 100000 in
theorem zs_ne4 : ∀ i, i < 4 → (Cond.not (Cond.eq (zStr 4) (zStr i)) ∈ zFl ∨ Cond.not (Cond.eq (zStr i) (zStr 4)) ∈ zFl) := by
  intro i hi
  match i, hi with
  | 0, _ => exact Or.inr (List.mem_of_getElem? (i := 202) (by decide +kernel))
  | 1, _ => exact Or.inr (List.mem_of_getElem? (i := 203) (by decide +kernel))
  | 2, _ => exact Or.inr (List.mem_of_getElem? (i := 204) (by decide +kernel))
  | 3, _ => exact Or.inl (List.mem_of_getElem? (i := 217) (by decide +kernel))
  | i + 4, hi => exact absurd hi (by omega)
set_option maxRecDepth 100000 in
theorem zs_ne5 : ∀ i, i < 5 → (Cond.not (Cond.eq (zStr 5) (zStr i)) ∈ zFl ∨ Cond.not (Cond.eq (zStr i) (zStr 5)) ∈ zFl) := by
  intro i hi
  match i, hi with
  | 0, _ => exact Or.inr (List.mem_of_getElem? (i := 225) (by decide +kernel))
  | 1, _ => exact Or.inr (List.mem_of_getElem? (i := 226) (by decide +kernel))
  | 2, _ => exact Or.inr (List.mem_of_getElem? (i := 227) (by decide +kernel))
  | 3, _ => exact Or.inr (List.mem_of_getElem? (i := 229) (by decide +kernel))
  | 4, _ => exact Or.inr (List.mem_of_getElem? (i := 228) (by decide +kernel))
  | i + 5, hi => exact absurd hi (by omega)
set_option maxRecDepth 100000 in
theorem zs_ne6 : ∀ i, i < 6 → (Cond.not (Cond.eq (zStr 6) (zStr i)) ∈ zFl ∨ Cond.not (Cond.eq (zStr i) (zStr 6)) ∈ zFl) := by
  intro i hi
  match i, hi with
  | 0, _ => exact Or.inr (List.mem_of_getElem? (i := 238) (by decide +kernel))
  | 1, _ => exact Or.inr (List.mem_of_getElem? (i := 239) (by decide +kernel))
  | 2, _ => exact Or.inr (List.mem_of_getElem? (i := 240) (by decide +kernel))
  | 3, _ => exact Or.inr (List.mem_of_getElem? (i := 242) (by decide +kernel))
  | 4, _ => exact Or.inr (List.mem_of_getElem? (i := 241) (by decide +kernel))
  | 5, _ => exact Or.inr (List.mem_of_getElem? (i := 243) (by decide +kernel))
  | i + 6, hi => exact absurd hi (by omega)
set_option maxRecDepth 100000 in
theorem zs_ne7 : ∀ i, i < 7 → (Cond.not (Cond.eq (zStr 7) (zStr i)) ∈ zFl ∨ Cond.not (Cond.eq (zStr i) (zStr 7)) ∈ zFl) := by
  intro i hi
  match i, hi with
  | 0, _ => exact Or.inr (List.mem_of_getElem? (i := 251) (by decide +kernel))
  | 1, _ => exact Or.inr (List.mem_of_getElem? (i := 252) (by decide +kernel))
  | 2, _ => exact Or.inr (List.mem_of_getElem? (i := 253) (by decide +kernel))
  | 3, _ => exact Or.inr (List.mem_of_getElem? (i := 255) (by decide +kernel))
  | 4, _ => exact Or.inr (List.mem_of_getElem? (i := 254) (by decide +kernel))
  | 5, _ => exact Or.inr (List.mem_of_getElem? (i := 256) (by decide +kernel))
  | 6, _ => exact Or.inr (List.mem_of_getElem? (i := 257) (by decide +kernel))
  | i + 7, hi => exact absurd hi (by omega)
set_option maxRecDepth 100000 in
theorem zs_ne8 : ∀ i, i < 8 → (Cond.not (Cond.eq (zStr 8) (zStr i)) ∈ zFl ∨ Cond.not (Cond.eq (zStr i) (zStr 8)) ∈ zFl) := by
  intro i hi
  match i, hi with
  | 0, _ => exact Or.inr (List.mem_of_getElem? (i := 265) (by decide +kernel))
  | 1, _ => exact Or.inr (List.mem_of_getElem? (i := 266) (by decide +kernel))
  | 2, _ => exact Or.inr (List.mem_of_getElem? (i := 267) (by decide +kernel))
  | 3, _ => exact Or.inr (List.mem_of_getElem? (i := 269) (by decide +kernel))
  | 4, _ => exact Or.inr (List.mem_of_getElem? (i := 268) (by decide +kernel))
  | 5, _ => exact Or.inr (List.mem_of_getElem? (i := 270) (by decide +kernel))
  | 6, _ => exact Or.inr (List.mem_of_getElem? (i := 271) (by decide +kernel))
  | 7, _ => exact Or.inr (List.mem_of_getElem? (i := 272) (by decide +kernel))
  | i + 8, hi => exact absurd hi (by omega)
set_option maxRecDepth 100000 in
theorem zs_ne9 : ∀ i, i < 9 → (Cond.not (Cond.eq (zStr 9) (zStr i)) ∈ zFl ∨ Cond.not (Cond.eq (zStr i) (zStr 9)) ∈ zFl) := by
  intro i hi
  match i, hi with
  | 0, _ => exact Or.inr (List.mem_of_getElem? (i := 282) (by decide +kernel))
  | 1, _ => exact Or.inr (List.mem_of_getElem? (i := 283) (by decide +kernel))
  | 2, _ => exact Or.inr (List.mem_of_getElem? (i := 284) (by decide +kernel))
  | 3, _ => exact Or.inr (List.mem_of_getElem? (i := 286) (by decide +kernel))
  | 4, _ => exact Or.inr (List.mem_of_getElem? (i := 285) (by decide +kernel))
  | 5, _ => exact Or.inr (List.mem_of_getElem? (i := 287) (by decide +kernel))
  | 6, _ => exact Or.inr (List.mem_of_getElem? (i := 288) (by decide +kernel))
  | 7, _ => exact Or.inr (List.mem_of_getElem? (i := 289) (by decide +kernel))
  | 8, _ => exact Or.inr (List.mem_of_getElem? (i := 290) (by decide +kernel))
  | i + 9, hi => exact absurd hi (by omega)
set_option maxRecDepth 100000 in
theorem zs_ne10 : ∀ i, i < 10 → (Cond.not (Cond.eq (zStr 10) (zStr i)) ∈ zFl ∨ Cond.not (Cond.eq (zStr i) (zStr 10)) ∈ zFl) := by
  intro i hi
  match i, hi with
  | 0, _ => exact Or.inr (List.mem_of_getElem? (i := 300) (by decide +kernel))
  | 1, _ => exact Or.inr (List.mem_of_getElem? (i := 301) (by decide +kernel))
  | 2, _ => exact Or.inr (List.mem_of_getElem? (i := 302) (by decide +kernel))
  | 3, _ => exact Or.inr (List.mem_of_getElem? (i := 304) (by decide +kernel))
  | 4, _ => exact Or.inr (List.mem_of_getElem? (i := 303) (by decide +kernel))
  | 5, _ => exact Or.inr (List.mem_of_getElem? (i := 305) (by decide +kernel))
  | 6, _ => exact Or.inr (List.mem_of_getElem? (i := 306) (by decide +kernel))
  | 7, _ => exact Or.inr (List.mem_of_getElem? (i := 307) (by decide +kernel))
  | 8, _ => exact Or.inr (List.mem_of_getElem? (i := 308) (by decide +kernel))
  | 9, _ => exact Or.inr (List.mem_of_getElem? (i := 309) (by decide +kernel))
  | i + 10, hi => exact absurd hi (by omega)
set_option maxRecDepth 100000 in
theorem zs_ne11 : ∀ i, i < 11 → (Cond.not (Cond.eq (zStr 11) (zStr i)) ∈ zFl ∨ Cond.not (Cond.eq (zStr i) (zStr 11)) ∈ zFl) := by
  intro i hi
  match i, hi with
  | 0, _ => exact Or.inr (List.mem_of_getElem? (i := 319) (by decide +kernel))
  | 1, _ => exact Or.inr (List.mem_of_getElem? (i := 320) (by decide +kernel))
  | 2, _ => exact Or.inr (List.mem_of_getElem? (i := 321) (by decide +kernel))
  | 3, _ => exact Or.inr (List.mem_of_getElem? (i := 323) (by decide +kernel))
  | 4, _ => exact Or.inr (List.mem_of_getElem? (i := 322) (by decide +kernel))
  | 5, _ => exact Or.inr (List.mem_of_getElem? (i := 324) (by decide +kernel))
  | 6, _ => exact Or.inr (List.mem_of_getElem? (i := 325) (by decide +kernel))
  | 7, _ => exact Or.inr (List.mem_of_getElem? (i := 326) (by decide +kernel))
  | 8, _ => exact Or.inr (List.mem_of_getElem? (i := 327) (by decide +kernel))
  | 9, _ => exact Or.inr (List.mem_of_getElem? (i := 328) (by decide +kernel))
  | 10, _ => exact Or.inr (List.mem_of_getElem? (i := 329) (by decide +kernel))
  | i + 11, hi => exact absurd hi (by omega)
set_option maxRecDepth 100000 in
theorem zs_ne12 : ∀ i, i < 12 → (Cond.not (Cond.eq (zStr 12) (zStr i)) ∈ zFl ∨ Cond.not (Cond.eq (zStr i) (zStr 12)) ∈ zFl) := by
  intro i hi
  match i, hi with
  | 0, _ => exact Or.inr (List.mem_of_getElem? (i := 336) (by decide +kernel))
  | 1, _ => exact Or.inr (List.mem_of_getElem? (i := 337) (by decide +kernel))
  | 2, _ => exact Or.inr (List.mem_of_getElem? (i := 338) (by decide +kernel))
  | 3, _ => exact Or.inr (List.mem_of_getElem? (i := 340) (by decide +kernel))
  | 4, _ => exact Or.inr (List.mem_of_getElem? (i := 339) (by decide +kernel))
  | 5, _ => exact Or.inr (List.mem_of_getElem? (i := 341) (by decide +kernel))
  | 6, _ => exact Or.inr (List.mem_of_getElem? (i := 342) (by decide +kernel))
  | 7, _ => exact Or.inr (List.mem_of_getElem? (i := 343) (by decide +kernel))
  | 8, _ => exact Or.inr (List.mem_of_getElem? (i := 344) (by decide +kernel))
  | 9, _ => exact Or.inr (List.mem_of_getElem? (i := 345) (by decide +kernel))
  | 10, _ => exact Or.inr (List.mem_of_getElem? (i := 346) (by decide +kernel))
  | 11, _ => exact Or.inr (List.mem_of_getElem? (i := 347) (by decide +kernel))
  | i + 12, hi => exact absurd hi (by omega)
set_option maxRecDepth 100000 in
theorem zs_ne13 : ∀ i, i < 13 → (Cond.not (Cond.eq (zStr 13) (zStr i)) ∈ zFl ∨ Cond.not (Cond.eq (zStr i) (zStr 13)) ∈ zFl) := by
  intro i hi
  match i, hi with
  | 0, _ => exact Or.inr (List.mem_of_getElem? (i := 355) (by decide +kernel))
  | 1, _ => exact Or.inr (List.mem_of_getElem? (i := 356) (by decide +kernel))
  | 2, _ => exact Or.inr (List.mem_of_getElem? (i := 357) (by decide +kernel))
  | 3, _ => exact Or.inr (List.mem_of_getElem? (i := 359) (by decide +kernel))
  | 4, _ => exact Or.inr (List.mem_of_getElem? (i := 358) (by decide +kernel))
  | 5, _ => exact Or.inr (List.mem_of_getElem? (i := 360) (by decide +kernel))
  | 6, _ => exact Or.inr (List.mem_of_getElem? (i := 361) (by decide +kernel))
  | 7, _ => exact Or.inr (List.mem_of_getElem? (i := 362) (by decide +kernel))
  | 8, _ => exact Or.inr (List.mem_of_getElem? (i := 363) (by decide +kernel))
  | 9, _ => exact Or.inr (List.mem_of_getElem? (i := 364) (by decide +kernel))
  | 10, _ => exact Or.inr (List.mem_of_getElem? (i := 365) (by decide +kernel))
  | 11, _ => exact Or.inr (List.mem_of_getElem? (i := 366) (by decide +kernel))
  | 12, _ => exact Or.inr (List.mem_of_getElem? (i := 367) (by decide +kernel))
  | i + 13, hi => exact absurd hi (by omega)
set_option maxRecDepth 100000 in
theorem zs_ne14 : ∀ i, i < 14 → (Cond.not (Cond.eq (zStr 14) (zStr i)) ∈ zFl ∨ Cond.not (Cond.eq (zStr i) (zStr 14)) ∈ zFl) := by
  intro i hi
  match i, hi with
  | 0, _ => exact Or.inr (List.mem_of_getElem? (i := 376) (by decide +kernel))
  | 1, _ => exact Or.inr (List.mem_of_getElem? (i := 377) (by decide +kernel))
  | 2, _ => exact Or.inr (List.mem_of_getElem? (i := 378) (by decide +kernel))
  | 3, _ => exact Or.inr (List.mem_of_getElem? (i := 380) (by decide +kernel))
  | 4, _ => exact Or.inr (List.mem_of_getElem? (i := 379) (by decide +kernel))
  | 5, _ => exact Or.inr (List.mem_of_getElem? (i := 381) (by decide +kernel))
  | 6, _ => exact Or.inr (List.mem_of_getElem? (i := 382) (by decide +kernel))
  | 7, _ => exact Or.inr (List.mem_of_getElem? (i := 383) (by decide +kernel))
  | 8, _ => exact Or.inr (List.mem_of_getElem? (i := 384) (by decide +kernel))
  | 9, _ => exact Or.inr (List.mem_of_getElem? (i := 385) (by decide +kernel))
  | 10, _ => exact Or.inr (List.mem_of_getElem? (i := 386) (by decide +kernel))
  | 11, _ => exact Or.inr (List.mem_of_getElem? (i := 387) (by decide +kernel))
  | 12, _ => exact Or.inr (List.mem_of_getElem? (i := 388) (by decide +kernel))
  | 13, _ => exact Or.inr (List.mem_of_getElem? (i := 389) (by decide +kernel))
  | i + 14, hi => exact absurd hi (by omega)
set_option maxRecDepth 100000 in
theorem zs_ne : ∀ i, i < 15 → ∀ j, j < i → (Cond.not (Cond.eq (zStr i) (zStr j)) ∈ zFl ∨ Cond.not (Cond.eq (zStr j) (zStr i)) ∈ zFl) := by
  intro i hi
  match i, hi with
  | 0, _ => exact zs_ne0
  | 1, _ => exact zs_ne1
  | 2, _ => exact zs_ne2
  | 3, _ => exact zs_ne3
  | 4, _ => exact zs_ne4
  | 5, _ => exact zs_ne5
  | 6, _ => exact zs_ne6
  | 7, _ => exact zs_ne7
  | 8, _ => exact zs_ne8
  | 9, _ => exact zs_ne9
  | 10, _ => exact zs_ne10
  | 11, _ => exact zs_ne11
  | 12, _ => exact zs_ne12
  | 13, _ => exact zs_ne13
  | 14, _ => exact zs_ne14
  | i + 15, hi => exact absurd hi (by omega)
set_option maxRecDepth 100000 in
theorem zs_n0 : ∀ i, i < 13 → Cond.eq (.elem (.static "ReedOracles$Reader" "NUMBERS" "[I") (.int (Int32.ofNat i))) (.int (i32 (zTb0.getD i 0))) ∈ zFl := by
  intro i hi
  match i, hi with
  | 0, _ => exact List.mem_of_getElem? (i := 12) (by decide +kernel)
  | 1, _ => exact List.mem_of_getElem? (i := 13) (by decide +kernel)
  | 2, _ => exact List.mem_of_getElem? (i := 14) (by decide +kernel)
  | 3, _ => exact List.mem_of_getElem? (i := 15) (by decide +kernel)
  | 4, _ => exact List.mem_of_getElem? (i := 16) (by decide +kernel)
  | 5, _ => exact List.mem_of_getElem? (i := 17) (by decide +kernel)
  | 6, _ => exact List.mem_of_getElem? (i := 18) (by decide +kernel)
  | 7, _ => exact List.mem_of_getElem? (i := 19) (by decide +kernel)
  | 8, _ => exact List.mem_of_getElem? (i := 20) (by decide +kernel)
  | 9, _ => exact List.mem_of_getElem? (i := 21) (by decide +kernel)
  | 10, _ => exact List.mem_of_getElem? (i := 22) (by decide +kernel)
  | 11, _ => exact List.mem_of_getElem? (i := 23) (by decide +kernel)
  | 12, _ => exact List.mem_of_getElem? (i := 24) (by decide +kernel)
  | i + 13, hi => exact absurd hi (by omega)
set_option maxRecDepth 100000 in
theorem zs_a0 : Cond.arrayOf (.static "ReedOracles$Reader" "NUMBERS" "[I") .int ∈ zFl ∧ Cond.eq (.length (.static "ReedOracles$Reader" "NUMBERS" "[I")) (.int (Int32.ofNat 13)) ∈ zFl := ⟨List.mem_of_getElem? (i := 10) (by decide +kernel), List.mem_of_getElem? (i := 11) (by decide +kernel)⟩
set_option maxRecDepth 100000 in
theorem zs_n1 : ∀ i, i < 13 → Cond.eq (.elem (.static "ReedOracles$Reader" "LEAST" "[I") (.int (Int32.ofNat i))) (.int (i32 (zTb1.getD i 0))) ∈ zFl := by
  intro i hi
  match i, hi with
  | 0, _ => exact List.mem_of_getElem? (i := 28) (by decide +kernel)
  | 1, _ => exact List.mem_of_getElem? (i := 29) (by decide +kernel)
  | 2, _ => exact List.mem_of_getElem? (i := 30) (by decide +kernel)
  | 3, _ => exact List.mem_of_getElem? (i := 31) (by decide +kernel)
  | 4, _ => exact List.mem_of_getElem? (i := 32) (by decide +kernel)
  | 5, _ => exact List.mem_of_getElem? (i := 33) (by decide +kernel)
  | 6, _ => exact List.mem_of_getElem? (i := 34) (by decide +kernel)
  | 7, _ => exact List.mem_of_getElem? (i := 35) (by decide +kernel)
  | 8, _ => exact List.mem_of_getElem? (i := 36) (by decide +kernel)
  | 9, _ => exact List.mem_of_getElem? (i := 37) (by decide +kernel)
  | 10, _ => exact List.mem_of_getElem? (i := 38) (by decide +kernel)
  | 11, _ => exact List.mem_of_getElem? (i := 39) (by decide +kernel)
  | 12, _ => exact List.mem_of_getElem? (i := 40) (by decide +kernel)
  | i + 13, hi => exact absurd hi (by omega)
set_option maxRecDepth 100000 in
theorem zs_a1 : Cond.arrayOf (.static "ReedOracles$Reader" "LEAST" "[I") .int ∈ zFl ∧ Cond.eq (.length (.static "ReedOracles$Reader" "LEAST" "[I")) (.int (Int32.ofNat 13)) ∈ zFl := ⟨List.mem_of_getElem? (i := 26) (by decide +kernel), List.mem_of_getElem? (i := 27) (by decide +kernel)⟩
set_option maxRecDepth 100000 in
theorem zs_n2 : ∀ i, i < 65 → Cond.eq (.elem (.static "ReedOracles$Reader" "GREATEST" "[I") (.int (Int32.ofNat i))) (.int (i32 (zTb2.getD i 0))) ∈ zFl := by
  intro i hi
  match i, hi with
  | 0, _ => exact List.mem_of_getElem? (i := 44) (by decide +kernel)
  | 1, _ => exact List.mem_of_getElem? (i := 45) (by decide +kernel)
  | 2, _ => exact List.mem_of_getElem? (i := 46) (by decide +kernel)
  | 3, _ => exact List.mem_of_getElem? (i := 47) (by decide +kernel)
  | 4, _ => exact List.mem_of_getElem? (i := 48) (by decide +kernel)
  | 5, _ => exact List.mem_of_getElem? (i := 49) (by decide +kernel)
  | 6, _ => exact List.mem_of_getElem? (i := 50) (by decide +kernel)
  | 7, _ => exact List.mem_of_getElem? (i := 51) (by decide +kernel)
  | 8, _ => exact List.mem_of_getElem? (i := 52) (by decide +kernel)
  | 9, _ => exact List.mem_of_getElem? (i := 53) (by decide +kernel)
  | 10, _ => exact List.mem_of_getElem? (i := 54) (by decide +kernel)
  | 11, _ => exact List.mem_of_getElem? (i := 55) (by decide +kernel)
  | 12, _ => exact List.mem_of_getElem? (i := 56) (by decide +kernel)
  | 13, _ => exact List.mem_of_getElem? (i := 57) (by decide +kernel)
  | 14, _ => exact List.mem_of_getElem? (i := 58) (by decide +kernel)
  | 15, _ => exact List.mem_of_getElem? (i := 59) (by decide +kernel)
  | 16, _ => exact List.mem_of_getElem? (i := 60) (by decide +kernel)
  | 17, _ => exact List.mem_of_getElem? (i := 61) (by decide +kernel)
  | 18, _ => exact List.mem_of_getElem? (i := 62) (by decide +kernel)
  | 19, _ => exact List.mem_of_getElem? (i := 63) (by decide +kernel)
  | 20, _ => exact List.mem_of_getElem? (i := 64) (by decide +kernel)
  | 21, _ => exact List.mem_of_getElem? (i := 65) (by decide +kernel)
  | 22, _ => exact List.mem_of_getElem? (i := 66) (by decide +kernel)
  | 23, _ => exact List.mem_of_getElem? (i := 67) (by decide +kernel)
  | 24, _ => exact List.mem_of_getElem? (i := 68) (by decide +kernel)
  | 25, _ => exact List.mem_of_getElem? (i := 69) (by decide +kernel)
  | 26, _ => exact List.mem_of_getElem? (i := 70) (by decide +kernel)
  | 27, _ => exact List.mem_of_getElem? (i := 71) (by decide +kernel)
  | 28, _ => exact List.mem_of_getElem? (i := 72) (by decide +kernel)
  | 29, _ => exact List.mem_of_getElem? (i := 73) (by decide +kernel)
  | 30, _ => exact List.mem_of_getElem? (i := 74) (by decide +kernel)
  | 31, _ => exact List.mem_of_getElem? (i := 75) (by decide +kernel)
  | 32, _ => exact List.mem_of_getElem? (i := 76) (by decide +kernel)
  | 33, _ => exact List.mem_of_getElem? (i := 77) (by decide +kernel)
  | 34, _ => exact List.mem_of_getElem? (i := 78) (by decide +kernel)
  | 35, _ => exact List.mem_of_getElem? (i := 79) (by decide +kernel)
  | 36, _ => exact List.mem_of_getElem? (i := 80) (by decide +kernel)
  | 37, _ => exact List.mem_of_getElem? (i := 81) (by decide +kernel)
  | 38, _ => exact List.mem_of_getElem? (i := 82) (by decide +kernel)
  | 39, _ => exact List.mem_of_getElem? (i := 83) (by decide +kernel)
  | 40, _ => exact List.mem_of_getElem? (i := 84) (by decide +kernel)
  | 41, _ => exact List.mem_of_getElem? (i := 85) (by decide +kernel)
  | 42, _ => exact List.mem_of_getElem? (i := 86) (by decide +kernel)
  | 43, _ => exact List.mem_of_getElem? (i := 87) (by decide +kernel)
  | 44, _ => exact List.mem_of_getElem? (i := 88) (by decide +kernel)
  | 45, _ => exact List.mem_of_getElem? (i := 89) (by decide +kernel)
  | 46, _ => exact List.mem_of_getElem? (i := 90) (by decide +kernel)
  | 47, _ => exact List.mem_of_getElem? (i := 91) (by decide +kernel)
  | 48, _ => exact List.mem_of_getElem? (i := 92) (by decide +kernel)
  | 49, _ => exact List.mem_of_getElem? (i := 93) (by decide +kernel)
  | 50, _ => exact List.mem_of_getElem? (i := 94) (by decide +kernel)
  | 51, _ => exact List.mem_of_getElem? (i := 95) (by decide +kernel)
  | 52, _ => exact List.mem_of_getElem? (i := 96) (by decide +kernel)
  | 53, _ => exact List.mem_of_getElem? (i := 97) (by decide +kernel)
  | 54, _ => exact List.mem_of_getElem? (i := 98) (by decide +kernel)
  | 55, _ => exact List.mem_of_getElem? (i := 99) (by decide +kernel)
  | 56, _ => exact List.mem_of_getElem? (i := 100) (by decide +kernel)
  | 57, _ => exact List.mem_of_getElem? (i := 101) (by decide +kernel)
  | 58, _ => exact List.mem_of_getElem? (i := 102) (by decide +kernel)
  | 59, _ => exact List.mem_of_getElem? (i := 103) (by decide +kernel)
  | 60, _ => exact List.mem_of_getElem? (i := 104) (by decide +kernel)
  | 61, _ => exact List.mem_of_getElem? (i := 105) (by decide +kernel)
  | 62, _ => exact List.mem_of_getElem? (i := 106) (by decide +kernel)
  | 63, _ => exact List.mem_of_getElem? (i := 107) (by decide +kernel)
  | 64, _ => exact List.mem_of_getElem? (i := 108) (by decide +kernel)
  | i + 65, hi => exact absurd hi (by omega)
set_option maxRecDepth 100000 in
theorem zs_a2 : Cond.arrayOf (.static "ReedOracles$Reader" "GREATEST" "[I") .int ∈ zFl ∧ Cond.eq (.length (.static "ReedOracles$Reader" "GREATEST" "[I")) (.int (Int32.ofNat 65)) ∈ zFl := ⟨List.mem_of_getElem? (i := 42) (by decide +kernel), List.mem_of_getElem? (i := 43) (by decide +kernel)⟩
set_option maxRecDepth 100000 in
theorem zs_cs : Cond.eq (.static "java/lang/String" "COMPACT_STRINGS" "Z") (.int 1) ∈ zFl := List.mem_of_getElem? (i := 4) (by decide +kernel)
set_option maxRecDepth 100000 in
theorem zs_si : Cond.isRef (.static "jdk/internal/util/Preconditions" "SIOOBE_FORMATTER" "Ljava/util/function/BiFunction;") ∈ zFl := List.mem_of_getElem? (i := 5) (by decide +kernel)
set_option maxRecDepth 100000 in
theorem zs_t : (∀ q ∈ zNests, Cond.methodLinkNest q.1 q.2.1 q.2.2.1 q.2.2.2 ∈ lw_tbl) ∧ (∀ C ∈ zAOs, Cond.arrayOver (.object C) ∈ lw_tbl) ∧ (∀ q ∈ zStrs, Cond.stringRef "ReedOracles$Reader" q.1 q.2 ∈ lw_tbl) ∧ (∀ nm ∈ zStats, Cond.laysStatic "ReedOracles$Reader" nm "[I" ∈ lw_tbl) ∧ Cond.laysStatic "java/lang/String" "COMPACT_STRINGS" "Z" ∈ lw_tbl ∧ Cond.laysStatic "jdk/internal/util/Preconditions" "SIOOBE_FORMATTER" "Ljava/util/function/BiFunction;" ∈ lw_tbl ∧ Cond.initialized "ReedOracles$Reader" ∈ lw_tbl ∧ Cond.initialized "java/lang/String" ∈ lw_tbl ∧ Cond.initialized "jdk/internal/util/Preconditions" ∈ lw_tbl := ⟨List.forall_mem_cons.mpr ⟨tb4 _ (List.mem_of_getElem? (l := tables_1_4) (i := 11) rfl), List.forall_mem_cons.mpr ⟨tb4 _ (List.mem_of_getElem? (l := tables_1_4) (i := 16) rfl), List.forall_mem_cons.mpr ⟨tb4 _ (List.mem_of_getElem? (l := tables_1_4) (i := 31) rfl), List.forall_mem_cons.mpr ⟨tb4 _ (List.mem_of_getElem? (l := tables_1_4) (i := 98) rfl), List.forall_mem_cons.mpr ⟨tb4 _ (List.mem_of_getElem? (l := tables_1_4) (i := 99) rfl), List.forall_mem_cons.mpr ⟨tb4 _ (List.mem_of_getElem? (l := tables_1_4) (i := 160) rfl), List.forall_mem_cons.mpr ⟨tb5 _ (List.mem_of_getElem? (l := tables_1_5) (i := 10) rfl), List.forall_mem_cons.mpr ⟨tb5 _ (List.mem_of_getElem? (l := tables_1_5) (i := 163) rfl), List.forall_mem_cons.mpr ⟨tb6 _ (List.mem_of_getElem? (l := tables_1_6) (i := 36) rfl), (fun _ h => absurd h List.not_mem_nil)⟩⟩⟩⟩⟩⟩⟩⟩⟩, List.forall_mem_cons.mpr ⟨tb1 _ (List.mem_of_getElem? (l := tables_1_1) (i := 55) rfl), List.forall_mem_cons.mpr ⟨tb1 _ (List.mem_of_getElem? (l := tables_1_1) (i := 59) rfl), List.forall_mem_cons.mpr ⟨tb1 _ (List.mem_of_getElem? (l := tables_1_1) (i := 197) rfl), List.forall_mem_cons.mpr ⟨tb1 _ (List.mem_of_getElem? (l := tables_1_1) (i := 57) rfl), (fun _ h => absurd h List.not_mem_nil)⟩⟩⟩⟩, List.forall_mem_cons.mpr ⟨tb2 _ (List.mem_of_getElem? (l := tables_1_2) (i := 233) rfl), List.forall_mem_cons.mpr ⟨tb3 _ (List.mem_of_getElem? (l := tables_1_3) (i := 46) rfl), List.forall_mem_cons.mpr ⟨tb3 _ (List.mem_of_getElem? (l := tables_1_3) (i := 47) rfl), List.forall_mem_cons.mpr ⟨tb3 _ (List.mem_of_getElem? (l := tables_1_3) (i := 49) rfl), List.forall_mem_cons.mpr ⟨tb3 _ (List.mem_of_getElem? (l := tables_1_3) (i := 48) rfl), List.forall_mem_cons.mpr ⟨tb3 _ (List.mem_of_getElem? (l := tables_1_3) (i := 54) rfl), List.forall_mem_cons.mpr ⟨tb3 _ (List.mem_of_getElem? (l := tables_1_3) (i := 55) rfl), List.forall_mem_cons.mpr ⟨tb3 _ (List.mem_of_getElem? (l := tables_1_3) (i := 56) rfl), List.forall_mem_cons.mpr ⟨tb3 _ (List.mem_of_getElem? (l := tables_1_3) (i := 57) rfl), List.forall_mem_cons.mpr ⟨tb3 _ (List.mem_of_getElem? (l := tables_1_3) (i := 58) rfl), List.forall_mem_cons.mpr ⟨tb3 _ (List.mem_of_getElem? (l := tables_1_3) (i := 63) rfl), List.forall_mem_cons.mpr ⟨tb3 _ (List.mem_of_getElem? (l := tables_1_3) (i := 64) rfl), List.forall_mem_cons.mpr ⟨tb3 _ (List.mem_of_getElem? (l := tables_1_3) (i := 87) rfl), List.forall_mem_cons.mpr ⟨tb3 _ (List.mem_of_getElem? (l := tables_1_3) (i := 88) rfl), List.forall_mem_cons.mpr ⟨tb3 _ (List.mem_of_getElem? (l := tables_1_3) (i := 89) rfl), (fun _ h => absurd h List.not_mem_nil)⟩⟩⟩⟩⟩⟩⟩⟩⟩⟩⟩⟩⟩⟩⟩, List.forall_mem_cons.mpr ⟨tb3 _ (List.mem_of_getElem? (l := tables_1_3) (i := 74) rfl), List.forall_mem_cons.mpr ⟨tb3 _ (List.mem_of_getElem? (l := tables_1_3) (i := 80) rfl), List.forall_mem_cons.mpr ⟨tb3 _ (List.mem_of_getElem? (l := tables_1_3) (i := 82) rfl), (fun _ h => absurd h List.not_mem_nil)⟩⟩⟩, tb3 _ (List.mem_of_getElem? (l := tables_1_3) (i := 7) rfl), tb3 _ (List.mem_of_getElem? (l := tables_1_3) (i := 23) rfl), tb1 _ (List.mem_of_getElem? (l := tables_1_1) (i := 7) rfl), tb1 _ (List.mem_of_getElem? (l := tables_1_1) (i := 14) rfl), tb1 _ (List.mem_of_getElem? (l := tables_1_1) (i := 16) rfl)⟩
