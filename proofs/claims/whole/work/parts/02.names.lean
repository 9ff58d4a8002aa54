def RX0 : String := "ReedOracles$Acts"
def TX0 : u_T := fun k => match k with
  | 0 => ("ReedOracles$Acts", "length", "I", false)
  | 1 => ("ReedOracles$Acts", "origin", "[I", true)
  | 2 => ("ReedOracles$Acts", "queue", "[I", true)
  | _ => ("ReedOracles$Acts", "goal", "I", false)
def tyX0 : Nat → FieldType := fun k => match k with
  | 0 => .int
  | 1 => .array .int
  | 2 => .array .int
  | _ => .int
theorem nmX0 : ∀ a, a < 4 → ∀ b, b < 4 → a ≠ b → (TX0 a).2.1 ≠ (TX0 b).2.1 := by decide +kernel
theorem tyX0_ok : ∀ k, k < 4 → parseFieldDescriptor (TX0 k).2.2.1 = some (tyX0 k) := by decide +kernel
def RX1 : String := "ReedOracles$Course"
def TX1 : u_T := fun k => match k with
  | 0 => ("ReedOracles$Course", "done", "I", false)
  | 1 => ("ReedOracles$Course", "liar", "I", false)
  | 2 => ("ReedOracles$Course", "wet", "[I", true)
  | 3 => ("ReedOracles$Course", "key", "[I", true)
  | 4 => ("ReedOracles$Course", "played", "[I", true)
  | 5 => ("ReedOracles$Course", "playedInAll", "[I", true)
  | 6 => ("ReedOracles$Course", "asked", "[I", true)
  | 7 => ("ReedOracles$Course", "answered", "[I", true)
  | 8 => ("ReedOracles$Course", "cracked", "I", false)
  | 9 => ("ReedOracles$Course", "nights", "I", false)
  | 10 => ("ReedOracles$Course", "deaths", "I", false)
  | 11 => ("ReedOracles$Course", "marches", "I", false)
  | 12 => ("ReedOracles$Course", "clashes", "I", false)
  | 13 => ("ReedOracles$Course", "coughs", "I", false)
  | 14 => ("ReedOracles$Course", "cold", "I", false)
  | 15 => ("ReedOracles$Course", "lastNote", "I", false)
  | _ => ("ReedOracles$Course", "seed", "I", false)
def tyX1 : Nat → FieldType := fun k => match k with
  | 0 => .int
  | 1 => .int
  | 2 => .array .int
  | 3 => .array .int
  | 4 => .array .int
  | 5 => .array .int
  | 6 => .array .int
  | 7 => .array .int
  | 8 => .int
  | 9 => .int
  | 10 => .int
  | 11 => .int
  | 12 => .int
  | 13 => .int
  | 14 => .int
  | 15 => .int
  | _ => .int
theorem nmX1 : ∀ a, a < 17 → ∀ b, b < 17 → a ≠ b → (TX1 a).2.1 ≠ (TX1 b).2.1 := by decide +kernel
theorem tyX1_ok : ∀ k, k < 17 → parseFieldDescriptor (TX1 k).2.2.1 = some (tyX1 k) := by decide +kernel
def RX2 : String := "ReedOracles$Duchy"
def TX2 : u_T := fun k => match k with
  | 0 => ("ReedOracles$Duchy", "reeds", "I", false)
  | 1 => ("ReedOracles$Duchy", "players", "I", false)
  | 2 => ("ReedOracles$Duchy", "questions", "I", false)
  | 3 => ("ReedOracles$Duchy", "cold", "I", false)
  | 4 => ("ReedOracles$Duchy", "wet", "[I", true)
  | 5 => ("ReedOracles$Duchy", "key", "[I", true)
  | 6 => ("ReedOracles$Duchy", "breath", "[I", true)
  | 7 => ("ReedOracles$Duchy", "depth", "[I", true)
  | 8 => ("ReedOracles$Duchy", "kind", "[I", true)
  | _ => ("ReedOracles$Duchy", "means", "[I", true)
def tyX2 : Nat → FieldType := fun k => match k with
  | 0 => .int
  | 1 => .int
  | 2 => .int
  | 3 => .int
  | 4 => .array .int
  | 5 => .array .int
  | 6 => .array .int
  | 7 => .array .int
  | 8 => .array .int
  | _ => .array .int
theorem nmX2 : ∀ a, a < 10 → ∀ b, b < 10 → a ≠ b → (TX2 a).2.1 ≠ (TX2 b).2.1 := by decide +kernel
theorem tyX2_ok : ∀ k, k < 10 → parseFieldDescriptor (TX2 k).2.2.1 = some (tyX2 k) := by decide +kernel
def RX3 : String := "ReedOracles$Log"
def TX3 : u_T := fun k => match k with
  | 0 => ("ReedOracles$Log", "size", "I", false)
  | 1 => ("ReedOracles$Log", "player", "[I", true)
  | 2 => ("ReedOracles$Log", "question", "[I", true)
  | _ => ("ReedOracles$Log", "heard", "[I", true)
def tyX3 : Nat → FieldType := fun k => match k with
  | 0 => .int
  | 1 => .array .int
  | 2 => .array .int
  | _ => .array .int
theorem nmX3 : ∀ a, a < 4 → ∀ b, b < 4 → a ≠ b → (TX3 a).2.1 ≠ (TX3 b).2.1 := by decide +kernel
theorem tyX3_ok : ∀ k, k < 4 → parseFieldDescriptor (TX3 k).2.2.1 = some (tyX3 k) := by decide +kernel
def RX4 : String := "ReedOracles$Plans"
def TX4 : u_T := fun k => match k with
  | 0 => ("ReedOracles$Plans", "shared", "[I", true)
  | 1 => ("ReedOracles$Plans", "wished", "[I", true)
  | 2 => ("ReedOracles$Plans", "worth", "[I", true)
  | _ => ("ReedOracles$Plans", "lost", "[I", true)
def tyX4 : Nat → FieldType := fun k => match k with
  | 0 => .array .int
  | 1 => .array .int
  | 2 => .array .int
  | _ => .array .int
theorem nmX4 : ∀ a, a < 4 → ∀ b, b < 4 → a ≠ b → (TX4 a).2.1 ≠ (TX4 b).2.1 := by decide +kernel
theorem tyX4_ok : ∀ k, k < 4 → parseFieldDescriptor (TX4 k).2.2.1 = some (tyX4 k) := by decide +kernel
def RX5 : String := "ReedOracles$Reader"
def TX5 : u_T := fun k => match k with
  | 0 => ("ReedOracles$Reader", "duchy", "LReedOracles$Duchy;", true)
  | 1 => ("ReedOracles$Reader", "year", "LReedOracles$Year;", true)
  | 2 => ("ReedOracles$Reader", "log", "LReedOracles$Log;", true)
  | 3 => ("ReedOracles$Reader", "fault", "I", false)
  | 4 => ("ReedOracles$Reader", "place", "I", false)
  | 5 => ("ReedOracles$Reader", "tape", "LReedOracles$Tape;", true)
  | 6 => ("ReedOracles$Reader", "row", "[I", true)
  | 7 => ("ReedOracles$Reader", "at", "I", false)
  | 8 => ("ReedOracles$Reader", "start", "I", false)
  | 9 => ("ReedOracles$Reader", "token", "I", false)
  | _ => ("ReedOracles$Reader", "value", "I", false)
def tyX5 : Nat → FieldType := fun k => match k with
  | 0 => .object "ReedOracles$Duchy"
  | 1 => .object "ReedOracles$Year"
  | 2 => .object "ReedOracles$Log"
  | 3 => .int
  | 4 => .int
  | 5 => .object "ReedOracles$Tape"
  | 6 => .array .int
  | 7 => .int
  | 8 => .int
  | 9 => .int
  | _ => .int
theorem nmX5 : ∀ a, a < 11 → ∀ b, b < 11 → a ≠ b → (TX5 a).2.1 ≠ (TX5 b).2.1 := by decide +kernel
theorem tyX5_ok : ∀ k, k < 11 → parseFieldDescriptor (TX5 k).2.2.1 = some (tyX5 k) := by decide +kernel
def RX6 : String := "ReedOracles$Survey"
def TX6 : u_T := fun k => match k with
  | 0 => ("ReedOracles$Survey", "heap", "[I", true)
  | 1 => ("ReedOracles$Survey", "owned", "[I", true)
  | _ => ("ReedOracles$Survey", "sets", "[I", true)
def tyX6 : Nat → FieldType := fun k => match k with
  | 0 => .array .int
  | 1 => .array .int
  | _ => .array .int
theorem nmX6 : ∀ a, a < 3 → ∀ b, b < 3 → a ≠ b → (TX6 a).2.1 ≠ (TX6 b).2.1 := by decide +kernel
theorem tyX6_ok : ∀ k, k < 3 → parseFieldDescriptor (TX6 k).2.2.1 = some (tyX6 k) := by decide +kernel
def RX7 : String := "ReedOracles$Suspects"
def TX7 : u_T := fun k => match k with
  | 0 => ("ReedOracles$Suspects", "size", "I", false)
  | 1 => ("ReedOracles$Suspects", "list", "[I", true)
  | _ => ("ReedOracles$Suspects", "heap", "[I", true)
def tyX7 : Nat → FieldType := fun k => match k with
  | 0 => .int
  | 1 => .array .int
  | _ => .array .int
theorem nmX7 : ∀ a, a < 3 → ∀ b, b < 3 → a ≠ b → (TX7 a).2.1 ≠ (TX7 b).2.1 := by decide +kernel
theorem tyX7_ok : ∀ k, k < 3 → parseFieldDescriptor (TX7 k).2.2.1 = some (tyX7 k) := by decide +kernel
def RX8 : String := "ReedOracles$Tape"
def TX8 : u_T := fun k => match k with
  | 0 => ("ReedOracles$Tape", "bytes", "[B", true)
  | _ => ("ReedOracles$Tape", "size", "I", false)
def tyX8 : Nat → FieldType := fun k => match k with
  | 0 => .array .byte
  | _ => .int
theorem nmX8 : ∀ a, a < 2 → ∀ b, b < 2 → a ≠ b → (TX8 a).2.1 ≠ (TX8 b).2.1 := by decide +kernel
theorem tyX8_ok : ∀ k, k < 2 → parseFieldDescriptor (TX8 k).2.2.1 = some (tyX8 k) := by decide +kernel
def RX9 : String := "ReedOracles$Told"
def TX9 : u_T := fun k => match k with
  | 0 => ("ReedOracles$Told", "tape", "LReedOracles$Tape;", true)
  | 1 => ("ReedOracles$Told", "counts", "[I", true)
  | 2 => ("ReedOracles$Told", "duchies", "[LReedOracles$Duchy;", true)
  | 3 => ("ReedOracles$Told", "years", "[LReedOracles$Year;", true)
  | 4 => ("ReedOracles$Told", "logs", "[LReedOracles$Log;", true)
  | 5 => ("ReedOracles$Told", "fault", "I", false)
  | _ => ("ReedOracles$Told", "place", "I", false)
def tyX9 : Nat → FieldType := fun k => match k with
  | 0 => .object "ReedOracles$Tape"
  | 1 => .array .int
  | 2 => .array (.object "ReedOracles$Duchy")
  | 3 => .array (.object "ReedOracles$Year")
  | 4 => .array (.object "ReedOracles$Log")
  | 5 => .int
  | _ => .int
theorem nmX9 : ∀ a, a < 7 → ∀ b, b < 7 → a ≠ b → (TX9 a).2.1 ≠ (TX9 b).2.1 := by decide +kernel
theorem tyX9_ok : ∀ k, k < 7 → parseFieldDescriptor (TX9 k).2.2.1 = some (tyX9 k) := by decide +kernel
def RX10 : String := "ReedOracles$Year"
def TX10 : u_T := fun k => match k with
  | 0 => ("ReedOracles$Year", "size", "I", false)
  | _ => ("ReedOracles$Year", "cells", "[I", true)
def tyX10 : Nat → FieldType := fun k => match k with
  | 0 => .int
  | _ => .array .int
theorem nmX10 : ∀ a, a < 2 → ∀ b, b < 2 → a ≠ b → (TX10 a).2.1 ≠ (TX10 b).2.1 := by decide +kernel
theorem tyX10_ok : ∀ k, k < 2 → parseFieldDescriptor (TX10 k).2.2.1 = some (tyX10 k) := by decide +kernel
def RX11 : String := "ReedOracles"
def TX11 : u_T := fun k => match k with
  | 0 => ("ReedOracles", "now", "LReedOracles$Told;", true)
  | 1 => ("ReedOracles", "images", "[LReedOracles$Told;", true)
  | 2 => ("ReedOracles", "reader", "LReedOracles$Reader;", true)
  | 3 => ("ReedOracles", "course", "LReedOracles$Course;", true)
  | 4 => ("ReedOracles", "acts", "LReedOracles$Acts;", true)
  | 5 => ("ReedOracles", "plans", "LReedOracles$Plans;", true)
  | 6 => ("ReedOracles", "suspects", "LReedOracles$Suspects;", true)
  | _ => ("ReedOracles", "survey", "LReedOracles$Survey;", true)
def tyX11 : Nat → FieldType := fun k => match k with
  | 0 => .object "ReedOracles$Told"
  | 1 => .array (.object "ReedOracles$Told")
  | 2 => .object "ReedOracles$Reader"
  | 3 => .object "ReedOracles$Course"
  | 4 => .object "ReedOracles$Acts"
  | 5 => .object "ReedOracles$Plans"
  | 6 => .object "ReedOracles$Suspects"
  | _ => .object "ReedOracles$Survey"
theorem nmX11 : ∀ a, a < 8 → ∀ b, b < 8 → a ≠ b → (TX11 a).2.1 ≠ (TX11 b).2.1 := by decide +kernel
theorem tyX11_ok : ∀ k, k < 8 → parseFieldDescriptor (TX11 k).2.2.1 = some (tyX11 k) := by decide +kernel
def RX12 : String := "ReedOraclesModel"
def TX12 : u_T := fun k => match k with
  | 0 => ("ReedOraclesModel", "all", "[I", true)
  | 1 => ("ReedOraclesModel", "has", "[Z", true)
  | 2 => ("ReedOraclesModel", "size", "I", false)
  | 3 => ("ReedOraclesModel", "next", "I", false)
  | 4 => ("ReedOraclesModel", "where", "I", false)
  | 5 => ("ReedOraclesModel", "token", "I", false)
  | 6 => ("ReedOraclesModel", "number", "I", false)
  | 7 => ("ReedOraclesModel", "word", "I", false)
  | 8 => ("ReedOraclesModel", "wrong", "Z", false)
  | 9 => ("ReedOraclesModel", "read", "[I", true)
  | 10 => ("ReedOraclesModel", "d0", "I", false)
  | 11 => ("ReedOraclesModel", "reeds", "I", false)
  | 12 => ("ReedOraclesModel", "players", "I", false)
  | 13 => ("ReedOraclesModel", "questions", "I", false)
  | 14 => ("ReedOraclesModel", "wetNow", "I", false)
  | 15 => ("ReedOraclesModel", "keyNow", "I", false)
  | 16 => ("ReedOraclesModel", "coldNow", "I", false)
  | 17 => ("ReedOraclesModel", "acts", "[I", true)
  | 18 => ("ReedOraclesModel", "favours", "[I", true)
  | 19 => ("ReedOraclesModel", "dares", "[I", true)
  | 20 => ("ReedOraclesModel", "daresFirst", "I", false)
  | 21 => ("ReedOraclesModel", "programs", "[I", true)
  | 22 => ("ReedOraclesModel", "ownerOf", "[I", true)
  | 23 => ("ReedOraclesModel", "askedFor", "[I", true)
  | 24 => ("ReedOraclesModel", "y0", "I", false)
  | 25 => ("ReedOraclesModel", "nights", "I", false)
  | 26 => ("ReedOraclesModel", "cracked", "I", false)
  | 27 => ("ReedOraclesModel", "deaths", "I", false)
  | 28 => ("ReedOraclesModel", "marches", "I", false)
  | 29 => ("ReedOraclesModel", "clashes", "I", false)
  | 30 => ("ReedOraclesModel", "coughs", "I", false)
  | 31 => ("ReedOraclesModel", "cold", "I", false)
  | 32 => ("ReedOraclesModel", "lastNote", "I", false)
  | 33 => ("ReedOraclesModel", "done", "I", false)
  | 34 => ("ReedOraclesModel", "wets", "[I", true)
  | 35 => ("ReedOraclesModel", "keys", "[I", true)
  | 36 => ("ReedOraclesModel", "played", "[I", true)
  | 37 => ("ReedOraclesModel", "answered", "[I", true)
  | 38 => ("ReedOraclesModel", "famed", "[I", true)
  | 39 => ("ReedOraclesModel", "sung", "[I", true)
  | 40 => ("ReedOraclesModel", "l0", "I", false)
  | 41 => ("ReedOraclesModel", "by", "[I", true)
  | _ => ("ReedOraclesModel", "x0", "I", false)
def tyX12 : Nat → FieldType := fun k => match k with
  | 0 => .array .int
  | 1 => .array .boolean
  | 2 => .int
  | 3 => .int
  | 4 => .int
  | 5 => .int
  | 6 => .int
  | 7 => .int
  | 8 => .boolean
  | 9 => .array .int
  | 10 => .int
  | 11 => .int
  | 12 => .int
  | 13 => .int
  | 14 => .int
  | 15 => .int
  | 16 => .int
  | 17 => .array .int
  | 18 => .array .int
  | 19 => .array .int
  | 20 => .int
  | 21 => .array .int
  | 22 => .array .int
  | 23 => .array .int
  | 24 => .int
  | 25 => .int
  | 26 => .int
  | 27 => .int
  | 28 => .int
  | 29 => .int
  | 30 => .int
  | 31 => .int
  | 32 => .int
  | 33 => .int
  | 34 => .array .int
  | 35 => .array .int
  | 36 => .array .int
  | 37 => .array .int
  | 38 => .array .int
  | 39 => .array .int
  | 40 => .int
  | 41 => .array .int
  | _ => .int
theorem nmX12 : ∀ a, a < 43 → ∀ b, b < 43 → a ≠ b → (TX12 a).2.1 ≠ (TX12 b).2.1 := by decide +kernel
theorem tyX12_ok : ∀ k, k < 43 → parseFieldDescriptor (TX12 k).2.2.1 = some (tyX12 k) := by decide +kernel
abbrev vwCl : List vw_C := [(RX0, TX0, 4), (RX1, TX1, 17), (RX2, TX2, 10), (RX3, TX3, 4), (RX4, TX4, 4), (RX5, TX5, 11), (RX6, TX6, 3), (RX7, TX7, 3), (RX8, TX8, 2), (RX9, TX9, 7), (RX10, TX10, 2), (RX11, TX11, 8), (RX12, TX12, 43)]
theorem inX0 : ∀ w ∈ u_ws RX0 TX0 4, w ∈ lw_tbl := by
  have h : (u_ws RX0 TX0 4) = ([438, 440, 442, 444] : List Nat).filterMap (fun i => lw_tbl[i]?) := by decide +kernel
  intro w hw
  rw [h] at hw
  obtain ⟨i, -, hi⟩ := List.mem_filterMap.mp hw
  exact List.mem_of_getElem? hi
theorem inX1 : ∀ w ∈ u_ws RX1 TX1 17, w ∈ lw_tbl := by
  have h : (u_ws RX1 TX1 17) = ([392, 394, 396, 398, 400, 402, 404, 406, 408, 410, 412, 414, 416, 418, 420, 422, 424] : List Nat).filterMap (fun i => lw_tbl[i]?) := by decide +kernel
  intro w hw
  rw [h] at hw
  obtain ⟨i, -, hi⟩ := List.mem_filterMap.mp hw
  exact List.mem_of_getElem? hi
theorem inX2 : ∀ w ∈ u_ws RX2 TX2 10, w ∈ lw_tbl := by
  have h : (u_ws RX2 TX2 10) = ([225, 227, 229, 231, 233, 235, 237, 239, 241, 243] : List Nat).filterMap (fun i => lw_tbl[i]?) := by decide +kernel
  intro w hw
  rw [h] at hw
  obtain ⟨i, -, hi⟩ := List.mem_filterMap.mp hw
  exact List.mem_of_getElem? hi
theorem inX3 : ∀ w ∈ u_ws RX3 TX3 4, w ∈ lw_tbl := by
  have h : (u_ws RX3 TX3 4) = ([280, 282, 284, 286] : List Nat).filterMap (fun i => lw_tbl[i]?) := by decide +kernel
  intro w hw
  rw [h] at hw
  obtain ⟨i, -, hi⟩ := List.mem_filterMap.mp hw
  exact List.mem_of_getElem? hi
theorem inX4 : ∀ w ∈ u_ws RX4 TX4 4, w ∈ lw_tbl := by
  have h : (u_ws RX4 TX4 4) = ([457, 459, 461, 463] : List Nat).filterMap (fun i => lw_tbl[i]?) := by decide +kernel
  intro w hw
  rw [h] at hw
  obtain ⟨i, -, hi⟩ := List.mem_filterMap.mp hw
  exact List.mem_of_getElem? hi
theorem inX5 : ∀ w ∈ u_ws RX5 TX5 11, w ∈ lw_tbl := by
  have h : (u_ws RX5 TX5 11) = ([344, 346, 348, 350, 352, 354, 356, 358, 360, 362, 364] : List Nat).filterMap (fun i => lw_tbl[i]?) := by decide +kernel
  intro w hw
  rw [h] at hw
  obtain ⟨i, -, hi⟩ := List.mem_filterMap.mp hw
  exact List.mem_of_getElem? hi
theorem inX6 : ∀ w ∈ u_ws RX6 TX6 3, w ∈ lw_tbl := by
  have h : (u_ws RX6 TX6 3) = ([494, 496, 498] : List Nat).filterMap (fun i => lw_tbl[i]?) := by decide +kernel
  intro w hw
  rw [h] at hw
  obtain ⟨i, -, hi⟩ := List.mem_filterMap.mp hw
  exact List.mem_of_getElem? hi
theorem inX7 : ∀ w ∈ u_ws RX7 TX7 3, w ∈ lw_tbl := by
  have h : (u_ws RX7 TX7 3) = ([476, 478, 480] : List Nat).filterMap (fun i => lw_tbl[i]?) := by decide +kernel
  intro w hw
  rw [h] at hw
  obtain ⟨i, -, hi⟩ := List.mem_filterMap.mp hw
  exact List.mem_of_getElem? hi
theorem inX8 : ∀ w ∈ u_ws RX8 TX8 2, w ∈ lw_tbl := by
  have h : (u_ws RX8 TX8 2) = ([166, 168] : List Nat).filterMap (fun i => lw_tbl[i]?) := by decide +kernel
  intro w hw
  rw [h] at hw
  obtain ⟨i, -, hi⟩ := List.mem_filterMap.mp hw
  exact List.mem_of_getElem? hi
theorem inX9 : ∀ w ∈ u_ws RX9 TX9 7, w ∈ lw_tbl := by
  have h : (u_ws RX9 TX9 7) = ([300, 302, 304, 306, 308, 310, 312] : List Nat).filterMap (fun i => lw_tbl[i]?) := by decide +kernel
  intro w hw
  rw [h] at hw
  obtain ⟨i, -, hi⟩ := List.mem_filterMap.mp hw
  exact List.mem_of_getElem? hi
theorem inX10 : ∀ w ∈ u_ws RX10 TX10 2, w ∈ lw_tbl := by
  have h : (u_ws RX10 TX10 2) = ([257, 259] : List Nat).filterMap (fun i => lw_tbl[i]?) := by decide +kernel
  intro w hw
  rw [h] at hw
  obtain ⟨i, -, hi⟩ := List.mem_filterMap.mp hw
  exact List.mem_of_getElem? hi
theorem inX11 : ∀ w ∈ u_ws RX11 TX11 8, w ∈ lw_tbl := by
  have h : (u_ws RX11 TX11 8) = ([509, 511, 513, 515, 517, 519, 521, 523] : List Nat).filterMap (fun i => lw_tbl[i]?) := by decide +kernel
  intro w hw
  rw [h] at hw
  obtain ⟨i, -, hi⟩ := List.mem_filterMap.mp hw
  exact List.mem_of_getElem? hi
theorem inX12 : ∀ w ∈ u_ws RX12 TX12 43, w ∈ lw_tbl := by
  have h : (u_ws RX12 TX12 43) = ([1440, 1442, 1444, 1446, 1448, 1450, 1452, 1454, 1456, 1458, 1460, 1462, 1464, 1466, 1468, 1470, 1472, 1474, 1476, 1478, 1480, 1482, 1484, 1486, 1488, 1490, 1492, 1494, 1496, 1498, 1500, 1502, 1504, 1506, 1508, 1510, 1512, 1514, 1516, 1518, 1520, 1522, 1524] : List Nat).filterMap (fun i => lw_tbl[i]?) := by decide +kernel
  intro w hw
  rw [h] at hw
  obtain ⟨i, -, hi⟩ := List.mem_filterMap.mp hw
  exact List.mem_of_getElem? hi
