def RX0 : String := "TalkTables$Areas"
def TX0 : u_T := fun k => match k with
  | 0 => ("TalkTables$Areas", "table", "LTalkTables$Table;", true)
  | 1 => ("TalkTables$Areas", "seen", "[I", false)
  | 2 => ("TalkTables$Areas", "fresh", "Z", false)
  | _ => ("TalkTables$Areas", "picked", "I", false)
def tyX0 : Nat → FieldType := fun k => match k with
  | 0 => .object "TalkTables$Table"
  | 1 => .array .int
  | 2 => .boolean
  | _ => .int
theorem nmX0 : ∀ a, a < 4 → ∀ b, b < 4 → a ≠ b → (TX0 a).2.1 ≠ (TX0 b).2.1 := by decide +kernel
theorem tyX0_ok : ∀ k, k < 4 → parseFieldDescriptor (TX0 k).2.2.1 = some (tyX0 k) := by decide +kernel
set_option maxRecDepth 20000 in
theorem inX0 : ∀ w ∈ u_ws RX0 TX0 4, w ∈ lw_tbl := by
  have h : u_ws RX0 TX0 4 = [388, 390, 392, 394].filterMap (fun i => lw_tbl[i]?) := by decide +kernel
  intro w hw; rw [h] at hw; obtain ⟨i, -, hi⟩ := List.mem_filterMap.mp hw; exact List.mem_of_getElem? hi
def RX1 : String := "TalkTables$Best"
def TX1 : u_T := fun k => match k with
  | 0 => ("TalkTables$Best", "areas", "LTalkTables$Areas;", true)
  | 1 => ("TalkTables$Best", "table", "LTalkTables$Table;", true)
  | 2 => ("TalkTables$Best", "how", "I", true)
  | 3 => ("TalkTables$Best", "nodes", "LTalkTables$Nodes;", true)
  | 4 => ("TalkTables$Best", "worth", "[I", false)
  | 5 => ("TalkTables$Best", "solved", "Z", false)
  | _ => ("TalkTables$Best", "grown", "Z", false)
def tyX1 : Nat → FieldType := fun k => match k with
  | 0 => .object "TalkTables$Areas"
  | 1 => .object "TalkTables$Table"
  | 2 => .int
  | 3 => .object "TalkTables$Nodes"
  | 4 => .array .int
  | 5 => .boolean
  | _ => .boolean
theorem nmX1 : ∀ a, a < 7 → ∀ b, b < 7 → a ≠ b → (TX1 a).2.1 ≠ (TX1 b).2.1 := by decide +kernel
theorem tyX1_ok : ∀ k, k < 7 → parseFieldDescriptor (TX1 k).2.2.1 = some (tyX1 k) := by decide +kernel
set_option maxRecDepth 20000 in
theorem inX1 : ∀ w ∈ u_ws RX1 TX1 7, w ∈ lw_tbl := by
  have h : u_ws RX1 TX1 7 = [504, 506, 508, 510, 512, 514, 516].filterMap (fun i => lw_tbl[i]?) := by decide +kernel
  intro w hw; rw [h] at hw; obtain ⟨i, -, hi⟩ := List.mem_filterMap.mp hw; exact List.mem_of_getElem? hi
def RX2 : String := "TalkTables$Fools"
def TX2 : u_T := fun k => match k with
  | 0 => ("TalkTables$Fools", "table", "LTalkTables$Table;", true)
  | 1 => ("TalkTables$Fools", "cells", "[I", true)
  | 2 => ("TalkTables$Fools", "partners", "[J", true)
  | 3 => ("TalkTables$Fools", "path", "[I", true)
  | 4 => ("TalkTables$Fools", "top", "[I", true)
  | 5 => ("TalkTables$Fools", "count", "I", false)
  | _ => ("TalkTables$Fools", "topSize", "I", false)
def tyX2 : Nat → FieldType := fun k => match k with
  | 0 => .object "TalkTables$Table"
  | 1 => .array .int
  | 2 => .array .long
  | 3 => .array .int
  | 4 => .array .int
  | 5 => .int
  | _ => .int
theorem nmX2 : ∀ a, a < 7 → ∀ b, b < 7 → a ≠ b → (TX2 a).2.1 ≠ (TX2 b).2.1 := by decide +kernel
theorem tyX2_ok : ∀ k, k < 7 → parseFieldDescriptor (TX2 k).2.2.1 = some (tyX2 k) := by decide +kernel
set_option maxRecDepth 20000 in
theorem inX2 : ∀ w ∈ u_ws RX2 TX2 7, w ∈ lw_tbl := by
  have h : u_ws RX2 TX2 7 = [336, 338, 340, 342, 344, 346, 348].filterMap (fun i => lw_tbl[i]?) := by decide +kernel
  intro w hw; rw [h] at hw; obtain ⟨i, -, hi⟩ := List.mem_filterMap.mp hw; exact List.mem_of_getElem? hi
def RX3 : String := "TalkTables$Lines"
def TX3 : u_T := fun k => match k with
  | 0 => ("TalkTables$Lines", "table", "LTalkTables$Table;", true)
  | 1 => ("TalkTables$Lines", "matrix", "[J", true)
  | 2 => ("TalkTables$Lines", "clashes", "[I", true)
  | 3 => ("TalkTables$Lines", "peaceful", "[I", true)
  | _ => ("TalkTables$Lines", "fewest", "[I", true)
def tyX3 : Nat → FieldType := fun k => match k with
  | 0 => .object "TalkTables$Table"
  | 1 => .array .long
  | 2 => .array .int
  | 3 => .array .int
  | _ => .array .int
theorem nmX3 : ∀ a, a < 5 → ∀ b, b < 5 → a ≠ b → (TX3 a).2.1 ≠ (TX3 b).2.1 := by decide +kernel
theorem tyX3_ok : ∀ k, k < 5 → parseFieldDescriptor (TX3 k).2.2.1 = some (tyX3 k) := by decide +kernel
set_option maxRecDepth 20000 in
theorem inX3 : ∀ w ∈ u_ws RX3 TX3 5, w ∈ lw_tbl := by
  have h : u_ws RX3 TX3 5 = [362, 364, 366, 368, 370].filterMap (fun i => lw_tbl[i]?) := by decide +kernel
  intro w hw; rw [h] at hw; obtain ⟨i, -, hi⟩ := List.mem_filterMap.mp hw; exact List.mem_of_getElem? hi
def RX4 : String := "TalkTables$Nodes"
def TX4 : u_T := fun k => match k with
  | 0 => ("TalkTables$Nodes", "kind", "[I", true)
  | 1 => ("TalkTables$Nodes", "content", "[I", true)
  | 2 => ("TalkTables$Nodes", "second", "[I", true)
  | _ => ("TalkTables$Nodes", "count", "I", false)
def tyX4 : Nat → FieldType := fun k => match k with
  | 0 => .array .int
  | 1 => .array .int
  | 2 => .array .int
  | _ => .int
theorem nmX4 : ∀ a, a < 4 → ∀ b, b < 4 → a ≠ b → (TX4 a).2.1 ≠ (TX4 b).2.1 := by decide +kernel
theorem tyX4_ok : ∀ k, k < 4 → parseFieldDescriptor (TX4 k).2.2.1 = some (tyX4 k) := by decide +kernel
set_option maxRecDepth 20000 in
theorem inX4 : ∀ w ∈ u_ws RX4 TX4 4, w ∈ lw_tbl := by
  have h : u_ws RX4 TX4 4 = [215, 217, 219, 221].filterMap (fun i => lw_tbl[i]?) := by decide +kernel
  intro w hw; rw [h] at hw; obtain ⟨i, -, hi⟩ := List.mem_filterMap.mp hw; exact List.mem_of_getElem? hi
def RX5 : String := "TalkTables$Patches"
def TX5 : u_T := fun k => match k with
  | 0 => ("TalkTables$Patches", "table", "LTalkTables$Table;", true)
  | 1 => ("TalkTables$Patches", "own", "[I", true)
  | 2 => ("TalkTables$Patches", "other", "[I", true)
  | 3 => ("TalkTables$Patches", "fullRows", "[I", true)
  | 4 => ("TalkTables$Patches", "fullColumns", "[I", true)
  | 5 => ("TalkTables$Patches", "fullCells", "[J", true)
  | 6 => ("TalkTables$Patches", "fulls", "I", false)
  | 7 => ("TalkTables$Patches", "topCells", "I", false)
  | 8 => ("TalkTables$Patches", "topRows", "I", false)
  | _ => ("TalkTables$Patches", "topColumns", "I", false)
def tyX5 : Nat → FieldType := fun k => match k with
  | 0 => .object "TalkTables$Table"
  | 1 => .array .int
  | 2 => .array .int
  | 3 => .array .int
  | 4 => .array .int
  | 5 => .array .long
  | 6 => .int
  | 7 => .int
  | 8 => .int
  | _ => .int
theorem nmX5 : ∀ a, a < 10 → ∀ b, b < 10 → a ≠ b → (TX5 a).2.1 ≠ (TX5 b).2.1 := by decide +kernel
theorem tyX5_ok : ∀ k, k < 10 → parseFieldDescriptor (TX5 k).2.2.1 = some (tyX5 k) := by decide +kernel
set_option maxRecDepth 20000 in
theorem inX5 : ∀ w ∈ u_ws RX5 TX5 10, w ∈ lw_tbl := by
  have h : u_ws RX5 TX5 10 = [299, 301, 303, 305, 307, 309, 311, 313, 315, 317].filterMap (fun i => lw_tbl[i]?) := by decide +kernel
  intro w hw; rw [h] at hw; obtain ⟨i, -, hi⟩ := List.mem_filterMap.mp hw; exact List.mem_of_getElem? hi
def RX6 : String := "TalkTables$Reader"
def TX6 : u_T := fun k => match k with
  | 0 => ("TalkTables$Reader", "tape", "[B", true)
  | 1 => ("TalkTables$Reader", "table", "LTalkTables$Table;", true)
  | 2 => ("TalkTables$Reader", "trees", "[LTalkTables$Nodes;", true)
  | 3 => ("TalkTables$Reader", "names", "[I", true)
  | 4 => ("TalkTables$Reader", "length", "I", false)
  | 5 => ("TalkTables$Reader", "treeCount", "I", false)
  | 6 => ("TalkTables$Reader", "fault", "I", false)
  | 7 => ("TalkTables$Reader", "place", "I", false)
  | 8 => ("TalkTables$Reader", "costTold", "Z", false)
  | 9 => ("TalkTables$Reader", "next", "I", false)
  | 10 => ("TalkTables$Reader", "token", "I", false)
  | 11 => ("TalkTables$Reader", "first", "I", false)
  | 12 => ("TalkTables$Reader", "size", "I", false)
  | _ => ("TalkTables$Reader", "word", "I", false)
def tyX6 : Nat → FieldType := fun k => match k with
  | 0 => .array .byte
  | 1 => .object "TalkTables$Table"
  | 2 => .array (.object "TalkTables$Nodes")
  | 3 => .array .int
  | 4 => .int
  | 5 => .int
  | 6 => .int
  | 7 => .int
  | 8 => .boolean
  | 9 => .int
  | 10 => .int
  | 11 => .int
  | 12 => .int
  | _ => .int
theorem nmX6 : ∀ a, a < 14 → ∀ b, b < 14 → a ≠ b → (TX6 a).2.1 ≠ (TX6 b).2.1 := by decide +kernel
theorem tyX6_ok : ∀ k, k < 14 → parseFieldDescriptor (TX6 k).2.2.1 = some (tyX6 k) := by decide +kernel
set_option maxRecDepth 20000 in
theorem inX6 : ∀ w ∈ u_ws RX6 TX6 14, w ∈ lw_tbl := by
  have h : u_ws RX6 TX6 14 = [244, 246, 248, 250, 252, 254, 256, 258, 260, 262, 264, 266, 268, 270].filterMap (fun i => lw_tbl[i]?) := by decide +kernel
  intro w hw; rw [h] at hw; obtain ⟨i, -, hi⟩ := List.mem_filterMap.mp hw; exact List.mem_of_getElem? hi
def RX7 : String := "TalkTables$Spoilt"
def TX7 : u_T := fun k => match k with
  | 0 => ("TalkTables$Spoilt", "areas", "LTalkTables$Areas;", true)
  | 1 => ("TalkTables$Spoilt", "table", "LTalkTables$Table;", true)
  | 2 => ("TalkTables$Spoilt", "answers", "[I", true)
  | 3 => ("TalkTables$Spoilt", "counts", "[J", false)
  | 4 => ("TalkTables$Spoilt", "ready", "I", false)
  | _ => ("TalkTables$Spoilt", "fallen", "I", false)
def tyX7 : Nat → FieldType := fun k => match k with
  | 0 => .object "TalkTables$Areas"
  | 1 => .object "TalkTables$Table"
  | 2 => .array .int
  | 3 => .array .long
  | 4 => .int
  | _ => .int
theorem nmX7 : ∀ a, a < 6 → ∀ b, b < 6 → a ≠ b → (TX7 a).2.1 ≠ (TX7 b).2.1 := by decide +kernel
theorem tyX7_ok : ∀ k, k < 6 → parseFieldDescriptor (TX7 k).2.2.1 = some (tyX7 k) := by decide +kernel
set_option maxRecDepth 20000 in
theorem inX7 : ∀ w ∈ u_ws RX7 TX7 6, w ∈ lw_tbl := by
  have h : u_ws RX7 TX7 6 = [441, 443, 445, 447, 449, 451].filterMap (fun i => lw_tbl[i]?) := by decide +kernel
  intro w hw; rw [h] at hw; obtain ⟨i, -, hi⟩ := List.mem_filterMap.mp hw; exact List.mem_of_getElem? hi
def RX8 : String := "TalkTables$Table"
def TX8 : u_T := fun k => match k with
  | 0 => ("TalkTables$Table", "cells", "[I", true)
  | 1 => ("TalkTables$Table", "rows", "I", false)
  | 2 => ("TalkTables$Table", "columns", "I", false)
  | 3 => ("TalkTables$Table", "costA", "I", false)
  | _ => ("TalkTables$Table", "costB", "I", false)
def tyX8 : Nat → FieldType := fun k => match k with
  | 0 => .array .int
  | 1 => .int
  | 2 => .int
  | 3 => .int
  | _ => .int
theorem nmX8 : ∀ a, a < 5 → ∀ b, b < 5 → a ≠ b → (TX8 a).2.1 ≠ (TX8 b).2.1 := by decide +kernel
theorem tyX8_ok : ∀ k, k < 5 → parseFieldDescriptor (TX8 k).2.2.1 = some (tyX8 k) := by decide +kernel
set_option maxRecDepth 20000 in
theorem inX8 : ∀ w ∈ u_ws RX8 TX8 5, w ∈ lw_tbl := by
  have h : u_ws RX8 TX8 5 = [182, 184, 186, 188, 190].filterMap (fun i => lw_tbl[i]?) := by decide +kernel
  intro w hw; rw [h] at hw; obtain ⟨i, -, hi⟩ := List.mem_filterMap.mp hw; exact List.mem_of_getElem? hi
def RX9 : String := "TalkTables$Told"
def TX9 : u_T := fun k => match k with
  | 0 => ("TalkTables$Told", "nodes", "LTalkTables$Nodes;", true)
  | 1 => ("TalkTables$Told", "rows", "[I", true)
  | 2 => ("TalkTables$Told", "columns", "[I", true)
  | 3 => ("TalkTables$Told", "depth", "[I", true)
  | 4 => ("TalkTables$Told", "spent", "[I", true)
  | 5 => ("TalkTables$Told", "changes", "[I", true)
  | _ => ("TalkTables$Told", "before", "[I", true)
def tyX9 : Nat → FieldType := fun k => match k with
  | 0 => .object "TalkTables$Nodes"
  | 1 => .array .int
  | 2 => .array .int
  | 3 => .array .int
  | 4 => .array .int
  | 5 => .array .int
  | _ => .array .int
theorem nmX9 : ∀ a, a < 7 → ∀ b, b < 7 → a ≠ b → (TX9 a).2.1 ≠ (TX9 b).2.1 := by decide +kernel
theorem tyX9_ok : ∀ k, k < 7 → parseFieldDescriptor (TX9 k).2.2.1 = some (tyX9 k) := by decide +kernel
set_option maxRecDepth 20000 in
theorem inX9 : ∀ w ∈ u_ws RX9 TX9 7, w ∈ lw_tbl := by
  have h : u_ws RX9 TX9 7 = [473, 475, 477, 479, 481, 483, 485].filterMap (fun i => lw_tbl[i]?) := by decide +kernel
  intro w hw; rw [h] at hw; obtain ⟨i, -, hi⟩ := List.mem_filterMap.mp hw; exact List.mem_of_getElem? hi
def RX10 : String := "TalkTables$Turns"
def TX10 : u_T := fun k => match k with
  | 0 => ("TalkTables$Turns", "areas", "LTalkTables$Areas;", true)
  | 1 => ("TalkTables$Turns", "table", "LTalkTables$Table;", true)
  | 2 => ("TalkTables$Turns", "answers", "[I", true)
  | 3 => ("TalkTables$Turns", "goesA", "[I", false)
  | 4 => ("TalkTables$Turns", "goesB", "[I", false)
  | 5 => ("TalkTables$Turns", "ready", "I", false)
  | _ => ("TalkTables$Turns", "changing", "Z", false)
def tyX10 : Nat → FieldType := fun k => match k with
  | 0 => .object "TalkTables$Areas"
  | 1 => .object "TalkTables$Table"
  | 2 => .array .int
  | 3 => .array .int
  | 4 => .array .int
  | 5 => .int
  | _ => .boolean
theorem nmX10 : ∀ a, a < 7 → ∀ b, b < 7 → a ≠ b → (TX10 a).2.1 ≠ (TX10 b).2.1 := by decide +kernel
theorem tyX10_ok : ∀ k, k < 7 → parseFieldDescriptor (TX10 k).2.2.1 = some (tyX10 k) := by decide +kernel
set_option maxRecDepth 20000 in
theorem inX10 : ∀ w ∈ u_ws RX10 TX10 7, w ∈ lw_tbl := by
  have h : u_ws RX10 TX10 7 = [413, 415, 417, 419, 421, 423, 425].filterMap (fun i => lw_tbl[i]?) := by decide +kernel
  intro w hw; rw [h] at hw; obtain ⟨i, -, hi⟩ := List.mem_filterMap.mp hw; exact List.mem_of_getElem? hi
def RX11 : String := "TalkTables"
def TX11 : u_T := fun k => match k with
  | 0 => ("TalkTables", "reader", "LTalkTables$Reader;", true)
  | 1 => ("TalkTables", "table", "LTalkTables$Table;", true)
  | 2 => ("TalkTables", "trees", "[LTalkTables$Told;", true)
  | 3 => ("TalkTables", "acts", "[I", true)
  | 4 => ("TalkTables", "patches", "LTalkTables$Patches;", true)
  | 5 => ("TalkTables", "fools", "LTalkTables$Fools;", true)
  | 6 => ("TalkTables", "lines", "LTalkTables$Lines;", true)
  | 7 => ("TalkTables", "areas", "LTalkTables$Areas;", true)
  | 8 => ("TalkTables", "bests", "[LTalkTables$Best;", true)
  | 9 => ("TalkTables", "turns", "LTalkTables$Turns;", true)
  | 10 => ("TalkTables", "spoilt", "LTalkTables$Spoilt;", true)
  | 11 => ("TalkTables", "treeCount", "I", false)
  | _ => ("TalkTables", "kept", "I", false)
def tyX11 : Nat → FieldType := fun k => match k with
  | 0 => .object "TalkTables$Reader"
  | 1 => .object "TalkTables$Table"
  | 2 => .array (.object "TalkTables$Told")
  | 3 => .array .int
  | 4 => .object "TalkTables$Patches"
  | 5 => .object "TalkTables$Fools"
  | 6 => .object "TalkTables$Lines"
  | 7 => .object "TalkTables$Areas"
  | 8 => .array (.object "TalkTables$Best")
  | 9 => .object "TalkTables$Turns"
  | 10 => .object "TalkTables$Spoilt"
  | 11 => .int
  | _ => .int
theorem nmX11 : ∀ a, a < 13 → ∀ b, b < 13 → a ≠ b → (TX11 a).2.1 ≠ (TX11 b).2.1 := by decide +kernel
theorem tyX11_ok : ∀ k, k < 13 → parseFieldDescriptor (TX11 k).2.2.1 = some (tyX11 k) := by decide +kernel
set_option maxRecDepth 20000 in
theorem inX11 : ∀ w ∈ u_ws RX11 TX11 13, w ∈ lw_tbl := by
  have h : u_ws RX11 TX11 13 = [532, 534, 536, 538, 540, 542, 544, 546, 548, 550, 552, 554, 556].filterMap (fun i => lw_tbl[i]?) := by decide +kernel
  intro w hw; rw [h] at hw; obtain ⟨i, -, hi⟩ := List.mem_filterMap.mp hw; exact List.mem_of_getElem? hi
def RX12 : String := "TalkTablesModel"
def TX12 : u_T := fun k => match k with
  | 0 => ("TalkTablesModel", "thrown", "I", false)
  | 1 => ("TalkTablesModel", "rows", "I", false)
  | 2 => ("TalkTablesModel", "columns", "I", false)
  | 3 => ("TalkTablesModel", "trees", "I", false)
  | 4 => ("TalkTablesModel", "rowsRead", "I", false)
  | 5 => ("TalkTablesModel", "columnsRead", "I", false)
  | 6 => ("TalkTablesModel", "treesRead", "I", false)
  | 7 => ("TalkTablesModel", "cells", "[I", true)
  | 8 => ("TalkTablesModel", "cellsRead", "[I", true)
  | 9 => ("TalkTablesModel", "nameRead", "[I", true)
  | 10 => ("TalkTablesModel", "cost", "[I", true)
  | 11 => ("TalkTablesModel", "costRead", "[I", true)
  | 12 => ("TalkTablesModel", "nodeMany", "[I", true)
  | 13 => ("TalkTablesModel", "kind", "[I", true)
  | 14 => ("TalkTablesModel", "told", "[I", true)
  | 15 => ("TalkTablesModel", "second", "[I", true)
  | 16 => ("TalkTablesModel", "deep", "[I", true)
  | 17 => ("TalkTablesModel", "manyRead", "[I", true)
  | 18 => ("TalkTablesModel", "kindRead", "[I", true)
  | 19 => ("TalkTablesModel", "toldRead", "[I", true)
  | 20 => ("TalkTablesModel", "secondRead", "[I", true)
  | 21 => ("TalkTablesModel", "deepRead", "[I", true)
  | 22 => ("TalkTablesModel", "tape", "[I", true)
  | 23 => ("TalkTablesModel", "taped", "I", false)
  | 24 => ("TalkTablesModel", "size", "I", false)
  | 25 => ("TalkTablesModel", "at", "I", false)
  | 26 => ("TalkTablesModel", "behind", "I", false)
  | 27 => ("TalkTablesModel", "token", "I", false)
  | 28 => ("TalkTablesModel", "word", "I", false)
  | 29 => ("TalkTablesModel", "faultKind", "I", false)
  | 30 => ("TalkTablesModel", "faultPlace", "I", false)
  | 31 => ("TalkTablesModel", "wrong", "I", false)
  | 32 => ("TalkTablesModel", "wrongAt", "I", false)
  | 33 => ("TalkTablesModel", "hasCost", "Z", false)
  | 34 => ("TalkTablesModel", "waits", "[I", true)
  | 35 => ("TalkTablesModel", "waiting", "I", false)
  | 36 => ("TalkTablesModel", "fullRows", "[I", true)
  | 37 => ("TalkTablesModel", "fullColumns", "[I", true)
  | 38 => ("TalkTablesModel", "fullMany", "I", false)
  | 39 => ("TalkTablesModel", "chosen", "[I", true)
  | 40 => ("TalkTablesModel", "pick", "[I", true)
  | 41 => ("TalkTablesModel", "fooled", "[I", true)
  | 42 => ("TalkTablesModel", "foolMany", "[I", true)
  | 43 => ("TalkTablesModel", "foolBest", "I", false)
  | 44 => ("TalkTablesModel", "matrix", "[J", true)
  | 45 => ("TalkTablesModel", "fewest", "[I", true)
  | 46 => ("TalkTablesModel", "best", "[I", true)
  | 47 => ("TalkTablesModel", "byTalk", "[I", true)
  | 48 => ("TalkTablesModel", "errors", "[I", true)
  | 49 => ("TalkTablesModel", "isLaid", "Z", false)
  | 50 => ("TalkTablesModel", "bestKind", "[I", true)
  | 51 => ("TalkTablesModel", "bestTold", "[I", true)
  | 52 => ("TalkTablesModel", "bestSecond", "[I", true)
  | 53 => ("TalkTablesModel", "waitRows", "[I", true)
  | 54 => ("TalkTablesModel", "waitColumns", "[I", true)
  | 55 => ("TalkTablesModel", "waitOf", "[I", true)
  | 56 => ("TalkTablesModel", "bestMany", "I", false)
  | 57 => ("TalkTablesModel", "wayNode", "[I", true)
  | 58 => ("TalkTablesModel", "wayBit", "[I", true)
  | 59 => ("TalkTablesModel", "ways", "I", false)
  | 60 => ("TalkTablesModel", "wayCost", "I", false)
  | 61 => ("TalkTablesModel", "wayTurns", "I", false)
  | 62 => ("TalkTablesModel", "comeRows", "[I", true)
  | 63 => ("TalkTablesModel", "comeColumns", "[I", true)
  | 64 => ("TalkTablesModel", "worst", "I", false)
  | 65 => ("TalkTablesModel", "sumOf", "I", false)
  | 66 => ("TalkTablesModel", "wrongOf", "I", false)
  | 67 => ("TalkTablesModel", "turnsOf", "I", false)
  | 68 => ("TalkTablesModel", "actCell", "[I", true)
  | 69 => ("TalkTablesModel", "actWas", "[I", true)
  | _ => ("TalkTablesModel", "acts", "I", false)
def tyX12 : Nat → FieldType := fun k => match k with
  | 0 => .int
  | 1 => .int
  | 2 => .int
  | 3 => .int
  | 4 => .int
  | 5 => .int
  | 6 => .int
  | 7 => .array .int
  | 8 => .array .int
  | 9 => .array .int
  | 10 => .array .int
  | 11 => .array .int
  | 12 => .array .int
  | 13 => .array .int
  | 14 => .array .int
  | 15 => .array .int
  | 16 => .array .int
  | 17 => .array .int
  | 18 => .array .int
  | 19 => .array .int
  | 20 => .array .int
  | 21 => .array .int
  | 22 => .array .int
  | 23 => .int
  | 24 => .int
  | 25 => .int
  | 26 => .int
  | 27 => .int
  | 28 => .int
  | 29 => .int
  | 30 => .int
  | 31 => .int
  | 32 => .int
  | 33 => .boolean
  | 34 => .array .int
  | 35 => .int
  | 36 => .array .int
  | 37 => .array .int
  | 38 => .int
  | 39 => .array .int
  | 40 => .array .int
  | 41 => .array .int
  | 42 => .array .int
  | 43 => .int
  | 44 => .array .long
  | 45 => .array .int
  | 46 => .array .int
  | 47 => .array .int
  | 48 => .array .int
  | 49 => .boolean
  | 50 => .array .int
  | 51 => .array .int
  | 52 => .array .int
  | 53 => .array .int
  | 54 => .array .int
  | 55 => .array .int
  | 56 => .int
  | 57 => .array .int
  | 58 => .array .int
  | 59 => .int
  | 60 => .int
  | 61 => .int
  | 62 => .array .int
  | 63 => .array .int
  | 64 => .int
  | 65 => .int
  | 66 => .int
  | 67 => .int
  | 68 => .array .int
  | 69 => .array .int
  | _ => .int
theorem nmX12 : ∀ a, a < 71 → ∀ b, b < 71 → a ≠ b → (TX12 a).2.1 ≠ (TX12 b).2.1 := by decide +kernel
theorem tyX12_ok : ∀ k, k < 71 → parseFieldDescriptor (TX12 k).2.2.1 = some (tyX12 k) := by decide +kernel
set_option maxRecDepth 20000 in
theorem inX12 : ∀ w ∈ u_ws RX12 TX12 71, w ∈ lw_tbl := by
  have h : u_ws RX12 TX12 71 = [1328, 1330, 1332, 1334, 1336, 1338, 1340, 1342, 1344, 1346, 1348, 1350, 1352, 1354, 1356, 1358, 1360, 1362, 1364, 1366, 1368, 1370, 1372, 1374, 1376, 1378, 1380, 1382, 1384, 1386, 1388, 1390, 1392, 1394, 1396, 1398, 1400, 1402, 1404, 1406, 1408, 1410, 1412, 1414, 1416, 1418, 1420, 1422, 1424, 1426, 1428, 1430, 1432, 1434, 1436, 1438, 1440, 1442, 1444, 1446, 1448, 1450, 1452, 1454, 1456, 1458, 1460, 1462, 1464, 1466, 1468].filterMap (fun i => lw_tbl[i]?) := by decide +kernel
  intro w hw; rw [h] at hw; obtain ⟨i, -, hi⟩ := List.mem_filterMap.mp hw; exact List.mem_of_getElem? hi
abbrev vwCl : List vw_C := [(RX0, TX0, 4), (RX1, TX1, 7), (RX2, TX2, 7), (RX3, TX3, 5), (RX4, TX4, 4), (RX5, TX5, 10), (RX6, TX6, 14), (RX7, TX7, 6), (RX8, TX8, 5), (RX9, TX9, 7), (RX10, TX10, 7), (RX11, TX11, 13), (RX12, TX12, 71)]
