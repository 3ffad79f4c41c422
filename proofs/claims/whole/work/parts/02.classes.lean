/-! tables of names, fields, types (begun from the printed names) -/
def RX0 : String := "RoseWheel$Asked"
def TX0 : u_T := fun k => match k with
  | 0 => ("RoseWheel$Asked", "number", "I", false)
  | 1 => ("RoseWheel$Asked", "spot", "I", false)
  | 2 => ("RoseWheel$Asked", "colour", "I", false)
  | 3 => ("RoseWheel$Asked", "patience", "I", false)
  | 4 => ("RoseWheel$Asked", "feasts", "I", false)
  | _ => ("RoseWheel$Asked", "trace", "J", false)
def tyX0 : Nat → FieldType := fun k => match k with
  | 0 => .int
  | 1 => .int
  | 2 => .int
  | 3 => .int
  | 4 => .int
  | _ => .long
theorem nmX0 : ∀ a, a < 6 → ∀ b, b < 6 → a ≠ b → (TX0 a).2.1 ≠ (TX0 b).2.1 := by decide +kernel
theorem tyX0_ok : ∀ k, k < 6 → parseFieldDescriptor (TX0 k).2.2.1 = some (tyX0 k) := by decide +kernel
theorem inX0 : ∀ w ∈ u_ws RX0 TX0 6, w ∈ lw_tbl := by decide +kernel
def RX1 : String := "RoseWheel$Beadle"
def TX1 : u_T := fun k => match k with
  | _ => ("", "", "", false)
def tyX1 : Nat → FieldType := fun k => match k with
  | _ => .int
theorem nmX1 : ∀ a, a < 0 → ∀ b, b < 0 → a ≠ b → (TX1 a).2.1 ≠ (TX1 b).2.1 := by decide +kernel
theorem tyX1_ok : ∀ k, k < 0 → parseFieldDescriptor (TX1 k).2.2.1 = some (tyX1 k) := by decide +kernel
theorem inX1 : ∀ w ∈ u_ws RX1 TX1 0, w ∈ lw_tbl := by decide +kernel
def RX2 : String := "RoseWheel$Blind"
def TX2 : u_T := fun k => match k with
  | _ => ("", "", "", false)
def tyX2 : Nat → FieldType := fun k => match k with
  | _ => .int
theorem nmX2 : ∀ a, a < 0 → ∀ b, b < 0 → a ≠ b → (TX2 a).2.1 ≠ (TX2 b).2.1 := by decide +kernel
theorem tyX2_ok : ∀ k, k < 0 → parseFieldDescriptor (TX2 k).2.2.1 = some (tyX2 k) := by decide +kernel
theorem inX2 : ∀ w ∈ u_ws RX2 TX2 0, w ∈ lw_tbl := by decide +kernel
def RX3 : String := "RoseWheel$Cripple"
def TX3 : u_T := fun k => match k with
  | _ => ("", "", "", false)
def tyX3 : Nat → FieldType := fun k => match k with
  | _ => .int
theorem nmX3 : ∀ a, a < 0 → ∀ b, b < 0 → a ≠ b → (TX3 a).2.1 ≠ (TX3 b).2.1 := by decide +kernel
theorem tyX3_ok : ∀ k, k < 0 → parseFieldDescriptor (TX3 k).2.2.1 = some (tyX3 k) := by decide +kernel
theorem inX3 : ∀ w ∈ u_ws RX3 TX3 0, w ∈ lw_tbl := by decide +kernel
def RX4 : String := "RoseWheel$Daughter"
def TX4 : u_T := fun k => match k with
  | _ => ("", "", "", false)
def tyX4 : Nat → FieldType := fun k => match k with
  | _ => .int
theorem nmX4 : ∀ a, a < 0 → ∀ b, b < 0 → a ≠ b → (TX4 a).2.1 ≠ (TX4 b).2.1 := by decide +kernel
theorem tyX4_ok : ∀ k, k < 0 → parseFieldDescriptor (TX4 k).2.2.1 = some (tyX4 k) := by decide +kernel
theorem inX4 : ∀ w ∈ u_ws RX4 TX4 0, w ∈ lw_tbl := by decide +kernel
def RX5 : String := "RoseWheel$Days"
def TX5 : u_T := fun k => match k with
  | 0 => ("RoseWheel$Days", "cells", "[I", true)
  | _ => ("RoseWheel$Days", "undoable", "I", false)
def tyX5 : Nat → FieldType := fun k => match k with
  | 0 => .array .int
  | _ => .int
theorem nmX5 : ∀ a, a < 2 → ∀ b, b < 2 → a ≠ b → (TX5 a).2.1 ≠ (TX5 b).2.1 := by decide +kernel
theorem tyX5_ok : ∀ k, k < 2 → parseFieldDescriptor (TX5 k).2.2.1 = some (tyX5 k) := by decide +kernel
theorem inX5 : ∀ w ∈ u_ws RX5 TX5 2, w ∈ lw_tbl := by decide +kernel
def RX6 : String := "RoseWheel$Dog"
def TX6 : u_T := fun k => match k with
  | _ => ("", "", "", false)
def tyX6 : Nat → FieldType := fun k => match k with
  | _ => .int
theorem nmX6 : ∀ a, a < 0 → ∀ b, b < 0 → a ≠ b → (TX6 a).2.1 ≠ (TX6 b).2.1 := by decide +kernel
theorem tyX6_ok : ∀ k, k < 0 → parseFieldDescriptor (TX6 k).2.2.1 = some (tyX6 k) := by decide +kernel
theorem inX6 : ∀ w ∈ u_ws RX6 TX6 0, w ∈ lw_tbl := by decide +kernel
def RX7 : String := "RoseWheel$Notes"
def TX7 : u_T := fun k => match k with
  | 0 => ("RoseWheel$Notes", "first", "[I", true)
  | 1 => ("RoseWheel$Notes", "second", "[I", true)
  | _ => ("RoseWheel$Notes", "size", "I", false)
def tyX7 : Nat → FieldType := fun k => match k with
  | 0 => .array .int
  | 1 => .array .int
  | _ => .int
theorem nmX7 : ∀ a, a < 3 → ∀ b, b < 3 → a ≠ b → (TX7 a).2.1 ≠ (TX7 b).2.1 := by decide +kernel
theorem tyX7_ok : ∀ k, k < 3 → parseFieldDescriptor (TX7 k).2.2.1 = some (tyX7 k) := by decide +kernel
theorem inX7 : ∀ w ∈ u_ws RX7 TX7 3, w ∈ lw_tbl := by decide +kernel
def RX8 : String := "RoseWheel$One"
def TX8 : u_T := fun k => match k with
  | _ => ("", "", "", false)
def tyX8 : Nat → FieldType := fun k => match k with
  | _ => .int
theorem nmX8 : ∀ a, a < 0 → ∀ b, b < 0 → a ≠ b → (TX8 a).2.1 ≠ (TX8 b).2.1 := by decide +kernel
theorem tyX8_ok : ∀ k, k < 0 → parseFieldDescriptor (TX8 k).2.2.1 = some (tyX8 k) := by decide +kernel
theorem inX8 : ∀ w ∈ u_ws RX8 TX8 0, w ∈ lw_tbl := by decide +kernel
def RX9 : String := "RoseWheel$Text"
def TX9 : u_T := fun k => match k with
  | 0 => ("RoseWheel$Text", "bytes", "[I", true)
  | 1 => ("RoseWheel$Text", "length", "I", false)
  | 2 => ("RoseWheel$Text", "next", "I", false)
  | 3 => ("RoseWheel$Text", "start", "I", false)
  | 4 => ("RoseWheel$Text", "token", "I", false)
  | 5 => ("RoseWheel$Text", "value", "I", false)
  | 6 => ("RoseWheel$Text", "keepsTold", "Z", false)
  | _ => ("RoseWheel$Text", "dragTold", "Z", false)
def tyX9 : Nat → FieldType := fun k => match k with
  | 0 => .array .int
  | 1 => .int
  | 2 => .int
  | 3 => .int
  | 4 => .int
  | 5 => .int
  | 6 => .boolean
  | _ => .boolean
theorem nmX9 : ∀ a, a < 8 → ∀ b, b < 8 → a ≠ b → (TX9 a).2.1 ≠ (TX9 b).2.1 := by decide +kernel
theorem tyX9_ok : ∀ k, k < 8 → parseFieldDescriptor (TX9 k).2.2.1 = some (tyX9 k) := by decide +kernel
theorem inX9 : ∀ w ∈ u_ws RX9 TX9 8, w ∈ lw_tbl := by decide +kernel
def RX10 : String := "RoseWheel$Window"
def TX10 : u_T := fun k => match k with
  | 0 => ("RoseWheel$Window", "panes", "[I", true)
  | 1 => ("RoseWheel$Window", "places", "[I", true)
  | 2 => ("RoseWheel$Window", "wants", "[I", true)
  | 3 => ("RoseWheel$Window", "paneCount", "I", false)
  | 4 => ("RoseWheel$Window", "people", "I", false)
  | 5 => ("RoseWheel$Window", "keeps", "I", false)
  | _ => ("RoseWheel$Window", "drag", "I", false)
def tyX10 : Nat → FieldType := fun k => match k with
  | 0 => .array .int
  | 1 => .array .int
  | 2 => .array .int
  | 3 => .int
  | 4 => .int
  | 5 => .int
  | _ => .int
theorem nmX10 : ∀ a, a < 7 → ∀ b, b < 7 → a ≠ b → (TX10 a).2.1 ≠ (TX10 b).2.1 := by decide +kernel
theorem tyX10_ok : ∀ k, k < 7 → parseFieldDescriptor (TX10 k).2.2.1 = some (tyX10 k) := by decide +kernel
theorem inX10 : ∀ w ∈ u_ws RX10 TX10 7, w ∈ lw_tbl := by decide +kernel
def RX11 : String := "RoseWheel"
def TX11 : u_T := fun k => match k with
  | 0 => ("RoseWheel", "text", "LRoseWheel$Text;", true)
  | 1 => ("RoseWheel", "window", "LRoseWheel$Window;", false)
  | 2 => ("RoseWheel", "draft", "LRoseWheel$Window;", false)
  | 3 => ("RoseWheel", "days", "LRoseWheel$Days;", true)
  | 4 => ("RoseWheel", "images", "[LRoseWheel$Days;", true)
  | 5 => ("RoseWheel", "kept", "[Z", true)
  | 6 => ("RoseWheel", "seen", "LRoseWheel$Notes;", true)
  | 7 => ("RoseWheel", "heard", "LRoseWheel$Notes;", true)
  | 8 => ("RoseWheel", "asked", "LRoseWheel$Asked;", true)
  | 9 => ("RoseWheel", "kinds", "[LRoseWheel$One;", true)
  | 10 => ("RoseWheel", "lawsThatFit", "[I", true)
  | 11 => ("RoseWheel", "lawsByClicks", "[I", true)
  | 12 => ("RoseWheel", "speedsByColour", "[I", true)
  | 13 => ("RoseWheel", "freeByColour", "[I", true)
  | 14 => ("RoseWheel", "wantedByColour", "[I", true)
  | _ => ("RoseWheel", "seatOf", "[I", true)
def tyX11 : Nat → FieldType := fun k => match k with
  | 0 => .object "RoseWheel$Text"
  | 1 => .object "RoseWheel$Window"
  | 2 => .object "RoseWheel$Window"
  | 3 => .object "RoseWheel$Days"
  | 4 => .array (.object "RoseWheel$Days")
  | 5 => .array .boolean
  | 6 => .object "RoseWheel$Notes"
  | 7 => .object "RoseWheel$Notes"
  | 8 => .object "RoseWheel$Asked"
  | 9 => .array (.object "RoseWheel$One")
  | 10 => .array .int
  | 11 => .array .int
  | 12 => .array .int
  | 13 => .array .int
  | 14 => .array .int
  | _ => .array .int
theorem nmX11 : ∀ a, a < 16 → ∀ b, b < 16 → a ≠ b → (TX11 a).2.1 ≠ (TX11 b).2.1 := by decide +kernel
theorem tyX11_ok : ∀ k, k < 16 → parseFieldDescriptor (TX11 k).2.2.1 = some (tyX11 k) := by decide +kernel
theorem inX11 : ∀ w ∈ u_ws RX11 TX11 16, w ∈ lw_tbl := by decide +kernel
def RX12 : String := "RoseWheelModel"
def TX12 : u_T := fun k => match k with
  | 0 => ("RoseWheelModel", "panes", "I", false)
  | 1 => ("RoseWheelModel", "pane", "[I", true)
  | 2 => ("RoseWheelModel", "keeps", "I", false)
  | 3 => ("RoseWheelModel", "drag", "I", false)
  | 4 => ("RoseWheelModel", "people", "I", false)
  | 5 => ("RoseWheelModel", "wants", "[I", true)
  | 6 => ("RoseWheelModel", "st", "[I", true)
  | 7 => ("RoseWheelModel", "images", "[I", true)
  | 8 => ("RoseWheelModel", "isKept", "[Z", true)
  | 9 => ("RoseWheelModel", "seenMany", "I", false)
  | 10 => ("RoseWheelModel", "seen", "[I", true)
  | 11 => ("RoseWheelModel", "heardMany", "I", false)
  | 12 => ("RoseWheelModel", "heard", "[I", true)
  | 13 => ("RoseWheelModel", "trace", "J", false)
  | 14 => ("RoseWheelModel", "text", "[I", true)
  | 15 => ("RoseWheelModel", "texted", "I", false)
  | 16 => ("RoseWheelModel", "cursor", "I", false)
  | 17 => ("RoseWheelModel", "start", "I", false)
  | 18 => ("RoseWheelModel", "token", "I", false)
  | 19 => ("RoseWheelModel", "number", "I", false)
  | 20 => ("RoseWheelModel", "isWrong", "Z", false)
  | 21 => ("RoseWheelModel", "items", "I", false)
  | 22 => ("RoseWheelModel", "saidPanes", "I", false)
  | 23 => ("RoseWheelModel", "saidPane", "[I", true)
  | 24 => ("RoseWheelModel", "saidKeeps", "I", false)
  | 25 => ("RoseWheelModel", "saidDrag", "I", false)
  | 26 => ("RoseWheelModel", "saidPeople", "I", false)
  | 27 => ("RoseWheelModel", "saidSpot", "[I", true)
  | 28 => ("RoseWheelModel", "saidWant", "[I", true)
  | 29 => ("RoseWheelModel", "by", "[I", true)
  | 30 => ("RoseWheelModel", "wanted", "[I", true)
  | 31 => ("RoseWheelModel", "free", "[I", true)
  | 32 => ("RoseWheelModel", "stands", "[I", true)
  | _ => ("RoseWheelModel", "parts", "[I", true)
def tyX12 : Nat → FieldType := fun k => match k with
  | 0 => .int
  | 1 => .array .int
  | 2 => .int
  | 3 => .int
  | 4 => .int
  | 5 => .array .int
  | 6 => .array .int
  | 7 => .array .int
  | 8 => .array .boolean
  | 9 => .int
  | 10 => .array .int
  | 11 => .int
  | 12 => .array .int
  | 13 => .long
  | 14 => .array .int
  | 15 => .int
  | 16 => .int
  | 17 => .int
  | 18 => .int
  | 19 => .int
  | 20 => .boolean
  | 21 => .int
  | 22 => .int
  | 23 => .array .int
  | 24 => .int
  | 25 => .int
  | 26 => .int
  | 27 => .array .int
  | 28 => .array .int
  | 29 => .array .int
  | 30 => .array .int
  | 31 => .array .int
  | 32 => .array .int
  | _ => .array .int
theorem nmX12 : ∀ a, a < 34 → ∀ b, b < 34 → a ≠ b → (TX12 a).2.1 ≠ (TX12 b).2.1 := by decide +kernel
theorem tyX12_ok : ∀ k, k < 34 → parseFieldDescriptor (TX12 k).2.2.1 = some (tyX12 k) := by decide +kernel
theorem inX12 : ∀ w ∈ u_ws RX12 TX12 34, w ∈ lw_tbl := by decide +kernel
def zNN (c : Nat) : Nat := ([6, 0, 0, 0, 0, 2, 0, 3, 0, 8, 7, 16, 34] : List Nat).getD c 0
def zTT (c : Nat) : u_T := match c with
  | 0 => TX0
  | 1 => TX1
  | 2 => TX2
  | 3 => TX3
  | 4 => TX4
  | 5 => TX5
  | 6 => TX6
  | 7 => TX7
  | 8 => TX8
  | 9 => TX9
  | 10 => TX10
  | 11 => TX11
  | _ => TX12
def zRR (c : Nat) : String := match c with
  | 0 => RX0
  | 1 => RX1
  | 2 => RX2
  | 3 => RX3
  | 4 => RX4
  | 5 => RX5
  | 6 => RX6
  | 7 => RX7
  | 8 => RX8
  | 9 => RX9
  | 10 => RX10
  | 11 => RX11
  | _ => RX12
def zty (c : Nat) : Nat → FieldType := match c with
  | 0 => tyX0
  | 1 => tyX1
  | 2 => tyX2
  | 3 => tyX3
  | 4 => tyX4
  | 5 => tyX5
  | 6 => tyX6
  | 7 => tyX7
  | 8 => tyX8
  | 9 => tyX9
  | 10 => tyX10
  | 11 => tyX11
  | _ => tyX12
def zcl : List vw_C := [(RX0, TX0, 6), (RX1, TX1, 0), (RX2, TX2, 0), (RX3, TX3, 0), (RX4, TX4, 0), (RX5, TX5, 2), (RX6, TX6, 0), (RX7, TX7, 3), (RX8, TX8, 0), (RX9, TX9, 8), (RX10, TX10, 7), (RX11, TX11, 16), (RX12, TX12, 34)]
theorem zcl_at : ∀ c, c < 13 → zcl[c]? = some (zRR c, zTT c, zNN c) := by
  intro c hc
  match c, hc with
  | 0, _ => exact rfl
  | 1, _ => exact rfl
  | 2, _ => exact rfl
  | 3, _ => exact rfl
  | 4, _ => exact rfl
  | 5, _ => exact rfl
  | 6, _ => exact rfl
  | 7, _ => exact rfl
  | 8, _ => exact rfl
  | 9, _ => exact rfl
  | 10, _ => exact rfl
  | 11, _ => exact rfl
  | 12, _ => exact rfl
theorem zcl_in : ∀ c, c < 13 → ∀ w ∈ u_ws (zRR c) (zTT c) (zNN c), w ∈ lw_tbl := by
  intro c hc
  match c, hc with
  | 0, _ => exact inX0
  | 1, _ => exact inX1
  | 2, _ => exact inX2
  | 3, _ => exact inX3
  | 4, _ => exact inX4
  | 5, _ => exact inX5
  | 6, _ => exact inX6
  | 7, _ => exact inX7
  | 8, _ => exact inX8
  | 9, _ => exact inX9
  | 10, _ => exact inX10
  | 11, _ => exact inX11
  | 12, _ => exact inX12
theorem zcl_ty : ∀ c, c < 13 → ∀ k, k < zNN c → parseFieldDescriptor (zTT c k).2.2.1 = some (zty c k) := by
  intro c hc
  match c, hc with
  | 0, _ => exact tyX0_ok
  | 1, _ => exact tyX1_ok
  | 2, _ => exact tyX2_ok
  | 3, _ => exact tyX3_ok
  | 4, _ => exact tyX4_ok
  | 5, _ => exact tyX5_ok
  | 6, _ => exact tyX6_ok
  | 7, _ => exact tyX7_ok
  | 8, _ => exact tyX8_ok
  | 9, _ => exact tyX9_ok
  | 10, _ => exact tyX10_ok
  | 11, _ => exact tyX11_ok
  | 12, _ => exact tyX12_ok
theorem zcl_nm : ∀ c, c < 13 → ∀ a, a < zNN c → ∀ b, b < zNN c → a ≠ b → (zTT c a).2.1 ≠ (zTT c b).2.1 := by
  intro c hc
  match c, hc with
  | 0, _ => exact nmX0
  | 1, _ => exact nmX1
  | 2, _ => exact nmX2
  | 3, _ => exact nmX3
  | 4, _ => exact nmX4
  | 5, _ => exact nmX5
  | 6, _ => exact nmX6
  | 7, _ => exact nmX7
  | 8, _ => exact nmX8
  | 9, _ => exact nmX9
  | 10, _ => exact nmX10
  | 11, _ => exact nmX11
  | 12, _ => exact nmX12
/-- of each cell its sort (below 13: an object; 100 int, 101 boolean, 102, 103 rows of references) and its length -/
def zks (a : Nat) : Nat × Nat := ([(11, 0), (9, 0), (100, 150), (10, 0), (100, 12), (100, 6), (100, 6), (10, 0), (100, 12), (100, 6), (100, 6), (5, 0), (100, 572), (102, 2), (5, 0), (100, 572), (5, 0), (100, 572), (101, 2), (7, 0), (100, 6), (100, 6), (7, 0), (100, 6), (100, 6), (0, 0), (103, 6), (8, 0), (2, 0), (1, 0), (3, 0), (4, 0), (6, 0), (100, 90), (100, 383), (100, 6), (100, 6), (100, 6), (100, 6), (12, 0), (100, 12), (100, 6), (100, 573), (100, 1146), (101, 2), (100, 12), (100, 12), (100, 150), (100, 12), (100, 6), (100, 6), (100, 6), (100, 6), (100, 6), (100, 6), (100, 1000)] : List (Nat × Nat)).getD a (99, 0)
/-- what the fields and rows of references hold that never change -/
def zsr (a k : Nat) : Nat := (([[1, 0, 0, 11, 13, 18, 19, 22, 25, 26, 33, 34, 35, 36, 37, 38], [2], [], [4, 5, 6], [], [], [], [8, 9, 10], [], [], [], [12], [], [14, 16], [15], [], [17], [], [], [20, 21], [], [], [23, 24], [], [], [], [27, 28, 29, 30, 31, 32], [], [], [], [], [], [], [], [], [], [], [], [], [0, 40, 0, 0, 0, 41, 42, 43, 44, 0, 45, 0, 46, 0, 47, 0, 0, 0, 0, 0, 0, 0, 0, 48, 0, 0, 0, 49, 50, 51, 52, 53, 54, 55], [], [], [], [], [], [], [], [], [], [], [], [], [], [], [], []] : List (List Nat)).getD a []).getD k 0
