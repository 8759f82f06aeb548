/-! names of the program's classes and methods: written by wip/whole/gen.py out of the printed names -/
abbrev mM : Type := MethodName × ByteArray × Nat × Option FieldType × List (Nat × Instr × Nat)
/-- the words of the tables that stay true as the machine warms -/
def t0_ws : List Cond := lw_tbl.filter goodWord
theorem tm {w : Cond} (i : Nat) (h : lw_tbl[i]? = some w) (g : goodWord w = true) : w ∈ t0_ws := List.mem_filter.mpr ⟨List.mem_of_getElem? h, g⟩
theorem all_app {α : Type} {P : α → Prop} {a b : List α} (ha : ∀ q ∈ a, P q) (hb : ∀ q ∈ b, P q) : ∀ q ∈ a ++ b, P q := fun q h => (List.mem_append.mp h).elim (ha q) (hb q)
def mOK (m : mM) : Prop := plainName m.1.cls = true ∧ Cond.code m.1 m.2.1 m.2.2.1 m.2.2.2.1 ∈ t0_ws ∧ (∀ q ∈ m.2.2.2.2, decode m.2.1 q.1 = .ok q.2) ∧ Cond.initialized m.1.cls ∈ t0_ws ∧ m.1.cls ≠ "java/lang/invoke/MethodHandle" ∧ m.1.cls ≠ "java/lang/invoke/VarHandle"
def mVt (m : mM) : Prop := Cond.instanceMethod m.1 ∈ t0_ws ∧ Cond.selects m.1.cls m.1 m.1 ∈ t0_ws

def RX0 : String := "LinkTimes$Bargains"
def TX0 : u_T := fun k => match k with
  | 0 => ("LinkTimes$Bargains", "count", "I", false)
  | 1 => ("LinkTimes$Bargains", "ends", "[I", true)
  | 2 => ("LinkTimes$Bargains", "turns", "[I", true)
  | 3 => ("LinkTimes$Bargains", "starts", "[I", true)
  | 4 => ("LinkTimes$Bargains", "now", "[I", false)
  | _ => ("LinkTimes$Bargains", "fewer", "[I", false)
def tyX0 : Nat → FieldType := fun k => match k with
  | 0 => .int
  | 1 => .array .int
  | 2 => .array .int
  | 3 => .array .int
  | 4 => .array .int
  | _ => .array .int
theorem nmX0 : ∀ a, a < 6 → ∀ b, b < 6 → a ≠ b → (TX0 a).2.1 ≠ (TX0 b).2.1 := by decide +kernel
theorem tyX0_ok : ∀ k, k < 6 → parseFieldDescriptor (TX0 k).2.2.1 = some (tyX0 k) := by decide +kernel
theorem inX0 : ∀ w ∈ u_ws RX0 TX0 6, w ∈ t0_ws := by decide +kernel
def RX1 : String := "LinkTimes$Desk"
def TX1 : u_T := fun k => match k with
  | 0 => ("LinkTimes$Desk", "span", "I", false)
  | 1 => ("LinkTimes$Desk", "spotCount", "I", false)
  | 2 => ("LinkTimes$Desk", "lineCount", "I", false)
  | 3 => ("LinkTimes$Desk", "linkCount", "I", false)
  | 4 => ("LinkTimes$Desk", "count", "I", false)
  | 5 => ("LinkTimes$Desk", "gap", "[I", true)
  | 6 => ("LinkTimes$Desk", "patience", "[I", true)
  | 7 => ("LinkTimes$Desk", "line", "[I", true)
  | 8 => ("LinkTimes$Desk", "from", "[I", true)
  | 9 => ("LinkTimes$Desk", "to", "[I", true)
  | 10 => ("LinkTimes$Desk", "start", "[I", true)
  | 11 => ("LinkTimes$Desk", "lasts", "[I", true)
  | 12 => ("LinkTimes$Desk", "late", "[I", true)
  | 13 => ("LinkTimes$Desk", "link", "[I", true)
  | _ => ("LinkTimes$Desk", "off", "[Z", true)
def tyX1 : Nat → FieldType := fun k => match k with
  | 0 => .int
  | 1 => .int
  | 2 => .int
  | 3 => .int
  | 4 => .int
  | 5 => .array .int
  | 6 => .array .int
  | 7 => .array .int
  | 8 => .array .int
  | 9 => .array .int
  | 10 => .array .int
  | 11 => .array .int
  | 12 => .array .int
  | 13 => .array .int
  | _ => .array .boolean
theorem nmX1 : ∀ a, a < 15 → ∀ b, b < 15 → a ≠ b → (TX1 a).2.1 ≠ (TX1 b).2.1 := by decide +kernel
theorem tyX1_ok : ∀ k, k < 15 → parseFieldDescriptor (TX1 k).2.2.1 = some (tyX1 k) := by decide +kernel
theorem inX1 : ∀ w ∈ u_ws RX1 TX1 15, w ∈ t0_ws := by decide +kernel
def RX2 : String := "LinkTimes$Flood"
def TX2 : u_T := fun k => match k with
  | 0 => ("LinkTimes$Flood", "soonest", "[I", true)
  | _ => ("LinkTimes$Flood", "caught", "[Z", true)
def tyX2 : Nat → FieldType := fun k => match k with
  | 0 => .array .int
  | _ => .array .boolean
theorem nmX2 : ∀ a, a < 2 → ∀ b, b < 2 → a ≠ b → (TX2 a).2.1 ≠ (TX2 b).2.1 := by decide +kernel
theorem tyX2_ok : ∀ k, k < 2 → parseFieldDescriptor (TX2 k).2.2.1 = some (tyX2 k) := by decide +kernel
theorem inX2 : ∀ w ∈ u_ws RX2 TX2 2, w ∈ t0_ws := by decide +kernel
def RX3 : String := "LinkTimes$Log"
def TX3 : u_T := fun k => match k with
  | 0 => ("LinkTimes$Log", "kept", "I", false)
  | 1 => ("LinkTimes$Log", "kinds", "[I", true)
  | 2 => ("LinkTimes$Log", "whose", "[I", true)
  | _ => ("LinkTimes$Log", "was", "[I", true)
def tyX3 : Nat → FieldType := fun k => match k with
  | 0 => .int
  | 1 => .array .int
  | 2 => .array .int
  | _ => .array .int
theorem nmX3 : ∀ a, a < 4 → ∀ b, b < 4 → a ≠ b → (TX3 a).2.1 ≠ (TX3 b).2.1 := by decide +kernel
theorem tyX3_ok : ∀ k, k < 4 → parseFieldDescriptor (TX3 k).2.2.1 = some (tyX3 k) := by decide +kernel
theorem inX3 : ∀ w ∈ u_ws RX3 TX3 4, w ∈ t0_ws := by decide +kernel
def RX4 : String := "LinkTimes$Net"
def TX4 : u_T := fun k => match k with
  | 0 => ("LinkTimes$Net", "count", "I", false)
  | 1 => ("LinkTimes$Net", "leave", "[I", true)
  | 2 => ("LinkTimes$Net", "arrive", "[I", true)
  | 3 => ("LinkTimes$Net", "runs", "[Z", true)
  | 4 => ("LinkTimes$Net", "order", "[I", true)
  | 5 => ("LinkTimes$Net", "bySpot", "[I", true)
  | 6 => ("LinkTimes$Net", "first", "[I", true)
  | 7 => ("LinkTimes$Net", "desk", "LLinkTimes$Desk;", false)
  | 8 => ("LinkTimes$Net", "gap", "[I", true)
  | _ => ("LinkTimes$Net", "patience", "[I", true)
def tyX4 : Nat → FieldType := fun k => match k with
  | 0 => .int
  | 1 => .array .int
  | 2 => .array .int
  | 3 => .array .boolean
  | 4 => .array .int
  | 5 => .array .int
  | 6 => .array .int
  | 7 => .object "LinkTimes$Desk"
  | 8 => .array .int
  | _ => .array .int
theorem nmX4 : ∀ a, a < 10 → ∀ b, b < 10 → a ≠ b → (TX4 a).2.1 ≠ (TX4 b).2.1 := by decide +kernel
theorem tyX4_ok : ∀ k, k < 10 → parseFieldDescriptor (TX4 k).2.2.1 = some (tyX4 k) := by decide +kernel
theorem inX4 : ∀ w ∈ u_ws RX4 TX4 10, w ∈ t0_ws := by decide +kernel
def RX5 : String := "LinkTimes$Reader"
def TX5 : u_T := fun k => match k with
  | 0 => ("LinkTimes$Reader", "fault", "I", false)
  | 1 => ("LinkTimes$Reader", "place", "I", false)
  | 2 => ("LinkTimes$Reader", "text", "[B", true)
  | 3 => ("LinkTimes$Reader", "length", "I", false)
  | 4 => ("LinkTimes$Reader", "desk", "LLinkTimes$Desk;", false)
  | 5 => ("LinkTimes$Reader", "spotNames", "[I", true)
  | 6 => ("LinkTimes$Reader", "lineNames", "[I", true)
  | 7 => ("LinkTimes$Reader", "linkLine", "I", false)
  | 8 => ("LinkTimes$Reader", "linkFrom", "I", false)
  | 9 => ("LinkTimes$Reader", "linkTo", "I", false)
  | 10 => ("LinkTimes$Reader", "kind", "I", false)
  | 11 => ("LinkTimes$Reader", "start", "I", false)
  | 12 => ("LinkTimes$Reader", "stop", "I", false)
  | _ => ("LinkTimes$Reader", "value", "I", false)
def tyX5 : Nat → FieldType := fun k => match k with
  | 0 => .int
  | 1 => .int
  | 2 => .array .byte
  | 3 => .int
  | 4 => .object "LinkTimes$Desk"
  | 5 => .array .int
  | 6 => .array .int
  | 7 => .int
  | 8 => .int
  | 9 => .int
  | 10 => .int
  | 11 => .int
  | 12 => .int
  | _ => .int
theorem nmX5 : ∀ a, a < 14 → ∀ b, b < 14 → a ≠ b → (TX5 a).2.1 ≠ (TX5 b).2.1 := by decide +kernel
theorem tyX5_ok : ∀ k, k < 14 → parseFieldDescriptor (TX5 k).2.2.1 = some (tyX5 k) := by decide +kernel
theorem inX5 : ∀ w ∈ u_ws RX5 TX5 14, w ∈ t0_ws := by decide +kernel
def RX6 : String := "LinkTimes$Search"
def TX6 : u_T := fun k => match k with
  | 0 => ("LinkTimes$Search", "way", "LLinkTimes$Way;", true)
  | 1 => ("LinkTimes$Search", "turnsAt", "[I", true)
  | 2 => ("LinkTimes$Search", "end", "[I", true)
  | 3 => ("LinkTimes$Search", "turns", "[I", true)
  | 4 => ("LinkTimes$Search", "length", "[I", true)
  | _ => ("LinkTimes$Search", "next", "[I", true)
def tyX6 : Nat → FieldType := fun k => match k with
  | 0 => .object "LinkTimes$Way"
  | 1 => .array .int
  | 2 => .array .int
  | 3 => .array .int
  | 4 => .array .int
  | _ => .array .int
theorem nmX6 : ∀ a, a < 6 → ∀ b, b < 6 → a ≠ b → (TX6 a).2.1 ≠ (TX6 b).2.1 := by decide +kernel
theorem tyX6_ok : ∀ k, k < 6 → parseFieldDescriptor (TX6 k).2.2.1 = some (tyX6 k) := by decide +kernel
theorem inX6 : ∀ w ∈ u_ws RX6 TX6 6, w ∈ t0_ws := by decide +kernel
def RX7 : String := "LinkTimes$Steps"
def TX7 : u_T := fun k => match k with
  | 0 => ("LinkTimes$Steps", "count", "I", false)
  | 1 => ("LinkTimes$Steps", "starts", "[I", true)
  | 2 => ("LinkTimes$Steps", "ends", "[I", true)
  | _ => ("LinkTimes$Steps", "turns", "[I", true)
def tyX7 : Nat → FieldType := fun k => match k with
  | 0 => .int
  | 1 => .array .int
  | 2 => .array .int
  | _ => .array .int
theorem nmX7 : ∀ a, a < 4 → ∀ b, b < 4 → a ≠ b → (TX7 a).2.1 ≠ (TX7 b).2.1 := by decide +kernel
theorem tyX7_ok : ∀ k, k < 4 → parseFieldDescriptor (TX7 k).2.2.1 = some (tyX7 k) := by decide +kernel
theorem inX7 : ∀ w ∈ u_ws RX7 TX7 4, w ∈ t0_ws := by decide +kernel
def RX8 : String := "LinkTimes$Way"
def TX8 : u_T := fun k => match k with
  | 0 => ("LinkTimes$Way", "count", "I", false)
  | 1 => ("LinkTimes$Way", "start", "I", false)
  | 2 => ("LinkTimes$Way", "end", "I", false)
  | 3 => ("LinkTimes$Way", "turns", "I", false)
  | _ => ("LinkTimes$Way", "row", "[I", true)
def tyX8 : Nat → FieldType := fun k => match k with
  | 0 => .int
  | 1 => .int
  | 2 => .int
  | 3 => .int
  | _ => .array .int
theorem nmX8 : ∀ a, a < 5 → ∀ b, b < 5 → a ≠ b → (TX8 a).2.1 ≠ (TX8 b).2.1 := by decide +kernel
theorem tyX8_ok : ∀ k, k < 5 → parseFieldDescriptor (TX8 k).2.2.1 = some (tyX8 k) := by decide +kernel
theorem inX8 : ∀ w ∈ u_ws RX8 TX8 5, w ∈ t0_ws := by decide +kernel
def RX9 : String := "LinkTimes"
def TX9 : u_T := fun k => match k with
  | 0 => ("LinkTimes", "tape", "[B", true)
  | 1 => ("LinkTimes", "used", "I", false)
  | 2 => ("LinkTimes", "current", "LLinkTimes$Desk;", false)
  | 3 => ("LinkTimes", "draft", "LLinkTimes$Desk;", false)
  | 4 => ("LinkTimes", "reader", "LLinkTimes$Reader;", true)
  | 5 => ("LinkTimes", "log", "LLinkTimes$Log;", true)
  | 6 => ("LinkTimes", "net", "LLinkTimes$Net;", true)
  | 7 => ("LinkTimes", "search", "LLinkTimes$Search;", true)
  | 8 => ("LinkTimes", "flood", "LLinkTimes$Flood;", true)
  | 9 => ("LinkTimes", "mateFlood", "LLinkTimes$Flood;", true)
  | 10 => ("LinkTimes", "profile", "LLinkTimes$Steps;", true)
  | 11 => ("LinkTimes", "bargains", "LLinkTimes$Bargains;", true)
  | 12 => ("LinkTimes", "refusal", "I", false)
  | 13 => ("LinkTimes", "lastFault", "I", false)
  | _ => ("LinkTimes", "faultPlace", "I", false)
def tyX9 : Nat → FieldType := fun k => match k with
  | 0 => .array .byte
  | 1 => .int
  | 2 => .object "LinkTimes$Desk"
  | 3 => .object "LinkTimes$Desk"
  | 4 => .object "LinkTimes$Reader"
  | 5 => .object "LinkTimes$Log"
  | 6 => .object "LinkTimes$Net"
  | 7 => .object "LinkTimes$Search"
  | 8 => .object "LinkTimes$Flood"
  | 9 => .object "LinkTimes$Flood"
  | 10 => .object "LinkTimes$Steps"
  | 11 => .object "LinkTimes$Bargains"
  | 12 => .int
  | 13 => .int
  | _ => .int
theorem nmX9 : ∀ a, a < 15 → ∀ b, b < 15 → a ≠ b → (TX9 a).2.1 ≠ (TX9 b).2.1 := by decide +kernel
theorem tyX9_ok : ∀ k, k < 15 → parseFieldDescriptor (TX9 k).2.2.1 = some (tyX9 k) := by decide +kernel
theorem inX9 : ∀ w ∈ u_ws RX9 TX9 15, w ∈ t0_ws := by decide +kernel
def RX10 : String := "LinkTimesModel"
def TX10 : u_T := fun k => match k with
  | 0 => ("LinkTimesModel", "thrown", "I", false)
  | 1 => ("LinkTimesModel", "trouble", "I", false)
  | 2 => ("LinkTimesModel", "fault", "I", false)
  | 3 => ("LinkTimesModel", "where", "I", false)
  | 4 => ("LinkTimesModel", "tape", "[I", true)
  | 5 => ("LinkTimesModel", "taped", "I", false)
  | 6 => ("LinkTimesModel", "row", "[I", true)
  | 7 => ("LinkTimesModel", "read", "[I", true)
  | 8 => ("LinkTimesModel", "aside", "[I", true)
  | 9 => ("LinkTimesModel", "kept", "[I", true)
  | 10 => ("LinkTimesModel", "actMany", "I", false)
  | 11 => ("LinkTimesModel", "isTold", "Z", false)
  | 12 => ("LinkTimesModel", "textLong", "I", false)
  | 13 => ("LinkTimesModel", "place", "I", false)
  | 14 => ("LinkTimesModel", "spot", "I", false)
  | 15 => ("LinkTimesModel", "token", "I", false)
  | 16 => ("LinkTimesModel", "whole", "I", false)
  | 17 => ("LinkTimesModel", "readFault", "I", false)
  | 18 => ("LinkTimesModel", "readPlace", "I", false)
  | 19 => ("LinkTimesModel", "hasDesk", "Z", false)
  | 20 => ("LinkTimesModel", "spotNames", "[J", true)
  | 21 => ("LinkTimesModel", "lineNames", "[J", true)
  | 22 => ("LinkTimesModel", "link", "[I", true)
  | 23 => ("LinkTimesModel", "there", "[I", true)
  | 24 => ("LinkTimesModel", "changesBy", "[I", true)
  | 25 => ("LinkTimesModel", "ridesBy", "[I", true)
  | 26 => ("LinkTimesModel", "nextBy", "[I", true)
  | 27 => ("LinkTimesModel", "sorted", "[I", true)
  | 28 => ("LinkTimesModel", "sortedMany", "I", false)
  | 29 => ("LinkTimesModel", "thereBy", "[I", true)
  | 30 => ("LinkTimesModel", "tradeAt", "[I", true)
  | 31 => ("LinkTimesModel", "tradeChanges", "[I", true)
  | 32 => ("LinkTimesModel", "tradeMany", "I", false)
  | 33 => ("LinkTimesModel", "stepLeaves", "[I", true)
  | 34 => ("LinkTimesModel", "stepArrives", "[I", true)
  | 35 => ("LinkTimesModel", "stepChanges", "[I", true)
  | 36 => ("LinkTimesModel", "stepMany", "I", false)
  | 37 => ("LinkTimesModel", "otherAt", "[I", true)
  | 38 => ("LinkTimesModel", "otherMany", "I", false)
  | 39 => ("LinkTimesModel", "turnsAt", "[I", true)
  | 40 => ("LinkTimesModel", "pairMany", "I", false)
  | _ => ("LinkTimesModel", "longest", "I", false)
def tyX10 : Nat → FieldType := fun k => match k with
  | 0 => .int
  | 1 => .int
  | 2 => .int
  | 3 => .int
  | 4 => .array .int
  | 5 => .int
  | 6 => .array .int
  | 7 => .array .int
  | 8 => .array .int
  | 9 => .array .int
  | 10 => .int
  | 11 => .boolean
  | 12 => .int
  | 13 => .int
  | 14 => .int
  | 15 => .int
  | 16 => .int
  | 17 => .int
  | 18 => .int
  | 19 => .boolean
  | 20 => .array .long
  | 21 => .array .long
  | 22 => .array .int
  | 23 => .array .int
  | 24 => .array .int
  | 25 => .array .int
  | 26 => .array .int
  | 27 => .array .int
  | 28 => .int
  | 29 => .array .int
  | 30 => .array .int
  | 31 => .array .int
  | 32 => .int
  | 33 => .array .int
  | 34 => .array .int
  | 35 => .array .int
  | 36 => .int
  | 37 => .array .int
  | 38 => .int
  | 39 => .array .int
  | 40 => .int
  | _ => .int
theorem nmX10 : ∀ a, a < 42 → ∀ b, b < 42 → a ≠ b → (TX10 a).2.1 ≠ (TX10 b).2.1 := by decide +kernel
theorem tyX10_ok : ∀ k, k < 42 → parseFieldDescriptor (TX10 k).2.2.1 = some (tyX10 k) := by decide +kernel
theorem inX10 : ∀ w ∈ u_ws RX10 TX10 42, w ∈ t0_ws := by decide +kernel
abbrev vwCl : List vw_C := [(RX0, TX0, 6), (RX1, TX1, 15), (RX2, TX2, 2), (RX3, TX3, 4), (RX4, TX4, 10), (RX5, TX5, 14), (RX6, TX6, 6), (RX7, TX7, 4), (RX8, TX8, 5), (RX9, TX9, 15), (RX10, TX10, 42)]
def tyCl (c : Nat) : Nat → FieldType := match c with
  | 0 => tyX0
  | 1 => tyX1
  | 2 => tyX2
  | 3 => tyX3
  | 4 => tyX4
  | 5 => tyX5
  | 6 => tyX6
  | 7 => tyX7
  | 8 => tyX8
  | 9 => tyX9
  | _ => tyX10
theorem ok_cl : ∀ (ci : Nat) (q : vw_C), vwCl[ci]? = some q → (∀ w ∈ u_ws q.1 q.2.1 q.2.2, w ∈ t0_ws) ∧ (∀ a, a < q.2.2 → ∀ b, b < q.2.2 → a ≠ b → (q.2.1 a).2.1 ≠ (q.2.1 b).2.1) ∧ (∀ k, k < q.2.2 → parseFieldDescriptor (q.2.1 k).2.2.1 = some (tyCl ci k)) := by
  intro ci q h
  match ci, h with
  | 0, h => cases h; exact ⟨inX0, nmX0, tyX0_ok⟩
  | 1, h => cases h; exact ⟨inX1, nmX1, tyX1_ok⟩
  | 2, h => cases h; exact ⟨inX2, nmX2, tyX2_ok⟩
  | 3, h => cases h; exact ⟨inX3, nmX3, tyX3_ok⟩
  | 4, h => cases h; exact ⟨inX4, nmX4, tyX4_ok⟩
  | 5, h => cases h; exact ⟨inX5, nmX5, tyX5_ok⟩
  | 6, h => cases h; exact ⟨inX6, nmX6, tyX6_ok⟩
  | 7, h => cases h; exact ⟨inX7, nmX7, tyX7_ok⟩
  | 8, h => cases h; exact ⟨inX8, nmX8, tyX8_ok⟩
  | 9, h => cases h; exact ⟨inX9, nmX9, tyX9_ok⟩
  | 10, h => cases h; exact ⟨inX10, nmX10, tyX10_ok⟩
  | k + 11, h => simp [vwCl] at h
/-- entry idx of class own names field k of class ci -/
def mFL (own : String) (idx ci k : Nat) : Prop := ∃ (C : String) (T : u_T) (N : Nat), vwCl[ci]? = some (C, T, N) ∧ k < N ∧ Cond.fieldLink own idx C (T k).2.1 (T k).2.2.1 ∈ t0_ws ∧ (T k).1 = C
