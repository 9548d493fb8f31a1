def bg_R0 : String := "BorderGuards$Cuts"
def bg_T0 : u_T := fun k => match k with
  | 0 => ("BorderGuards$Cuts", "pathsOut", "[I", true)
  | 1 => ("BorderGuards$Cuts", "bearings", "[I", true)
  | 2 => ("BorderGuards$Cuts", "least", "I", false)
  | _ => ("BorderGuards$Cuts", "shore", "I", false)
def bg_ty0 : Nat → FieldType := fun k => match k with
  | 0 => .array .int
  | 1 => .array .int
  | 2 => .int
  | _ => .int
theorem bg_nm0 : ∀ a, a < 4 → ∀ b, b < 4 → a ≠ b → (bg_T0 a).2.1 ≠ (bg_T0 b).2.1 := by decide +kernel
theorem bg_tk0 : ∀ k, k < 4 → parseFieldDescriptor (bg_T0 k).2.2.1 = some (bg_ty0 k) := by decide +kernel
theorem bg_in0 : ∀ w ∈ u_ws bg_R0 bg_T0 4, w ∈ lw_tbl := by decide +kernel
def bg_R1 : String := "BorderGuards$Game"
def bg_T1 : u_T := fun k => match k with
  | 0 => ("BorderGuards$Game", "brings", "[[I", true)
  | 1 => ("BorderGuards$Game", "guardParts", "[J", true)
  | 2 => ("BorderGuards$Game", "carrierParts", "[J", true)
  | 3 => ("BorderGuards$Game", "rest", "[[J", true)
  | 4 => ("BorderGuards$Game", "whole", "J", false)
  | _ => ("BorderGuards$Game", "valueParts", "J", false)
def bg_ty1 : Nat → FieldType := fun k => match k with
  | 0 => .array (.array .int)
  | 1 => .array .long
  | 2 => .array .long
  | 3 => .array (.array .long)
  | 4 => .long
  | _ => .long
theorem bg_nm1 : ∀ a, a < 6 → ∀ b, b < 6 → a ≠ b → (bg_T1 a).2.1 ≠ (bg_T1 b).2.1 := by decide +kernel
theorem bg_tk1 : ∀ k, k < 6 → parseFieldDescriptor (bg_T1 k).2.2.1 = some (bg_ty1 k) := by decide +kernel
theorem bg_in1 : ∀ w ∈ u_ws bg_R1 bg_T1 6, w ∈ lw_tbl := by decide +kernel
def bg_R2 : String := "BorderGuards$Land"
def bg_T2 : u_T := fun k => match k with
  | 0 => ("BorderGuards$Land", "paths", "[[I", true)
  | 1 => ("BorderGuards$Land", "towerSees", "[I", true)
  | 2 => ("BorderGuards$Land", "towerCost", "[I", true)
  | 3 => ("BorderGuards$Land", "pathCount", "I", false)
  | 4 => ("BorderGuards$Land", "towerCount", "I", false)
  | 5 => ("BorderGuards$Land", "coin", "I", false)
  | 6 => ("BorderGuards$Land", "worth", "I", false)
  | _ => ("BorderGuards$Land", "other", "I", false)
def bg_ty2 : Nat → FieldType := fun k => match k with
  | 0 => .array (.array .int)
  | 1 => .array .int
  | 2 => .array .int
  | 3 => .int
  | 4 => .int
  | 5 => .int
  | 6 => .int
  | _ => .int
theorem bg_nm2 : ∀ a, a < 8 → ∀ b, b < 8 → a ≠ b → (bg_T2 a).2.1 ≠ (bg_T2 b).2.1 := by decide +kernel
theorem bg_tk2 : ∀ k, k < 8 → parseFieldDescriptor (bg_T2 k).2.2.1 = some (bg_ty2 k) := by decide +kernel
theorem bg_in2 : ∀ w ∈ u_ws bg_R2 bg_T2 8, w ∈ lw_tbl := by decide +kernel
def bg_R3 : String := "BorderGuards$Lots"
def bg_T3 : u_T := fun k => match k with
  | 0 => ("BorderGuards$Lots", "guards", "[I", true)
  | _ => ("BorderGuards$Lots", "carriers", "[I", true)
def bg_ty3 : Nat → FieldType := fun k => match k with
  | 0 => .array .int
  | _ => .array .int
theorem bg_nm3 : ∀ a, a < 2 → ∀ b, b < 2 → a ≠ b → (bg_T3 a).2.1 ≠ (bg_T3 b).2.1 := by decide +kernel
theorem bg_tk3 : ∀ k, k < 2 → parseFieldDescriptor (bg_T3 k).2.2.1 = some (bg_ty3 k) := by decide +kernel
theorem bg_in3 : ∀ w ∈ u_ws bg_R3 bg_T3 2, w ∈ lw_tbl := by decide +kernel
def bg_R4 : String := "BorderGuards$Plans"
def bg_T4 : u_T := fun k => match k with
  | 0 => ("BorderGuards$Plans", "mostByHeld", "[I", true)
  | 1 => ("BorderGuards$Plans", "affordable", "[I", true)
  | 2 => ("BorderGuards$Plans", "sums", "[I", true)
  | 3 => ("BorderGuards$Plans", "addends", "[I", true)
  | 4 => ("BorderGuards$Plans", "bestPosts", "[I", true)
  | 5 => ("BorderGuards$Plans", "bestMost", "[I", true)
  | 6 => ("BorderGuards$Plans", "sets", "I", false)
  | 7 => ("BorderGuards$Plans", "ready", "Z", false)
  | 8 => ("BorderGuards$Plans", "paying", "I", false)
  | 9 => ("BorderGuards$Plans", "payingReady", "Z", false)
  | 10 => ("BorderGuards$Plans", "foundPosts", "I", false)
  | _ => ("BorderGuards$Plans", "foundSum", "I", false)
def bg_ty4 : Nat → FieldType := fun k => match k with
  | 0 => .array .int
  | 1 => .array .int
  | 2 => .array .int
  | 3 => .array .int
  | 4 => .array .int
  | 5 => .array .int
  | 6 => .int
  | 7 => .boolean
  | 8 => .int
  | 9 => .boolean
  | 10 => .int
  | _ => .int
theorem bg_nm4 : ∀ a, a < 12 → ∀ b, b < 12 → a ≠ b → (bg_T4 a).2.1 ≠ (bg_T4 b).2.1 := by decide +kernel
theorem bg_tk4 : ∀ k, k < 12 → parseFieldDescriptor (bg_T4 k).2.2.1 = some (bg_ty4 k) := by decide +kernel
theorem bg_in4 : ∀ w ∈ u_ws bg_R4 bg_T4 12, w ∈ lw_tbl := by decide +kernel
def bg_R5 : String := "BorderGuards$Rounds"
def bg_T5 : u_T := fun k => match k with
  | 0 => ("BorderGuards$Rounds", "postsOf", "[I", true)
  | 1 => ("BorderGuards$Rounds", "costOf", "[I", true)
  | 2 => ("BorderGuards$Rounds", "sums", "[I", true)
  | _ => ("BorderGuards$Rounds", "nextSums", "[I", true)
def bg_ty5 : Nat → FieldType := fun k => match k with
  | 0 => .array .int
  | 1 => .array .int
  | 2 => .array .int
  | _ => .array .int
theorem bg_nm5 : ∀ a, a < 4 → ∀ b, b < 4 → a ≠ b → (bg_T5 a).2.1 ≠ (bg_T5 b).2.1 := by decide +kernel
theorem bg_tk5 : ∀ k, k < 4 → parseFieldDescriptor (bg_T5 k).2.2.1 = some (bg_ty5 k) := by decide +kernel
theorem bg_in5 : ∀ w ∈ u_ws bg_R5 bg_T5 4, w ∈ lw_tbl := by decide +kernel
def bg_R6 : String := "BorderGuards$Script"
def bg_T6 : u_T := fun k => match k with
  | 0 => ("BorderGuards$Script", "bytes", "[I", true)
  | 1 => ("BorderGuards$Script", "numbers", "[I", true)
  | 2 => ("BorderGuards$Script", "at", "I", false)
  | _ => ("BorderGuards$Script", "length", "I", false)
def bg_ty6 : Nat → FieldType := fun k => match k with
  | 0 => .array .int
  | 1 => .array .int
  | 2 => .int
  | _ => .int
theorem bg_nm6 : ∀ a, a < 4 → ∀ b, b < 4 → a ≠ b → (bg_T6 a).2.1 ≠ (bg_T6 b).2.1 := by decide +kernel
theorem bg_tk6 : ∀ k, k < 4 → parseFieldDescriptor (bg_T6 k).2.2.1 = some (bg_ty6 k) := by decide +kernel
theorem bg_in6 : ∀ w ∈ u_ws bg_R6 bg_T6 4, w ∈ lw_tbl := by decide +kernel
def bg_R7 : String := "BorderGuards$Ways"
def bg_T7 : u_T := fun k => match k with
  | 0 => ("BorderGuards$Ways", "steps", "[I", true)
  | 1 => ("BorderGuards$Ways", "lengths", "[I", true)
  | 2 => ("BorderGuards$Ways", "carrying", "[I", true)
  | 3 => ("BorderGuards$Ways", "trail", "[I", true)
  | 4 => ("BorderGuards$Ways", "hardest", "I", false)
  | _ => ("BorderGuards$Ways", "size", "I", false)
def bg_ty7 : Nat → FieldType := fun k => match k with
  | 0 => .array .int
  | 1 => .array .int
  | 2 => .array .int
  | 3 => .array .int
  | 4 => .int
  | _ => .int
theorem bg_nm7 : ∀ a, a < 6 → ∀ b, b < 6 → a ≠ b → (bg_T7 a).2.1 ≠ (bg_T7 b).2.1 := by decide +kernel
theorem bg_tk7 : ∀ k, k < 6 → parseFieldDescriptor (bg_T7 k).2.2.1 = some (bg_ty7 k) := by decide +kernel
theorem bg_in7 : ∀ w ∈ u_ws bg_R7 bg_T7 6, w ∈ lw_tbl := by decide +kernel
def bg_R8 : String := "BorderGuards"
def bg_T8 : u_T := fun k => match k with
  | 0 => ("BorderGuards", "script", "LBorderGuards$Script;", true)
  | 1 => ("BorderGuards", "draft", "LBorderGuards$Land;", true)
  | 2 => ("BorderGuards", "land", "LBorderGuards$Land;", true)
  | 3 => ("BorderGuards", "cuts", "LBorderGuards$Cuts;", true)
  | 4 => ("BorderGuards", "ways", "LBorderGuards$Ways;", true)
  | 5 => ("BorderGuards", "plans", "LBorderGuards$Plans;", true)
  | 6 => ("BorderGuards", "lots", "LBorderGuards$Lots;", true)
  | 7 => ("BorderGuards", "game", "LBorderGuards$Game;", true)
  | 8 => ("BorderGuards", "rounds", "LBorderGuards$Rounds;", true)
  | 9 => ("BorderGuards", "loadRow", "[I", true)
  | 10 => ("BorderGuards", "tenthRow", "[I", true)
  | 11 => ("BorderGuards", "keptLands", "[LBorderGuards$Land;", true)
  | 12 => ("BorderGuards", "keptLots", "[LBorderGuards$Lots;", true)
  | _ => ("BorderGuards", "keptCount", "I", false)
def bg_ty8 : Nat → FieldType := fun k => match k with
  | 0 => .object "BorderGuards$Script"
  | 1 => .object "BorderGuards$Land"
  | 2 => .object "BorderGuards$Land"
  | 3 => .object "BorderGuards$Cuts"
  | 4 => .object "BorderGuards$Ways"
  | 5 => .object "BorderGuards$Plans"
  | 6 => .object "BorderGuards$Lots"
  | 7 => .object "BorderGuards$Game"
  | 8 => .object "BorderGuards$Rounds"
  | 9 => .array .int
  | 10 => .array .int
  | 11 => .array (.object "BorderGuards$Land")
  | 12 => .array (.object "BorderGuards$Lots")
  | _ => .int
theorem bg_nm8 : ∀ a, a < 14 → ∀ b, b < 14 → a ≠ b → (bg_T8 a).2.1 ≠ (bg_T8 b).2.1 := by decide +kernel
theorem bg_tk8 : ∀ k, k < 14 → parseFieldDescriptor (bg_T8 k).2.2.1 = some (bg_ty8 k) := by decide +kernel
theorem bg_in8 : ∀ w ∈ u_ws bg_R8 bg_T8 14, w ∈ lw_tbl := by decide +kernel
def bg_R9 : String := "BorderGuardsModel"
def bg_T9 : u_T := fun k => match k with
  | 0 => ("BorderGuardsModel", "length", "I", false)
  | 1 => ("BorderGuardsModel", "text", "[I", true)
  | 2 => ("BorderGuardsModel", "pathMany", "[I", true)
  | 3 => ("BorderGuardsModel", "paths", "[I", true)
  | 4 => ("BorderGuardsModel", "towerMany", "[I", true)
  | 5 => ("BorderGuardsModel", "towers", "[I", true)
  | 6 => ("BorderGuardsModel", "money", "[I", true)
  | 7 => ("BorderGuardsModel", "guards", "[I", true)
  | 8 => ("BorderGuardsModel", "carriers", "[I", true)
  | 9 => ("BorderGuardsModel", "keptMany", "I", false)
  | 10 => ("BorderGuardsModel", "loads", "[I", true)
  | 11 => ("BorderGuardsModel", "tenths", "[I", true)
  | 12 => ("BorderGuardsModel", "mostsLie", "Z", false)
  | 13 => ("BorderGuardsModel", "mosts", "[I", true)
  | 14 => ("BorderGuardsModel", "waysLie", "Z", false)
  | 15 => ("BorderGuardsModel", "wayMany", "I", false)
  | 16 => ("BorderGuardsModel", "wayLong", "[I", true)
  | 17 => ("BorderGuardsModel", "ways", "[I", true)
  | 18 => ("BorderGuardsModel", "place", "I", false)
  | 19 => ("BorderGuardsModel", "numbers", "[I", true)
  | 20 => ("BorderGuardsModel", "room", "[I", true)
  | 21 => ("BorderGuardsModel", "gone", "[I", true)
  | 22 => ("BorderGuardsModel", "cameBy", "[I", true)
  | 23 => ("BorderGuardsModel", "shore", "I", false)
  | 24 => ("BorderGuardsModel", "trail", "[I", true)
  | 25 => ("BorderGuardsModel", "pays", "[J", true)
  | 26 => ("BorderGuardsModel", "cells", "[J", true)
  | 27 => ("BorderGuardsModel", "above", "[J", true)
  | 28 => ("BorderGuardsModel", "worthAbove", "J", false)
  | 29 => ("BorderGuardsModel", "below", "J", false)
  | 30 => ("BorderGuardsModel", "members", "[I", true)
  | 31 => ("BorderGuardsModel", "sums", "[I", true)
  | _ => ("BorderGuardsModel", "nextSums", "[I", true)
def bg_ty9 : Nat → FieldType := fun k => match k with
  | 0 => .int
  | 1 => .array .int
  | 2 => .array .int
  | 3 => .array .int
  | 4 => .array .int
  | 5 => .array .int
  | 6 => .array .int
  | 7 => .array .int
  | 8 => .array .int
  | 9 => .int
  | 10 => .array .int
  | 11 => .array .int
  | 12 => .boolean
  | 13 => .array .int
  | 14 => .boolean
  | 15 => .int
  | 16 => .array .int
  | 17 => .array .int
  | 18 => .int
  | 19 => .array .int
  | 20 => .array .int
  | 21 => .array .int
  | 22 => .array .int
  | 23 => .int
  | 24 => .array .int
  | 25 => .array .long
  | 26 => .array .long
  | 27 => .array .long
  | 28 => .long
  | 29 => .long
  | 30 => .array .int
  | 31 => .array .int
  | _ => .array .int
theorem bg_nm9 : ∀ a, a < 33 → ∀ b, b < 33 → a ≠ b → (bg_T9 a).2.1 ≠ (bg_T9 b).2.1 := by decide +kernel
theorem bg_tk9 : ∀ k, k < 33 → parseFieldDescriptor (bg_T9 k).2.2.1 = some (bg_ty9 k) := by decide +kernel
theorem bg_in9 : ∀ w ∈ u_ws bg_R9 bg_T9 33, w ∈ lw_tbl := by decide +kernel
abbrev bg_cls : List vw_C := [(bg_R0, bg_T0, 4), (bg_R1, bg_T1, 6), (bg_R2, bg_T2, 8), (bg_R3, bg_T3, 2), (bg_R4, bg_T4, 12), (bg_R5, bg_T5, 4), (bg_R6, bg_T6, 4), (bg_R7, bg_T7, 6), (bg_R8, bg_T8, 14), (bg_R9, bg_T9, 33)]
/-- the kinds of the fields: 0 int, 1 long, 2 reference, 3 boolean -/
def bg_tags : List (List Nat) := [[2, 2, 0, 0], [2, 2, 2, 2, 1, 1], [2, 2, 2, 0, 0, 0, 0, 0], [2, 2], [2, 2, 2, 2, 2, 2, 0, 3, 0, 3, 0, 0], [2, 2, 2, 2], [2, 2, 0, 0], [2, 2, 2, 2, 0, 0], [2, 2, 2, 2, 2, 2, 2, 2, 2, 2, 2, 2, 2, 0], [0, 2, 2, 2, 2, 2, 2, 2, 2, 0, 2, 2, 3, 2, 3, 0, 2, 2, 0, 2, 2, 2, 2, 0, 2, 2, 2, 2, 1, 1, 2, 2, 2]]
