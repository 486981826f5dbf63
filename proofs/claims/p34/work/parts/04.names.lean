/-! names of the classes, their fields and types: printed by wip/p34/gen.py -/
def ab_R0 : String := "TempoPlayer"
def ab_F0 : u_T := fun k => match k with
  | 0 => ("TempoPlayer", "score", "LTempoPlayer$Score;", true)
  | 1 => ("TempoPlayer", "piece", "LTempoPlayer$Piece;", true)
  | 2 => ("TempoPlayer", "playback", "LTempoPlayer$Playback;", true)
  | 3 => ("TempoPlayer", "history", "LTempoPlayer$History;", true)
  | 4 => ("TempoPlayer", "images", "[LTempoPlayer$Piece;", true)
  | 5 => ("TempoPlayer", "keptImages", "I", false)
  | 6 => ("TempoPlayer", "input", "[I", true)
  | 7 => ("TempoPlayer", "inputLength", "I", false)
  | 8 => ("TempoPlayer", "reader", "LTempoPlayer$TextReader;", true)
  | _ => ("TempoPlayer", "supposed", "LTempoPlayer$Score;", true)
def ab_t0 : Nat → FieldType := fun k => match k with
  | 0 => .object "TempoPlayer$Score"
  | 1 => .object "TempoPlayer$Piece"
  | 2 => .object "TempoPlayer$Playback"
  | 3 => .object "TempoPlayer$History"
  | 4 => .array (.object "TempoPlayer$Piece")
  | 5 => .int
  | 6 => .array .int
  | 7 => .int
  | 8 => .object "TempoPlayer$TextReader"
  | _ => .object "TempoPlayer$Score"
theorem ab_n0 : ∀ a, a < 10 → ∀ b, b < 10 → a ≠ b → (ab_F0 a).2.1 ≠ (ab_F0 b).2.1 := by decide +kernel
theorem ab_to0 : ∀ k, k < 10 → parseFieldDescriptor (ab_F0 k).2.2.1 = some (ab_t0 k) := by decide +kernel
theorem ab_i0 : ∀ w ∈ u_ws ab_R0 ab_F0 10, w ∈ ab_all := by decide +kernel
def ab_R1 : String := "TempoPlayer$Score"
def ab_F1 : u_T := fun k => match k with
  | 0 => ("TempoPlayer$Score", "piece", "LTempoPlayer$Piece;", true)
  | 1 => ("TempoPlayer$Score", "firstBeats", "[I", true)
  | 2 => ("TempoPlayer$Score", "barsOfBeats", "[I", true)
  | 3 => ("TempoPlayer$Score", "tempos", "[I", true)
  | 4 => ("TempoPlayer$Score", "begins", "[J", true)
  | 5 => ("TempoPlayer$Score", "lengths", "[J", true)
  | 6 => ("TempoPlayer$Score", "beats", "I", false)
  | _ => ("TempoPlayer$Score", "end", "J", false)
def ab_t1 : Nat → FieldType := fun k => match k with
  | 0 => .object "TempoPlayer$Piece"
  | 1 => .array .int
  | 2 => .array .int
  | 3 => .array .int
  | 4 => .array .long
  | 5 => .array .long
  | 6 => .int
  | _ => .long
theorem ab_n1 : ∀ a, a < 8 → ∀ b, b < 8 → a ≠ b → (ab_F1 a).2.1 ≠ (ab_F1 b).2.1 := by decide +kernel
theorem ab_to1 : ∀ k, k < 8 → parseFieldDescriptor (ab_F1 k).2.2.1 = some (ab_t1 k) := by decide +kernel
theorem ab_i1 : ∀ w ∈ u_ws ab_R1 ab_F1 8, w ∈ ab_all := by decide +kernel
def ab_R2 : String := "TempoPlayer$Piece"
def ab_F2 : u_T := fun k => match k with
  | 0 => ("TempoPlayer$Piece", "bars", "LTempoPlayer$Table;", true)
  | 1 => ("TempoPlayer$Piece", "marks", "LTempoPlayer$Table;", true)
  | _ => ("TempoPlayer$Piece", "cues", "LTempoPlayer$Table;", true)
def ab_t2 : Nat → FieldType := fun k => match k with
  | 0 => .object "TempoPlayer$Table"
  | 1 => .object "TempoPlayer$Table"
  | _ => .object "TempoPlayer$Table"
theorem ab_n2 : ∀ a, a < 3 → ∀ b, b < 3 → a ≠ b → (ab_F2 a).2.1 ≠ (ab_F2 b).2.1 := by decide +kernel
theorem ab_to2 : ∀ k, k < 3 → parseFieldDescriptor (ab_F2 k).2.2.1 = some (ab_t2 k) := by decide +kernel
theorem ab_i2 : ∀ w ∈ u_ws ab_R2 ab_F2 3, w ∈ ab_all := by decide +kernel
def ab_R3 : String := "TempoPlayer$Table"
def ab_F3 : u_T := fun k => match k with
  | 0 => ("TempoPlayer$Table", "most", "I", true)
  | 1 => ("TempoPlayer$Table", "width", "I", true)
  | 2 => ("TempoPlayer$Table", "cells", "[I", true)
  | _ => ("TempoPlayer$Table", "rows", "I", false)
def ab_t3 : Nat → FieldType := fun k => match k with
  | 0 => .int
  | 1 => .int
  | 2 => .array .int
  | _ => .int
theorem ab_n3 : ∀ a, a < 4 → ∀ b, b < 4 → a ≠ b → (ab_F3 a).2.1 ≠ (ab_F3 b).2.1 := by decide +kernel
theorem ab_to3 : ∀ k, k < 4 → parseFieldDescriptor (ab_F3 k).2.2.1 = some (ab_t3 k) := by decide +kernel
theorem ab_i3 : ∀ w ∈ u_ws ab_R3 ab_F3 4, w ∈ ab_all := by decide +kernel
def ab_R4 : String := "TempoPlayer$Playback"
def ab_F4 : u_T := fun k => match k with
  | 0 => ("TempoPlayer$Playback", "firstBeat", "I", false)
  | 1 => ("TempoPlayer$Playback", "countIn", "I", false)
  | 2 => ("TempoPlayer$Playback", "speed", "I", false)
  | 3 => ("TempoPlayer$Playback", "countInHeard", "I", false)
  | 4 => ("TempoPlayer$Playback", "nextBeat", "I", false)
  | 5 => ("TempoPlayer$Playback", "nextClick", "I", false)
  | 6 => ("TempoPlayer$Playback", "on", "Z", false)
  | 7 => ("TempoPlayer$Playback", "clock", "J", false)
  | 8 => ("TempoPlayer$Playback", "clicksHeard", "I", false)
  | 9 => ("TempoPlayer$Playback", "loudHeard", "I", false)
  | _ => ("TempoPlayer$Playback", "cuesHeard", "I", false)
def ab_t4 : Nat → FieldType := fun k => match k with
  | 0 => .int
  | 1 => .int
  | 2 => .int
  | 3 => .int
  | 4 => .int
  | 5 => .int
  | 6 => .boolean
  | 7 => .long
  | 8 => .int
  | 9 => .int
  | _ => .int
theorem ab_n4 : ∀ a, a < 11 → ∀ b, b < 11 → a ≠ b → (ab_F4 a).2.1 ≠ (ab_F4 b).2.1 := by decide +kernel
theorem ab_to4 : ∀ k, k < 11 → parseFieldDescriptor (ab_F4 k).2.2.1 = some (ab_t4 k) := by decide +kernel
theorem ab_i4 : ∀ w ∈ u_ws ab_R4 ab_F4 11, w ∈ ab_all := by decide +kernel
def ab_R5 : String := "TempoPlayer$History"
def ab_F5 : u_T := fun k => match k with
  | 0 => ("TempoPlayer$History", "kept", "[LTempoPlayer$Piece;", true)
  | _ => ("TempoPlayer$History", "states", "I", false)
def ab_t5 : Nat → FieldType := fun k => match k with
  | 0 => .array (.object "TempoPlayer$Piece")
  | _ => .int
theorem ab_n5 : ∀ a, a < 2 → ∀ b, b < 2 → a ≠ b → (ab_F5 a).2.1 ≠ (ab_F5 b).2.1 := by decide +kernel
theorem ab_to5 : ∀ k, k < 2 → parseFieldDescriptor (ab_F5 k).2.2.1 = some (ab_t5 k) := by decide +kernel
theorem ab_i5 : ∀ w ∈ u_ws ab_R5 ab_F5 2, w ∈ ab_all := by decide +kernel
def ab_R6 : String := "TempoPlayer$TextReader"
def ab_F6 : u_T := fun k => match k with
  | 0 => ("TempoPlayer$TextReader", "bars", "LTempoPlayer$Table;", true)
  | 1 => ("TempoPlayer$TextReader", "taken", "I", false)
  | 2 => ("TempoPlayer$TextReader", "complete", "Z", false)
  | 3 => ("TempoPlayer$TextReader", "what", "I", false)
  | _ => ("TempoPlayer$TextReader", "number", "I", false)
def ab_t6 : Nat → FieldType := fun k => match k with
  | 0 => .object "TempoPlayer$Table"
  | 1 => .int
  | 2 => .boolean
  | 3 => .int
  | _ => .int
theorem ab_n6 : ∀ a, a < 5 → ∀ b, b < 5 → a ≠ b → (ab_F6 a).2.1 ≠ (ab_F6 b).2.1 := by decide +kernel
theorem ab_to6 : ∀ k, k < 5 → parseFieldDescriptor (ab_F6 k).2.2.1 = some (ab_t6 k) := by decide +kernel
theorem ab_i6 : ∀ w ∈ u_ws ab_R6 ab_F6 5, w ∈ ab_all := by decide +kernel
abbrev ab_cl : List vw_C := [(ab_R0, ab_F0, 10), (ab_R1, ab_F1, 8), (ab_R2, ab_F2, 3), (ab_R3, ab_F3, 4), (ab_R4, ab_F4, 11), (ab_R5, ab_F5, 2), (ab_R6, ab_F6, 5)]
