def RX0 : String := "CartTurns$Book"
def TX0 : u_T := fun k => match k with
  | 0 => ("CartTurns$Book", "judged", "Z", false)
  | 1 => ("CartTurns$Book", "why", "I", false)
  | 2 => ("CartTurns$Book", "right", "I", false)
  | 3 => ("CartTurns$Book", "hour", "I", false)
  | 4 => ("CartTurns$Book", "settled", "I", false)
  | 5 => ("CartTurns$Book", "tape", "LCartTurns$Tape;", true)
  | 6 => ("CartTurns$Book", "deeds", "[I", true)
  | 7 => ("CartTurns$Book", "persons", "[I", true)
  | 8 => ("CartTurns$Book", "figures", "[I", true)
  | 9 => ("CartTurns$Book", "sides", "[I", true)
  | 10 => ("CartTurns$Book", "spans", "[I", true)
  | _ => ("CartTurns$Book", "lines", "I", false)
def tyX0 : Nat → FieldType := fun k => match k with
  | 0 => .boolean
  | 1 => .int
  | 2 => .int
  | 3 => .int
  | 4 => .int
  | 5 => .object "CartTurns$Tape"
  | 6 => .array .int
  | 7 => .array .int
  | 8 => .array .int
  | 9 => .array .int
  | 10 => .array .int
  | _ => .int
abbrev wsX00 : List Cond := u_ws RX0 TX0 12
theorem nmX0 : ∀ a, a < 12 → ∀ b, b < 12 → a ≠ b → (TX0 a).2.1 ≠ (TX0 b).2.1 := by decide +kernel
theorem tyX0_ok : ∀ k, k < 12 → parseFieldDescriptor (TX0 k).2.2.1 = some (tyX0 k) := by decide +kernel
def RX1 : String := "CartTurns$Downs"
def TX1 : u_T := fun k => match k with
  | 0 => ("CartTurns$Downs", "wide", "I", false)
  | 1 => ("CartTurns$Downs", "high", "I", false)
  | 2 => ("CartTurns$Downs", "figures", "I", false)
  | 3 => ("CartTurns$Downs", "persons", "I", false)
  | 4 => ("CartTurns$Downs", "points", "I", false)
  | 5 => ("CartTurns$Downs", "figureName", "[J", true)
  | 6 => ("CartTurns$Downs", "quarters", "[I", true)
  | 7 => ("CartTurns$Downs", "cells", "[I", true)
  | 8 => ("CartTurns$Downs", "personName", "[J", true)
  | 9 => ("CartTurns$Downs", "mostBreath", "[I", true)
  | 10 => ("CartTurns$Downs", "pointName", "[J", true)
  | 11 => ("CartTurns$Downs", "pointX", "[I", true)
  | 12 => ("CartTurns$Downs", "pointY", "[I", true)
  | _ => ("CartTurns$Downs", "pointUp", "[I", true)
def tyX1 : Nat → FieldType := fun k => match k with
  | 0 => .int
  | 1 => .int
  | 2 => .int
  | 3 => .int
  | 4 => .int
  | 5 => .array .long
  | 6 => .array .int
  | 7 => .array .int
  | 8 => .array .long
  | 9 => .array .int
  | 10 => .array .long
  | 11 => .array .int
  | 12 => .array .int
  | _ => .array .int
abbrev wsX10 : List Cond := u_ws RX1 TX1 14
theorem nmX1 : ∀ a, a < 14 → ∀ b, b < 14 → a ≠ b → (TX1 a).2.1 ≠ (TX1 b).2.1 := by decide +kernel
theorem tyX1_ok : ∀ k, k < 14 → parseFieldDescriptor (TX1 k).2.2.1 = some (tyX1 k) := by decide +kernel
def RX2 : String := "CartTurns$DownsText"
def TX2 : u_T := fun k => match k with
  | 0 => ("CartTurns$DownsText", "draft", "LCartTurns$World;", true)
  | 1 => ("CartTurns$DownsText", "tape", "LCartTurns$Tape;", true)
  | 2 => ("CartTurns$DownsText", "sized", "Z", false)
  | _ => ("CartTurns$DownsText", "placed", "Z", false)
def tyX2 : Nat → FieldType := fun k => match k with
  | 0 => .object "CartTurns$World"
  | 1 => .object "CartTurns$Tape"
  | 2 => .boolean
  | _ => .boolean
abbrev wsX20 : List Cond := u_ws RX2 TX2 4
theorem nmX2 : ∀ a, a < 4 → ∀ b, b < 4 → a ≠ b → (TX2 a).2.1 ≠ (TX2 b).2.1 := by decide +kernel
theorem tyX2_ok : ∀ k, k < 4 → parseFieldDescriptor (TX2 k).2.2.1 = some (tyX2 k) := by decide +kernel
def RX3 : String := "CartTurns$History"
def TX3 : u_T := fun k => match k with
  | 0 => ("CartTurns$History", "states", "[LCartTurns$State;", true)
  | 1 => ("CartTurns$History", "next", "I", false)
  | _ => ("CartTurns$History", "kept", "I", false)
def tyX3 : Nat → FieldType := fun k => match k with
  | 0 => .array (.object "CartTurns$State")
  | 1 => .int
  | _ => .int
abbrev wsX30 : List Cond := u_ws RX3 TX3 3
theorem nmX3 : ∀ a, a < 3 → ∀ b, b < 3 → a ≠ b → (TX3 a).2.1 ≠ (TX3 b).2.1 := by decide +kernel
theorem tyX3_ok : ∀ k, k < 3 → parseFieldDescriptor (TX3 k).2.2.1 = some (tyX3 k) := by decide +kernel
def RX4 : String := "CartTurns$Search"
def TX4 : u_T := fun k => match k with
  | 0 => ("CartTurns$Search", "far", "[I", true)
  | 1 => ("CartTurns$Search", "path", "[I", true)
  | 2 => ("CartTurns$Search", "length", "I", false)
  | 3 => ("CartTurns$Search", "shut", "[Z", true)
  | 4 => ("CartTurns$Search", "runs", "[I", true)
  | 5 => ("CartTurns$Search", "from", "[I", true)
  | 6 => ("CartTurns$Search", "moves", "[I", true)
  | 7 => ("CartTurns$Search", "queue", "[I", true)
  | _ => ("CartTurns$Search", "queued", "I", false)
def tyX4 : Nat → FieldType := fun k => match k with
  | 0 => .array .int
  | 1 => .array .int
  | 2 => .int
  | 3 => .array .boolean
  | 4 => .array .int
  | 5 => .array .int
  | 6 => .array .int
  | 7 => .array .int
  | _ => .int
abbrev wsX40 : List Cond := u_ws RX4 TX4 9
theorem nmX4 : ∀ a, a < 9 → ∀ b, b < 9 → a ≠ b → (TX4 a).2.1 ≠ (TX4 b).2.1 := by decide +kernel
theorem tyX4_ok : ∀ k, k < 9 → parseFieldDescriptor (TX4 k).2.2.1 = some (tyX4 k) := by decide +kernel
def RX5 : String := "CartTurns$Sentence"
def TX5 : u_T := fun k => match k with
  | 0 => ("CartTurns$Sentence", "ones", "I", false)
  | 1 => ("CartTurns$Sentence", "length", "I", false)
  | 2 => ("CartTurns$Sentence", "kinds", "[I", true)
  | 3 => ("CartTurns$Sentence", "signs", "[I", true)
  | 4 => ("CartTurns$Sentence", "values", "[I", true)
  | _ => ("CartTurns$Sentence", "stack", "[Z", true)
def tyX5 : Nat → FieldType := fun k => match k with
  | 0 => .int
  | 1 => .int
  | 2 => .array .int
  | 3 => .array .int
  | 4 => .array .int
  | _ => .array .boolean
abbrev wsX50 : List Cond := u_ws RX5 TX5 6
theorem nmX5 : ∀ a, a < 6 → ∀ b, b < 6 → a ≠ b → (TX5 a).2.1 ≠ (TX5 b).2.1 := by decide +kernel
theorem tyX5_ok : ∀ k, k < 6 → parseFieldDescriptor (TX5 k).2.2.1 = some (tyX5 k) := by decide +kernel
def RX6 : String := "CartTurns$State"
def TX6 : u_T := fun k => match k with
  | 0 => ("CartTurns$State", "hour", "I", false)
  | 1 => ("CartTurns$State", "kicks", "I", false)
  | 2 => ("CartTurns$State", "walls", "[I", true)
  | 3 => ("CartTurns$State", "x", "[I", true)
  | 4 => ("CartTurns$State", "y", "[I", true)
  | 5 => ("CartTurns$State", "up", "[I", true)
  | 6 => ("CartTurns$State", "breath", "[I", true)
  | 7 => ("CartTurns$State", "came", "[I", true)
  | _ => ("CartTurns$State", "spoken", "[I", true)
def tyX6 : Nat → FieldType := fun k => match k with
  | 0 => .int
  | 1 => .int
  | 2 => .array .int
  | 3 => .array .int
  | 4 => .array .int
  | 5 => .array .int
  | 6 => .array .int
  | 7 => .array .int
  | _ => .array .int
abbrev wsX60 : List Cond := u_ws RX6 TX6 9
theorem nmX6 : ∀ a, a < 9 → ∀ b, b < 9 → a ≠ b → (TX6 a).2.1 ≠ (TX6 b).2.1 := by decide +kernel
theorem tyX6_ok : ∀ k, k < 9 → parseFieldDescriptor (TX6 k).2.2.1 = some (tyX6 k) := by decide +kernel
def RX7 : String := "CartTurns$Tape"
def TX7 : u_T := fun k => match k with
  | 0 => ("CartTurns$Tape", "bytes", "[B", true)
  | 1 => ("CartTurns$Tape", "size", "I", false)
  | 2 => ("CartTurns$Tape", "kind", "I", false)
  | 3 => ("CartTurns$Tape", "place", "I", false)
  | 4 => ("CartTurns$Tape", "numeral", "I", false)
  | 5 => ("CartTurns$Tape", "word", "J", false)
  | 6 => ("CartTurns$Tape", "fault", "I", false)
  | 7 => ("CartTurns$Tape", "keywords", "[J", true)
  | 8 => ("CartTurns$Tape", "kinds", "[I", true)
  | 9 => ("CartTurns$Tape", "places", "[I", true)
  | 10 => ("CartTurns$Tape", "values", "[J", true)
  | 11 => ("CartTurns$Tape", "tokens", "I", false)
  | 12 => ("CartTurns$Tape", "read", "I", false)
  | _ => ("CartTurns$Tape", "at", "I", false)
def tyX7 : Nat → FieldType := fun k => match k with
  | 0 => .array .byte
  | 1 => .int
  | 2 => .int
  | 3 => .int
  | 4 => .int
  | 5 => .long
  | 6 => .int
  | 7 => .array .long
  | 8 => .array .int
  | 9 => .array .int
  | 10 => .array .long
  | 11 => .int
  | 12 => .int
  | _ => .int
abbrev wsX70 : List Cond := u_ws RX7 TX7 14
theorem nmX7 : ∀ a, a < 14 → ∀ b, b < 14 → a ≠ b → (TX7 a).2.1 ≠ (TX7 b).2.1 := by decide +kernel
theorem tyX7_ok : ∀ k, k < 14 → parseFieldDescriptor (TX7 k).2.2.1 = some (tyX7 k) := by decide +kernel
def RX8 : String := "CartTurns$Tracks"
def TX8 : u_T := fun k => match k with
  | 0 => ("CartTurns$Tracks", "first", "[I", true)
  | 1 => ("CartTurns$Tracks", "steps", "I", false)
  | 2 => ("CartTurns$Tracks", "choices", "[I", true)
  | 3 => ("CartTurns$Tracks", "triedFirst", "[I", true)
  | _ => ("CartTurns$Tracks", "triedChoices", "[I", true)
def tyX8 : Nat → FieldType := fun k => match k with
  | 0 => .array .int
  | 1 => .int
  | 2 => .array .int
  | 3 => .array .int
  | _ => .array .int
abbrev wsX80 : List Cond := u_ws RX8 TX8 5
theorem nmX8 : ∀ a, a < 5 → ∀ b, b < 5 → a ≠ b → (TX8 a).2.1 ≠ (TX8 b).2.1 := by decide +kernel
theorem tyX8_ok : ∀ k, k < 5 → parseFieldDescriptor (TX8 k).2.2.1 = some (tyX8 k) := by decide +kernel
def RX9 : String := "CartTurns$Undoing"
def TX9 : u_T := fun k => match k with
  | 0 => ("CartTurns$Undoing", "path", "[I", true)
  | 1 => ("CartTurns$Undoing", "length", "I", false)
  | _ => ("CartTurns$Undoing", "tried", "[I", true)
def tyX9 : Nat → FieldType := fun k => match k with
  | 0 => .array .int
  | 1 => .int
  | _ => .array .int
abbrev wsX90 : List Cond := u_ws RX9 TX9 3
theorem nmX9 : ∀ a, a < 3 → ∀ b, b < 3 → a ≠ b → (TX9 a).2.1 ≠ (TX9 b).2.1 := by decide +kernel
theorem tyX9_ok : ∀ k, k < 3 → parseFieldDescriptor (TX9 k).2.2.1 = some (tyX9 k) := by decide +kernel
def RX10 : String := "CartTurns$World"
def TX10 : u_T := fun k => match k with
  | 0 => ("CartTurns$World", "downs", "LCartTurns$Downs;", true)
  | 1 => ("CartTurns$World", "state", "LCartTurns$State;", true)
  | 2 => ("CartTurns$World", "sentence", "LCartTurns$Sentence;", true)
  | _ => ("CartTurns$World", "drawing", "I", false)
def tyX10 : Nat → FieldType := fun k => match k with
  | 0 => .object "CartTurns$Downs"
  | 1 => .object "CartTurns$State"
  | 2 => .object "CartTurns$Sentence"
  | _ => .int
abbrev wsX100 : List Cond := u_ws RX10 TX10 4
theorem nmX10 : ∀ a, a < 4 → ∀ b, b < 4 → a ≠ b → (TX10 a).2.1 ≠ (TX10 b).2.1 := by decide +kernel
theorem tyX10_ok : ∀ k, k < 4 → parseFieldDescriptor (TX10 k).2.2.1 = some (tyX10 k) := by decide +kernel
def RX11 : String := "CartTurns"
def TX11 : u_T := fun k => match k with
  | 0 => ("CartTurns", "tape", "LCartTurns$Tape;", true)
  | 1 => ("CartTurns", "here", "LCartTurns$World;", true)
  | 2 => ("CartTurns", "trial", "LCartTurns$World;", true)
  | 3 => ("CartTurns", "downsText", "LCartTurns$DownsText;", true)
  | 4 => ("CartTurns", "book", "LCartTurns$Book;", true)
  | 5 => ("CartTurns", "draftSentence", "LCartTurns$Sentence;", true)
  | 6 => ("CartTurns", "search", "LCartTurns$Search;", true)
  | 7 => ("CartTurns", "undoing", "LCartTurns$Undoing;", true)
  | 8 => ("CartTurns", "tracks", "LCartTurns$Tracks;", true)
  | 9 => ("CartTurns", "history", "LCartTurns$History;", true)
  | 10 => ("CartTurns", "images", "[LCartTurns$World;", true)
  | 11 => ("CartTurns", "imageKept", "[Z", true)
  | 12 => ("CartTurns", "slip", "[B", true)
  | _ => ("CartTurns", "slipSize", "I", false)
def tyX11 : Nat → FieldType := fun k => match k with
  | 0 => .object "CartTurns$Tape"
  | 1 => .object "CartTurns$World"
  | 2 => .object "CartTurns$World"
  | 3 => .object "CartTurns$DownsText"
  | 4 => .object "CartTurns$Book"
  | 5 => .object "CartTurns$Sentence"
  | 6 => .object "CartTurns$Search"
  | 7 => .object "CartTurns$Undoing"
  | 8 => .object "CartTurns$Tracks"
  | 9 => .object "CartTurns$History"
  | 10 => .array (.object "CartTurns$World")
  | 11 => .array .boolean
  | 12 => .array .byte
  | _ => .int
abbrev wsX110 : List Cond := u_ws RX11 TX11 14
theorem nmX11 : ∀ a, a < 14 → ∀ b, b < 14 → a ≠ b → (TX11 a).2.1 ≠ (TX11 b).2.1 := by decide +kernel
theorem tyX11_ok : ∀ k, k < 14 → parseFieldDescriptor (TX11 k).2.2.1 = some (tyX11 k) := by decide +kernel
def RX12 : String := "CartTurnsModel"
def TX12 : u_T := fun k => match k with
  | 0 => ("CartTurnsModel", "thrown", "I", false)
  | 1 => ("CartTurnsModel", "tape", "[I", true)
  | 2 => ("CartTurnsModel", "taped", "I", false)
  | 3 => ("CartTurnsModel", "size", "I", false)
  | 4 => ("CartTurnsModel", "limit", "I", false)
  | 5 => ("CartTurnsModel", "to", "I", false)
  | 6 => ("CartTurnsModel", "from", "I", false)
  | 7 => ("CartTurnsModel", "kind", "I", false)
  | 8 => ("CartTurnsModel", "number", "I", false)
  | 9 => ("CartTurnsModel", "sign", "I", false)
  | 10 => ("CartTurnsModel", "fault", "I", false)
  | 11 => ("CartTurnsModel", "place", "I", false)
  | 12 => ("CartTurnsModel", "word", "J", false)
  | 13 => ("CartTurnsModel", "told", "I", false)
  | 14 => ("CartTurnsModel", "now", "[I", true)
  | 15 => ("CartTurnsModel", "read", "[I", true)
  | 16 => ("CartTurnsModel", "kept", "[I", true)
  | 17 => ("CartTurnsModel", "snaps", "[I", true)
  | 18 => ("CartTurnsModel", "aside", "[I", true)
  | 19 => ("CartTurnsModel", "name", "[J", true)
  | 20 => ("CartTurnsModel", "readName", "[J", true)
  | 21 => ("CartTurnsModel", "keptName", "[J", true)
  | 22 => ("CartTurnsModel", "isKept", "[Z", true)
  | 23 => ("CartTurnsModel", "once", "Z", false)
  | 24 => ("CartTurnsModel", "hasCells", "Z", false)
  | 25 => ("CartTurnsModel", "snapMany", "I", false)
  | 26 => ("CartTurnsModel", "far", "[I", true)
  | 27 => ("CartTurnsModel", "queue", "[I", true)
  | 28 => ("CartTurnsModel", "wayRow", "[I", true)
  | 29 => ("CartTurnsModel", "wayMany", "I", false)
  | 30 => ("CartTurnsModel", "undoRow", "[I", true)
  | 31 => ("CartTurnsModel", "undoMany", "I", false)
  | 32 => ("CartTurnsModel", "undoTold", "[I", true)
  | 33 => ("CartTurnsModel", "stepRow", "[I", true)
  | 34 => ("CartTurnsModel", "stepMany", "I", false)
  | 35 => ("CartTurnsModel", "telling", "I", false)
  | 36 => ("CartTurnsModel", "text", "[I", true)
  | 37 => ("CartTurnsModel", "texts", "I", false)
  | 38 => ("CartTurnsModel", "seed", "I", false)
  | 39 => ("CartTurnsModel", "line", "[I", true)
  | 40 => ("CartTurnsModel", "written", "[I", true)
  | 41 => ("CartTurnsModel", "lineMany", "I", false)
  | 42 => ("CartTurnsModel", "hasWritten", "Z", false)
  | 43 => ("CartTurnsModel", "node", "[I", true)
  | 44 => ("CartTurnsModel", "nodes", "I", false)
  | 45 => ("CartTurnsModel", "onesMany", "I", false)
  | 46 => ("CartTurnsModel", "within", "I", false)
  | _ => ("CartTurnsModel", "top", "I", false)
def tyX12 : Nat → FieldType := fun k => match k with
  | 0 => .int
  | 1 => .array .int
  | 2 => .int
  | 3 => .int
  | 4 => .int
  | 5 => .int
  | 6 => .int
  | 7 => .int
  | 8 => .int
  | 9 => .int
  | 10 => .int
  | 11 => .int
  | 12 => .long
  | 13 => .int
  | 14 => .array .int
  | 15 => .array .int
  | 16 => .array .int
  | 17 => .array .int
  | 18 => .array .int
  | 19 => .array .long
  | 20 => .array .long
  | 21 => .array .long
  | 22 => .array .boolean
  | 23 => .boolean
  | 24 => .boolean
  | 25 => .int
  | 26 => .array .int
  | 27 => .array .int
  | 28 => .array .int
  | 29 => .int
  | 30 => .array .int
  | 31 => .int
  | 32 => .array .int
  | 33 => .array .int
  | 34 => .int
  | 35 => .int
  | 36 => .array .int
  | 37 => .int
  | 38 => .int
  | 39 => .array .int
  | 40 => .array .int
  | 41 => .int
  | 42 => .boolean
  | 43 => .array .int
  | 44 => .int
  | 45 => .int
  | 46 => .int
  | _ => .int
abbrev wsX120 : List Cond := u_ws RX12 TX12 48
theorem nmX12 : ∀ a, a < 48 → ∀ b, b < 48 → a ≠ b → (TX12 a).2.1 ≠ (TX12 b).2.1 := by decide +kernel
theorem tyX12_ok : ∀ k, k < 48 → parseFieldDescriptor (TX12 k).2.2.1 = some (tyX12 k) := by decide +kernel
