/-! printed by gen.py out of the Statement: the classes, the methods as blocks -/
def zC0 : String := "RingCouncil$Elders"
def zT0 : u_T := fun k => match k with
  | 0 => ("RingCouncil$Elders", "kinds", "[I", true)
  | 1 => ("RingCouncil$Elders", "firsts", "[I", true)
  | 2 => ("RingCouncil$Elders", "liesLeft", "[I", true)
  | 3 => ("RingCouncil$Elders", "liesRight", "[I", true)
  | 4 => ("RingCouncil$Elders", "liesPull", "[Z", true)
  | 5 => ("RingCouncil$Elders", "stuckRopes", "[Z", true)
  | 6 => ("RingCouncil$Elders", "barred", "[Z", true)
  | _ => ("RingCouncil$Elders", "ruling", "I", false)
def zY0 : Nat → FieldType := fun k => match k with
  | 0 => .array .int
  | 1 => .array .int
  | 2 => .array .int
  | 3 => .array .int
  | 4 => .array .boolean
  | 5 => .array .boolean
  | 6 => .array .boolean
  | _ => .int
theorem zN0 : ∀ a, a < 8 → ∀ b, b < 8 → a ≠ b → (zT0 a).2.1 ≠ (zT0 b).2.1 := by decide +kernel
theorem zY0_ok : ∀ k, k < 8 → parseFieldDescriptor (zT0 k).2.2.1 = some (zY0 k) := by decide +kernel
def zC1 : String := "RingCouncil$Found"
def zT1 : u_T := fun k => match k with
  | 0 => ("RingCouncil$Found", "width", "I", true)
  | 1 => ("RingCouncil$Found", "rows", "[I", true)
  | 2 => ("RingCouncil$Found", "row", "[I", true)
  | 3 => ("RingCouncil$Found", "slots", "[I", true)
  | 4 => ("RingCouncil$Found", "slotOf", "[I", true)
  | _ => ("RingCouncil$Found", "count", "I", false)
def zY1 : Nat → FieldType := fun k => match k with
  | 0 => .int
  | 1 => .array .int
  | 2 => .array .int
  | 3 => .array .int
  | 4 => .array .int
  | _ => .int
theorem zN1 : ∀ a, a < 6 → ∀ b, b < 6 → a ≠ b → (zT1 a).2.1 ≠ (zT1 b).2.1 := by decide +kernel
theorem zY1_ok : ∀ k, k < 6 → parseFieldDescriptor (zT1 k).2.2.1 = some (zY1 k) := by decide +kernel
def zC2 : String := "RingCouncil$Hall"
def zT2 : u_T := fun k => match k with
  | 0 => ("RingCouncil$Hall", "rooms", "I", true)
  | 1 => ("RingCouncil$Hall", "keeps", "[I", true)
  | 2 => ("RingCouncil$Hall", "left", "[I", true)
  | 3 => ("RingCouncil$Hall", "right", "[I", true)
  | 4 => ("RingCouncil$Hall", "pulls", "[Z", true)
  | 5 => ("RingCouncil$Hall", "texts", "[LRingCouncil$Text;", true)
  | _ => ("RingCouncil$Hall", "results", "[I", true)
def zY2 : Nat → FieldType := fun k => match k with
  | 0 => .int
  | 1 => .array .int
  | 2 => .array .int
  | 3 => .array .int
  | 4 => .array .boolean
  | 5 => .array (.object "RingCouncil$Text")
  | _ => .array .int
theorem zN2 : ∀ a, a < 7 → ∀ b, b < 7 → a ≠ b → (zT2 a).2.1 ≠ (zT2 b).2.1 := by decide +kernel
theorem zY2_ok : ∀ k, k < 7 → parseFieldDescriptor (zT2 k).2.2.1 = some (zY2 k) := by decide +kernel
def zC3 : String := "RingCouncil$Heard"
def zT3 : u_T := fun k => match k with
  | 0 => ("RingCouncil$Heard", "left", "[I", true)
  | 1 => ("RingCouncil$Heard", "right", "[I", true)
  | 2 => ("RingCouncil$Heard", "room", "I", false)
  | _ => ("RingCouncil$Heard", "count", "I", false)
def zY3 : Nat → FieldType := fun k => match k with
  | 0 => .array .int
  | 1 => .array .int
  | 2 => .int
  | _ => .int
theorem zN3 : ∀ a, a < 4 → ∀ b, b < 4 → a ≠ b → (zT3 a).2.1 ≠ (zT3 b).2.1 := by decide +kernel
theorem zY3_ok : ∀ k, k < 4 → parseFieldDescriptor (zT3 k).2.2.1 = some (zY3 k) := by decide +kernel
def zC4 : String := "RingCouncil$Moment"
def zT4 : u_T := fun k => match k with
  | 0 => ("RingCouncil$Moment", "keeps", "[I", true)
  | 1 => ("RingCouncil$Moment", "gotLeft", "[I", true)
  | 2 => ("RingCouncil$Moment", "gotRight", "[I", true)
  | 3 => ("RingCouncil$Moment", "bell", "I", false)
  | _ => ("RingCouncil$Moment", "hour", "I", false)
def zY4 : Nat → FieldType := fun k => match k with
  | 0 => .array .int
  | 1 => .array .int
  | 2 => .array .int
  | 3 => .int
  | _ => .int
theorem zN4 : ∀ a, a < 5 → ∀ b, b < 5 → a ≠ b → (zT4 a).2.1 ≠ (zT4 b).2.1 := by decide +kernel
theorem zY4_ok : ∀ k, k < 5 → parseFieldDescriptor (zT4 k).2.2.1 = some (zY4 k) := by decide +kernel
def zC5 : String := "RingCouncil$Past"
def zT5 : u_T := fun k => match k with
  | 0 => ("RingCouncil$Past", "ring", "[LRingCouncil$Moment;", true)
  | 1 => ("RingCouncil$Past", "behind", "I", false)
  | _ => ("RingCouncil$Past", "count", "I", false)
def zY5 : Nat → FieldType := fun k => match k with
  | 0 => .array (.object "RingCouncil$Moment")
  | 1 => .int
  | _ => .int
theorem zN5 : ∀ a, a < 3 → ∀ b, b < 3 → a ≠ b → (zT5 a).2.1 ≠ (zT5 b).2.1 := by decide +kernel
theorem zY5_ok : ∀ k, k < 3 → parseFieldDescriptor (zT5 k).2.2.1 = some (zY5 k) := by decide +kernel
def zC6 : String := "RingCouncil$Runs"
def zT6 : u_T := fun k => match k with
  | 0 => ("RingCouncil$Runs", "found", "LRingCouncil$Found;", false)
  | 1 => ("RingCouncil$Runs", "ahead", "LRingCouncil$Found;", false)
  | 2 => ("RingCouncil$Runs", "quiet", "LRingCouncil$Found;", true)
  | 3 => ("RingCouncil$Runs", "parents", "[[I", true)
  | 4 => ("RingCouncil$Runs", "doings", "[[I", true)
  | 5 => ("RingCouncil$Runs", "hall", "LRingCouncil$Hall;", true)
  | 6 => ("RingCouncil$Runs", "here", "LRingCouncil$Moment;", true)
  | 7 => ("RingCouncil$Runs", "there", "LRingCouncil$Moment;", true)
  | 8 => ("RingCouncil$Runs", "liars", "[I", true)
  | 9 => ("RingCouncil$Runs", "tries", "[I", true)
  | 10 => ("RingCouncil$Runs", "liarCount", "I", false)
  | 11 => ("RingCouncil$Runs", "noteKinds", "I", false)
  | _ => ("RingCouncil$Runs", "tryCount", "I", false)
def zY6 : Nat → FieldType := fun k => match k with
  | 0 => .object "RingCouncil$Found"
  | 1 => .object "RingCouncil$Found"
  | 2 => .object "RingCouncil$Found"
  | 3 => .array (.array .int)
  | 4 => .array (.array .int)
  | 5 => .object "RingCouncil$Hall"
  | 6 => .object "RingCouncil$Moment"
  | 7 => .object "RingCouncil$Moment"
  | 8 => .array .int
  | 9 => .array .int
  | 10 => .int
  | 11 => .int
  | _ => .int
theorem zN6 : ∀ a, a < 13 → ∀ b, b < 13 → a ≠ b → (zT6 a).2.1 ≠ (zT6 b).2.1 := by decide +kernel
theorem zY6_ok : ∀ k, k < 13 → parseFieldDescriptor (zT6 k).2.2.1 = some (zY6 k) := by decide +kernel
def zC7 : String := "RingCouncil$Tape"
def zT7 : u_T := fun k => match k with
  | 0 => ("RingCouncil$Tape", "bytes", "[I", true)
  | 1 => ("RingCouncil$Tape", "length", "I", false)
  | 2 => ("RingCouncil$Tape", "fault", "I", false)
  | 3 => ("RingCouncil$Tape", "place", "I", false)
  | 4 => ("RingCouncil$Tape", "made", "LRingCouncil$Text;", false)
  | 5 => ("RingCouncil$Tape", "token", "I", false)
  | 6 => ("RingCouncil$Tape", "tokenAt", "I", false)
  | 7 => ("RingCouncil$Tape", "behind", "I", false)
  | _ => ("RingCouncil$Tape", "number", "I", false)
def zY7 : Nat → FieldType := fun k => match k with
  | 0 => .array .int
  | 1 => .int
  | 2 => .int
  | 3 => .int
  | 4 => .object "RingCouncil$Text"
  | 5 => .int
  | 6 => .int
  | 7 => .int
  | _ => .int
theorem zN7 : ∀ a, a < 9 → ∀ b, b < 9 → a ≠ b → (zT7 a).2.1 ≠ (zT7 b).2.1 := by decide +kernel
theorem zY7_ok : ∀ k, k < 9 → parseFieldDescriptor (zT7 k).2.2.1 = some (zY7 k) := by decide +kernel
def zC8 : String := "RingCouncil$Text"
def zT8 : u_T := fun k => match k with
  | 0 => ("RingCouncil$Text", "signs", "[I", true)
  | 1 => ("RingCouncil$Text", "firsts", "[I", true)
  | 2 => ("RingCouncil$Text", "seconds", "[I", true)
  | 3 => ("RingCouncil$Text", "thirds", "[I", true)
  | 4 => ("RingCouncil$Text", "clauseKinds", "[I", true)
  | 5 => ("RingCouncil$Text", "clauseHeads", "[I", true)
  | 6 => ("RingCouncil$Text", "clauseLasts", "[I", true)
  | 7 => ("RingCouncil$Text", "size", "I", false)
  | _ => ("RingCouncil$Text", "clauses", "I", false)
def zY8 : Nat → FieldType := fun k => match k with
  | 0 => .array .int
  | 1 => .array .int
  | 2 => .array .int
  | 3 => .array .int
  | 4 => .array .int
  | 5 => .array .int
  | 6 => .array .int
  | 7 => .int
  | _ => .int
theorem zN8 : ∀ a, a < 9 → ∀ b, b < 9 → a ≠ b → (zT8 a).2.1 ≠ (zT8 b).2.1 := by decide +kernel
theorem zY8_ok : ∀ k, k < 9 → parseFieldDescriptor (zT8 k).2.2.1 = some (zY8 k) := by decide +kernel
def zC9 : String := "RingCouncil$Tries"
def zT9 : u_T := fun k => match k with
  | 0 => ("RingCouncil$Tries", "rooms", "I", true)
  | 1 => ("RingCouncil$Tries", "hall", "LRingCouncil$Hall;", true)
  | 2 => ("RingCouncil$Tries", "main", "LRingCouncil$Moment;", true)
  | 3 => ("RingCouncil$Tries", "slipped", "LRingCouncil$Moment;", true)
  | _ => ("RingCouncil$Tries", "seen", "[[I", true)
def zY9 : Nat → FieldType := fun k => match k with
  | 0 => .int
  | 1 => .object "RingCouncil$Hall"
  | 2 => .object "RingCouncil$Moment"
  | 3 => .object "RingCouncil$Moment"
  | _ => .array (.array .int)
theorem zN9 : ∀ a, a < 5 → ∀ b, b < 5 → a ≠ b → (zT9 a).2.1 ≠ (zT9 b).2.1 := by decide +kernel
theorem zY9_ok : ∀ k, k < 5 → parseFieldDescriptor (zT9 k).2.2.1 = some (zY9 k) := by decide +kernel
def zC10 : String := "RingCouncil$Whole"
def zT10 : u_T := fun k => match k with
  | 0 => ("RingCouncil$Whole", "elders", "LRingCouncil$Elders;", true)
  | 1 => ("RingCouncil$Whole", "moment", "LRingCouncil$Moment;", true)
  | 2 => ("RingCouncil$Whole", "past", "LRingCouncil$Past;", true)
  | 3 => ("RingCouncil$Whole", "heard", "LRingCouncil$Heard;", true)
  | _ => ("RingCouncil$Whole", "texts", "I", false)
def zY10 : Nat → FieldType := fun k => match k with
  | 0 => .object "RingCouncil$Elders"
  | 1 => .object "RingCouncil$Moment"
  | 2 => .object "RingCouncil$Past"
  | 3 => .object "RingCouncil$Heard"
  | _ => .int
theorem zN10 : ∀ a, a < 5 → ∀ b, b < 5 → a ≠ b → (zT10 a).2.1 ≠ (zT10 b).2.1 := by decide +kernel
theorem zY10_ok : ∀ k, k < 5 → parseFieldDescriptor (zT10 k).2.2.1 = some (zY10 k) := by decide +kernel
def zC11 : String := "RingCouncil"
def zT11 : u_T := fun k => match k with
  | 0 => ("RingCouncil", "rooms", "I", true)
  | 1 => ("RingCouncil", "texts", "[LRingCouncil$Text;", true)
  | 2 => ("RingCouncil", "tape", "LRingCouncil$Tape;", true)
  | 3 => ("RingCouncil", "hall", "LRingCouncil$Hall;", true)
  | 4 => ("RingCouncil", "tries", "LRingCouncil$Tries;", true)
  | 5 => ("RingCouncil", "runs", "LRingCouncil$Runs;", true)
  | 6 => ("RingCouncil", "tried", "LRingCouncil$Elders;", true)
  | 7 => ("RingCouncil", "nothingHeard", "LRingCouncil$Heard;", true)
  | 8 => ("RingCouncil", "now", "LRingCouncil$Whole;", true)
  | 9 => ("RingCouncil", "kept", "LRingCouncil$Whole;", true)
  | 10 => ("RingCouncil", "faultKind", "I", false)
  | _ => ("RingCouncil", "faultPlace", "I", false)
def zY11 : Nat → FieldType := fun k => match k with
  | 0 => .int
  | 1 => .array (.object "RingCouncil$Text")
  | 2 => .object "RingCouncil$Tape"
  | 3 => .object "RingCouncil$Hall"
  | 4 => .object "RingCouncil$Tries"
  | 5 => .object "RingCouncil$Runs"
  | 6 => .object "RingCouncil$Elders"
  | 7 => .object "RingCouncil$Heard"
  | 8 => .object "RingCouncil$Whole"
  | 9 => .object "RingCouncil$Whole"
  | 10 => .int
  | _ => .int
theorem zN11 : ∀ a, a < 12 → ∀ b, b < 12 → a ≠ b → (zT11 a).2.1 ≠ (zT11 b).2.1 := by decide +kernel
theorem zY11_ok : ∀ k, k < 12 → parseFieldDescriptor (zT11 k).2.2.1 = some (zY11 k) := by decide +kernel
def zC12 : String := "RingCouncilModel"
def zT12 : u_T := fun k => match k with
  | 0 => ("RingCouncilModel", "a", "[I", true)
  | 1 => ("RingCouncilModel", "image", "[I", true)
  | 2 => ("RingCouncilModel", "rooms", "I", true)
  | 3 => ("RingCouncilModel", "texts", "[I", true)
  | 4 => ("RingCouncilModel", "tape", "[I", true)
  | 5 => ("RingCouncilModel", "taped", "I", false)
  | 6 => ("RingCouncilModel", "fault", "I", false)
  | 7 => ("RingCouncilModel", "faultPlace", "I", false)
  | 8 => ("RingCouncilModel", "at", "I", false)
  | 9 => ("RingCouncilModel", "place", "I", false)
  | 10 => ("RingCouncilModel", "token", "I", false)
  | 11 => ("RingCouncilModel", "number", "I", false)
  | 12 => ("RingCouncilModel", "word", "J", false)
  | 13 => ("RingCouncilModel", "text0", "I", false)
  | 14 => ("RingCouncilModel", "clauses", "I", false)
  | 15 => ("RingCouncilModel", "written", "I", false)
  | 16 => ("RingCouncilModel", "came", "I", false)
  | 17 => ("RingCouncilModel", "pile", "[I", true)
  | 18 => ("RingCouncilModel", "piled", "I", false)
  | 19 => ("RingCouncilModel", "opens", "I", false)
  | 20 => ("RingCouncilModel", "isWhole", "Z", false)
  | 21 => ("RingCouncilModel", "once", "I", false)
  | 22 => ("RingCouncilModel", "named", "[I", true)
  | 23 => ("RingCouncilModel", "values", "[J", true)
  | 24 => ("RingCouncilModel", "truth", "[Z", true)
  | 25 => ("RingCouncilModel", "firsts", "[I", true)
  | 26 => ("RingCouncilModel", "kinds", "[I", true)
  | 27 => ("RingCouncilModel", "tried", "[I", true)
  | 28 => ("RingCouncilModel", "states", "[I", true)
  | 29 => ("RingCouncilModel", "many", "[I", true)
  | 30 => ("RingCouncilModel", "cameFrom", "[I", true)
  | 31 => ("RingCouncilModel", "cameBy", "[I", true)
  | 32 => ("RingCouncilModel", "chain", "[I", true)
  | 33 => ("RingCouncilModel", "chains", "[I", true)
  | 34 => ("RingCouncilModel", "free", "[I", true)
  | 35 => ("RingCouncilModel", "freeMany", "I", false)
  | 36 => ("RingCouncilModel", "greatest", "I", false)
  | 37 => ("RingCouncilModel", "others", "[I", true)
  | 38 => ("RingCouncilModel", "whole", "[I", true)
  | _ => ("RingCouncilModel", "seen", "[I", true)
def zY12 : Nat → FieldType := fun k => match k with
  | 0 => .array .int
  | 1 => .array .int
  | 2 => .int
  | 3 => .array .int
  | 4 => .array .int
  | 5 => .int
  | 6 => .int
  | 7 => .int
  | 8 => .int
  | 9 => .int
  | 10 => .int
  | 11 => .int
  | 12 => .long
  | 13 => .int
  | 14 => .int
  | 15 => .int
  | 16 => .int
  | 17 => .array .int
  | 18 => .int
  | 19 => .int
  | 20 => .boolean
  | 21 => .int
  | 22 => .array .int
  | 23 => .array .long
  | 24 => .array .boolean
  | 25 => .array .int
  | 26 => .array .int
  | 27 => .array .int
  | 28 => .array .int
  | 29 => .array .int
  | 30 => .array .int
  | 31 => .array .int
  | 32 => .array .int
  | 33 => .array .int
  | 34 => .array .int
  | 35 => .int
  | 36 => .int
  | 37 => .array .int
  | 38 => .array .int
  | _ => .array .int
theorem zN12 : ∀ a, a < 40 → ∀ b, b < 40 → a ≠ b → (zT12 a).2.1 ≠ (zT12 b).2.1 := by decide +kernel
theorem zY12_ok : ∀ k, k < 40 → parseFieldDescriptor (zT12 k).2.2.1 = some (zY12 k) := by decide +kernel
abbrev zCl : List vw_C := [(zC0, zT0, 8), (zC1, zT1, 6), (zC2, zT2, 7), (zC3, zT3, 4), (zC4, zT4, 5), (zC5, zT5, 3), (zC6, zT6, 13), (zC7, zT7, 9), (zC8, zT8, 9), (zC9, zT9, 5), (zC10, zT10, 5), (zC11, zT11, 12), (zC12, zT12, 40)]
/-- kinds of the fields, a class a row -/
def zKd : List (List Nat) := [[3, 3, 3, 3, 3, 3, 3, 0], [0, 3, 3, 3, 3, 0], [0, 3, 3, 3, 3, 3, 3], [3, 3, 0, 0], [3, 3, 3, 0, 0], [3, 0, 0], [3, 3, 3, 3, 3, 3, 3, 3, 3, 3, 0, 0, 0], [3, 0, 0, 0, 3, 0, 0, 0, 0], [3, 3, 3, 3, 3, 3, 3, 0, 0], [0, 3, 3, 3, 3], [3, 3, 3, 3, 0], [0, 3, 3, 3, 3, 3, 3, 3, 3, 3, 0, 0], [3, 3, 0, 3, 3, 0, 0, 0, 0, 0, 0, 0, 2, 0, 0, 0, 0, 3, 0, 0, 1, 0, 3, 3, 3, 3, 3, 3, 3, 3, 3, 3, 3, 3, 3, 0, 0, 3, 3, 3]]
def n_Elders_init : MethodName := ⟨"RingCouncil$Elders", "<init>", "(I)V"⟩
abbrev m_Elders_init : Nat := 0
def B_Elders_init : List xB := [
  ([(.aload_n 0, 1, []), (.invokespecial 3, 3, [0]), (.aload_n 0, 1, []), (.iload_n 1, 1, []), (.newarray .int, 2, []), (.putfield 9, 3, [0, 0, 3]), (.aload_n 0, 1, []), (.iload_n 1, 1, []), (.newarray .int, 2, []), (.putfield 15, 3, [0, 1, 3]), (.aload_n 0, 1, []), (.iload_n 1, 1, []), (.newarray .int, 2, []), (.putfield 18, 3, [0, 2, 3]), (.aload_n 0, 1, []), (.iload_n 1, 1, []), (.newarray .int, 2, []), (.putfield 21, 3, [0, 3, 3]), (.aload_n 0, 1, []), (.iload_n 1, 1, []), (.newarray .boolean, 2, []), (.putfield 24, 3, [0, 4, 3]), (.aload_n 0, 1, []), (.iload_n 1, 1, []), (.newarray .boolean, 2, []), (.putfield 28, 3, [0, 5, 3]), (.aload_n 0, 1, []), (.bipush 100, 2, []), (.newarray .boolean, 2, []), (.putfield 31, 3, [0, 6, 3]), (.aload_n 0, 1, []), (.iconst (-1), 1, []), (.putfield 34, 3, [0, 7, 0]), (.iconst 0, 1, []), (.istore_n 2, 1, [])], 1, 7),
  ([(.iload_n 2, 1, []), (.iload_n 1, 1, []), (.if_icmp .ge 23, 3, [3, 0, 2, 7])], 0, 0),
  ([(.aload_n 0, 1, []), (.getfield 18, 3, [0, 2, 3]), (.iload_n 2, 1, []), (.iconst (-1), 1, []), (.iastore, 1, []), (.aload_n 0, 1, []), (.getfield 21, 3, [0, 3, 3]), (.iload_n 2, 1, []), (.iconst (-1), 1, []), (.iastore, 1, []), (.iinc 2 1, 3, []), (.goto (-22), 3, [1, 7])], 0, 0),
  ([(.return_, 1, [])], 0, 0)]
def z_Elders_init : xMeth := (n_Elders_init, prog_2_method_1_code, 3, none, [0, 61, 66, 86], B_Elders_init, (7, 154))
def n_Elders_copyFrom : MethodName := ⟨"RingCouncil$Elders", "copyFrom", "(LRingCouncil$Elders;)V"⟩
abbrev m_Elders_copyFrom : Nat := 1
def B_Elders_copyFrom : List xB := [
  ([(.aload_n 1, 1, []), (.getfield 9, 3, [0, 0, 3]), (.iconst 0, 1, []), (.aload_n 0, 1, []), (.getfield 9, 3, [0, 0, 3]), (.iconst 0, 1, []), (.aload_n 0, 1, []), (.getfield 9, 3, [0, 0, 3]), (.arraylength, 1, []), (.invokestatic 38, 3, [0]), (.aload_n 1, 1, []), (.getfield 15, 3, [0, 1, 3]), (.iconst 0, 1, []), (.aload_n 0, 1, []), (.getfield 15, 3, [0, 1, 3]), (.iconst 0, 1, []), (.aload_n 0, 1, []), (.getfield 15, 3, [0, 1, 3]), (.arraylength, 1, []), (.invokestatic 38, 3, [0]), (.aload_n 1, 1, []), (.getfield 18, 3, [0, 2, 3]), (.iconst 0, 1, []), (.aload_n 0, 1, []), (.getfield 18, 3, [0, 2, 3]), (.iconst 0, 1, []), (.aload_n 0, 1, []), (.getfield 18, 3, [0, 2, 3]), (.arraylength, 1, []), (.invokestatic 38, 3, [0]), (.aload_n 1, 1, []), (.getfield 21, 3, [0, 3, 3]), (.iconst 0, 1, []), (.aload_n 0, 1, []), (.getfield 21, 3, [0, 3, 3]), (.iconst 0, 1, []), (.aload_n 0, 1, []), (.getfield 21, 3, [0, 3, 3]), (.arraylength, 1, []), (.invokestatic 38, 3, [0]), (.aload_n 1, 1, []), (.getfield 24, 3, [0, 4, 3]), (.iconst 0, 1, []), (.aload_n 0, 1, []), (.getfield 24, 3, [0, 4, 3]), (.iconst 0, 1, []), (.aload_n 0, 1, []), (.getfield 24, 3, [0, 4, 3]), (.arraylength, 1, []), (.invokestatic 38, 3, [0]), (.aload_n 1, 1, []), (.getfield 28, 3, [0, 5, 3]), (.iconst 0, 1, []), (.aload_n 0, 1, []), (.getfield 28, 3, [0, 5, 3]), (.iconst 0, 1, []), (.aload_n 0, 1, []), (.getfield 28, 3, [0, 5, 3]), (.arraylength, 1, []), (.invokestatic 38, 3, [0]), (.aload_n 1, 1, []), (.getfield 31, 3, [0, 6, 3]), (.iconst 0, 1, []), (.aload_n 0, 1, []), (.getfield 31, 3, [0, 6, 3]), (.iconst 0, 1, []), (.aload_n 0, 1, []), (.getfield 31, 3, [0, 6, 3]), (.arraylength, 1, []), (.invokestatic 38, 3, [0]), (.aload_n 0, 1, []), (.aload_n 1, 1, []), (.getfield 34, 3, [0, 7, 0]), (.putfield 34, 3, [0, 7, 0]), (.return_, 1, [])], 0, 0)]
def z_Elders_copyFrom : xMeth := (n_Elders_copyFrom, prog_2_method_2_code, 2, none, [0], B_Elders_copyFrom, (0, 0))
def n_Elders_countLiars : MethodName := ⟨"RingCouncil$Elders", "countLiars", "()I"⟩
abbrev m_Elders_countLiars : Nat := 2
def B_Elders_countLiars : List xB := [
  ([(.iconst 0, 1, []), (.istore_n 1, 1, []), (.aload_n 0, 1, []), (.getfield 9, 3, [0, 0, 3]), (.astore_n 2, 1, []), (.aload_n 2, 1, []), (.arraylength, 1, []), (.istore_n 3, 1, []), (.iconst 0, 1, []), (.istore 4, 2, [])], 1, 30),
  ([(.iload 4, 2, []), (.iload_n 3, 1, []), (.if_icmp .ge 29, 3, [6, 2, 2, 30])], 0, 0),
  ([(.aload_n 2, 1, []), (.iload 4, 2, []), (.iaload, 1, []), (.istore 5, 2, []), (.iload_n 1, 1, []), (.iload 5, 2, []), (.iconst 1, 1, []), (.if_icmp .ne 7, 3, [4, 28, 3, 28])], 0, 0),
  ([(.iconst 1, 1, []), (.goto 4, 3, [5, 28])], 0, 0),
  ([(.iconst 0, 1, [])], 5, 28),
  ([(.iadd, 1, []), (.istore_n 1, 1, []), (.iinc 4 1, 3, []), (.goto (-29), 3, [1, 30])], 0, 0),
  ([(.iload_n 1, 1, []), (.ireturn, 1, [0])], 0, 0)]
def z_Elders_countLiars : xMeth := (n_Elders_countLiars, prog_2_method_3_code, 6, some FieldType.int, [0, 13, 19, 32, 36, 37, 45], B_Elders_countLiars, (0, 0))
def n_Elders_countBarred : MethodName := ⟨"RingCouncil$Elders", "countBarred", "()I"⟩
abbrev m_Elders_countBarred : Nat := 3
def B_Elders_countBarred : List xB := [
  ([(.iconst 0, 1, []), (.istore_n 1, 1, []), (.aload_n 0, 1, []), (.getfield 31, 3, [0, 6, 3]), (.astore_n 2, 1, []), (.aload_n 2, 1, []), (.arraylength, 1, []), (.istore_n 3, 1, []), (.iconst 0, 1, []), (.istore 4, 2, [])], 1, 30),
  ([(.iload 4, 2, []), (.iload_n 3, 1, []), (.if_icmp .ge 28, 3, [6, 2, 2, 30])], 0, 0),
  ([(.aload_n 2, 1, []), (.iload 4, 2, []), (.baload, 1, []), (.istore 5, 2, []), (.iload_n 1, 1, []), (.iload 5, 2, []), (.ifCond .eq 7, 3, [4, 28, 3, 28])], 0, 0),
  ([(.iconst 1, 1, []), (.goto 4, 3, [5, 28])], 0, 0),
  ([(.iconst 0, 1, [])], 5, 28),
  ([(.iadd, 1, []), (.istore_n 1, 1, []), (.iinc 4 1, 3, []), (.goto (-28), 3, [1, 30])], 0, 0),
  ([(.iload_n 1, 1, []), (.ireturn, 1, [0])], 0, 0)]
def z_Elders_countBarred : xMeth := (n_Elders_countBarred, prog_2_method_4_code, 6, some FieldType.int, [0, 13, 19, 31, 35, 36, 44], B_Elders_countBarred, (0, 0))
def n_Elders_makeLiarsSound : MethodName := ⟨"RingCouncil$Elders", "makeLiarsSound", "()V"⟩
abbrev m_Elders_makeLiarsSound : Nat := 4
def B_Elders_makeLiarsSound : List xB := [
  ([(.iconst 0, 1, []), (.istore_n 1, 1, [])], 1, 3),
  ([(.iload_n 1, 1, []), (.aload_n 0, 1, []), (.getfield 9, 3, [0, 0, 3]), (.arraylength, 1, []), (.if_icmp .ge 35, 3, [6, 0, 2, 3])], 0, 0),
  ([(.aload_n 0, 1, []), (.getfield 9, 3, [0, 0, 3]), (.iload_n 1, 1, []), (.aload_n 0, 1, []), (.getfield 9, 3, [0, 0, 3]), (.iload_n 1, 1, []), (.iaload, 1, []), (.iconst 1, 1, []), (.if_icmp .ne 7, 3, [4, 3, 3, 3])], 0, 0),
  ([(.iconst 0, 1, []), (.goto 9, 3, [5, 3])], 0, 0),
  ([(.aload_n 0, 1, []), (.getfield 9, 3, [0, 0, 3]), (.iload_n 1, 1, []), (.iaload, 1, [])], 5, 3),
  ([(.iastore, 1, []), (.iinc 1 1, 3, []), (.goto (-38), 3, [1, 3])], 0, 0),
  ([(.return_, 1, [])], 0, 0)]
def z_Elders_makeLiarsSound : xMeth := (n_Elders_makeLiarsSound, prog_2_method_5_code, 2, none, [0, 2, 11, 26, 30, 36, 43], B_Elders_makeLiarsSound, (0, 0))
def n_Elders_through : MethodName := ⟨"RingCouncil$Elders", "through", "(I)I"⟩
abbrev m_Elders_through : Nat := 5
def B_Elders_through : List xB := [
  ([(.iload_n 1, 1, []), (.ifCond .lt 18, 3, [3, 0, 1, 3])], 0, 0),
  ([(.iload_n 1, 1, []), (.bipush 99, 2, []), (.if_icmp .gt 12, 3, [3, 0, 2, 3])], 0, 0),
  ([(.aload_n 0, 1, []), (.getfield 31, 3, [0, 6, 3]), (.iload_n 1, 1, []), (.baload, 1, []), (.ifCond .eq 7, 3, [4, 2, 3, 0])], 0, 0),
  ([(.iconst (-1), 1, []), (.goto 4, 3, [5, 0])], 0, 0),
  ([(.iload_n 1, 1, [])], 5, 0),
  ([(.ireturn, 1, [0])], 0, 0)]
def z_Elders_through : xMeth := (n_Elders_through, prog_2_method_6_code, 2, some FieldType.int, [0, 4, 10, 19, 23, 24], B_Elders_through, (0, 0))
def n_Found_init : MethodName := ⟨"RingCouncil$Found", "<init>", "(I)V"⟩
abbrev m_Found_init : Nat := 6
def B_Found_init : List xB := [
  ([(.aload_n 0, 1, []), (.invokespecial 3, 3, [0]), (.aload_n 0, 1, []), (.sipush 4096, 3, []), (.newarray .int, 2, []), (.putfield 11, 3, [1, 3, 3]), (.aload_n 0, 1, []), (.sipush 2000, 3, []), (.newarray .int, 2, []), (.putfield 15, 3, [1, 4, 3]), (.aload_n 0, 1, []), (.iload_n 1, 1, []), (.iconst 1, 1, []), (.iadd, 1, []), (.putfield 18, 3, [1, 0, 0]), (.aload_n 0, 1, []), (.sipush 2000, 3, []), (.aload_n 0, 1, []), (.getfield 18, 3, [1, 0, 0]), (.imul, 1, []), (.newarray .int, 2, []), (.putfield 22, 3, [1, 1, 3]), (.aload_n 0, 1, []), (.aload_n 0, 1, []), (.getfield 18, 3, [1, 0, 0]), (.newarray .int, 2, []), (.putfield 25, 3, [1, 2, 3]), (.return_, 1, [])], 0, 0)]
def z_Found_init : xMeth := (n_Found_init, prog_3_method_1_code, 2, none, [0], B_Found_init, (4, 26106))
def n_Found_clear : MethodName := ⟨"RingCouncil$Found", "clear", "()V"⟩
abbrev m_Found_clear : Nat := 7
def B_Found_clear : List xB := [
  ([(.iconst 0, 1, []), (.istore_n 1, 1, [])], 1, 3),
  ([(.iload_n 1, 1, []), (.aload_n 0, 1, []), (.getfield 28, 3, [1, 5, 0]), (.if_icmp .ge 21, 3, [3, 1, 2, 3])], 0, 0),
  ([(.aload_n 0, 1, []), (.getfield 11, 3, [1, 3, 3]), (.aload_n 0, 1, []), (.getfield 15, 3, [1, 4, 3]), (.iload_n 1, 1, []), (.iaload, 1, []), (.iconst 0, 1, []), (.iastore, 1, []), (.iinc 1 1, 3, []), (.goto (-23), 3, [1, 3])], 0, 0),
  ([(.aload_n 0, 1, []), (.iconst 0, 1, []), (.putfield 28, 3, [1, 5, 0]), (.return_, 1, [])], 0, 0)]
def z_Found_clear : xMeth := (n_Found_clear, prog_3_method_2_code, 2, none, [0, 2, 10, 28], B_Found_clear, (0, 0))
def n_Found_put : MethodName := ⟨"RingCouncil$Found", "put", "(LRingCouncil$Moment;)I"⟩
abbrev m_Found_put : Nat := 8
def B_Found_put : List xB := [
  ([(.aload_n 0, 1, []), (.aload_n 1, 1, []), (.invokevirtual 31, 3, [1, 10, 1, 1, 0]), (.istore_n 2, 1, []), (.iconst 0, 1, []), (.istore_n 3, 1, [])], 1, 13),
  ([(.iload_n 3, 1, []), (.sipush 4096, 3, []), (.if_icmp .ge 43, 3, [6, 5, 2, 13])], 0, 0),
  ([(.aload_n 0, 1, []), (.getfield 11, 3, [1, 3, 3]), (.iload_n 2, 1, []), (.iaload, 1, []), (.ifCond .eq 34, 3, [6, 5, 3, 13])], 0, 0),
  ([(.aload_n 0, 1, []), (.aload_n 0, 1, []), (.getfield 11, 3, [1, 3, 3]), (.iload_n 2, 1, []), (.iaload, 1, []), (.iconst 1, 1, []), (.isub, 1, []), (.invokevirtual 35, 3, [1, 11, 1, 1, 0]), (.ifCond .eq 5, 3, [5, 13, 4, 0])], 0, 0),
  ([(.iconst 0, 1, []), (.ireturn, 1, [0])], 0, 0),
  ([(.iload_n 2, 1, []), (.iconst 1, 1, []), (.iadd, 1, []), (.sipush 4095, 3, []), (.iand, 1, []), (.istore_n 2, 1, []), (.iinc 3 1, 3, []), (.goto (-44), 3, [1, 13])], 0, 0),
  ([(.aload_n 0, 1, []), (.getfield 28, 3, [1, 5, 0]), (.sipush 2000, 3, []), (.if_icmp .lt 5, 3, [8, 5, 7, 0])], 0, 0),
  ([(.iconst 2, 1, []), (.ireturn, 1, [0])], 0, 0),
  ([(.aload_n 0, 1, []), (.getfield 25, 3, [1, 2, 3]), (.iconst 0, 1, []), (.aload_n 0, 1, []), (.getfield 22, 3, [1, 1, 3]), (.aload_n 0, 1, []), (.getfield 28, 3, [1, 5, 0]), (.aload_n 0, 1, []), (.getfield 18, 3, [1, 0, 0]), (.imul, 1, []), (.aload_n 0, 1, []), (.getfield 18, 3, [1, 0, 0]), (.invokestatic 39, 3, [0]), (.aload_n 0, 1, []), (.getfield 15, 3, [1, 4, 3]), (.aload_n 0, 1, []), (.getfield 28, 3, [1, 5, 0]), (.iload_n 2, 1, []), (.iastore, 1, []), (.aload_n 0, 1, []), (.dup, 1, []), (.getfield 28, 3, [1, 5, 0]), (.iconst 1, 1, []), (.iadd, 1, []), (.putfield 28, 3, [1, 5, 0]), (.aload_n 0, 1, []), (.getfield 11, 3, [1, 3, 3]), (.iload_n 2, 1, []), (.aload_n 0, 1, []), (.getfield 28, 3, [1, 5, 0]), (.iastore, 1, []), (.iconst 1, 1, []), (.ireturn, 1, [0])], 0, 0)]
def z_Found_put : xMeth := (n_Found_put, prog_3_method_3_code, 4, some FieldType.int, [0, 8, 15, 24, 39, 41, 55, 65, 67], B_Found_put, (0, 0))
def n_Found_show : MethodName := ⟨"RingCouncil$Found", "show", "(ILRingCouncil$Moment;)V"⟩
abbrev m_Found_show : Nat := 9
def B_Found_show : List xB := [
  ([(.iload_n 1, 1, []), (.aload_n 0, 1, []), (.getfield 18, 3, [1, 0, 0]), (.imul, 1, []), (.istore_n 3, 1, []), (.iconst 0, 1, []), (.istore 4, 2, [])], 1, 29),
  ([(.iload 4, 2, []), (.iconst 1, 1, []), (.iadd, 1, []), (.aload_n 0, 1, []), (.getfield 18, 3, [1, 0, 0]), (.if_icmp .ge 64, 3, [3, 13, 2, 29])], 0, 0),
  ([(.aload_n 0, 1, []), (.getfield 22, 3, [1, 1, 3]), (.iload_n 3, 1, []), (.iload 4, 2, []), (.iadd, 1, []), (.iaload, 1, []), (.istore 5, 2, []), (.aload_n 2, 1, []), (.getfield 45, 3, [4, 2, 3]), (.iload 4, 2, []), (.iload 5, 2, []), (.bipush 101, 2, []), (.irem, 1, []), (.iconst 1, 1, []), (.isub, 1, []), (.iastore, 1, []), (.aload_n 2, 1, []), (.getfield 50, 3, [4, 1, 3]), (.iload 4, 2, []), (.iload 5, 2, []), (.bipush 101, 2, []), (.idiv, 1, []), (.bipush 101, 2, []), (.irem, 1, []), (.iconst 1, 1, []), (.isub, 1, []), (.iastore, 1, []), (.aload_n 2, 1, []), (.getfield 53, 3, [4, 0, 3]), (.iload 4, 2, []), (.iload 5, 2, []), (.sipush 10201, 3, []), (.idiv, 1, []), (.iastore, 1, []), (.iinc 4 1, 3, []), (.goto (-69), 3, [1, 29])], 0, 0),
  ([(.aload_n 2, 1, []), (.aload_n 0, 1, []), (.getfield 22, 3, [1, 1, 3]), (.iload_n 3, 1, []), (.aload_n 0, 1, []), (.getfield 18, 3, [1, 0, 0]), (.iadd, 1, []), (.iconst 1, 1, []), (.isub, 1, []), (.iaload, 1, []), (.putfield 56, 3, [4, 3, 0]), (.return_, 1, [])], 0, 0)]
def z_Found_show : xMeth := (n_Found_show, prog_3_method_4_code, 6, none, [0, 10, 21, 82], B_Found_show, (0, 0))
def n_Found_pack : MethodName := ⟨"RingCouncil$Found", "pack", "(LRingCouncil$Moment;)I"⟩
abbrev m_Found_pack : Nat := 10
def B_Found_pack : List xB := [
  ([(.aload_n 1, 1, []), (.getfield 56, 3, [4, 3, 0]), (.istore_n 2, 1, []), (.iconst 0, 1, []), (.istore_n 3, 1, [])], 1, 15),
  ([(.iload_n 3, 1, []), (.iconst 1, 1, []), (.iadd, 1, []), (.aload_n 0, 1, []), (.getfield 18, 3, [1, 0, 0]), (.if_icmp .ge 68, 3, [3, 7, 2, 15])], 0, 0),
  ([(.aload_n 1, 1, []), (.getfield 53, 3, [4, 0, 3]), (.iload_n 3, 1, []), (.iaload, 1, []), (.bipush 101, 2, []), (.imul, 1, []), (.aload_n 1, 1, []), (.getfield 50, 3, [4, 1, 3]), (.iload_n 3, 1, []), (.iaload, 1, []), (.iadd, 1, []), (.iconst 1, 1, []), (.iadd, 1, []), (.istore 4, 2, []), (.aload_n 0, 1, []), (.getfield 25, 3, [1, 2, 3]), (.iload_n 3, 1, []), (.iload 4, 2, []), (.bipush 101, 2, []), (.imul, 1, []), (.aload_n 1, 1, []), (.getfield 45, 3, [4, 2, 3]), (.iload_n 3, 1, []), (.iaload, 1, []), (.iadd, 1, []), (.iconst 1, 1, []), (.iadd, 1, []), (.iastore, 1, []), (.iload_n 2, 1, []), (.aload_n 0, 1, []), (.getfield 25, 3, [1, 2, 3]), (.iload_n 3, 1, []), (.iaload, 1, []), (.ixor, 1, []), (.ldc 59, 2, [16777619]), (.imul, 1, []), (.istore_n 2, 1, []), (.iload_n 2, 1, []), (.iload_n 2, 1, []), (.bipush 15, 2, []), (.iushr, 1, []), (.ixor, 1, []), (.istore_n 2, 1, []), (.iinc 3 1, 3, []), (.goto (-72), 3, [1, 15])], 0, 0),
  ([(.aload_n 0, 1, []), (.getfield 25, 3, [1, 2, 3]), (.aload_n 0, 1, []), (.getfield 18, 3, [1, 0, 0]), (.iconst 1, 1, []), (.isub, 1, []), (.aload_n 1, 1, []), (.getfield 56, 3, [4, 3, 0]), (.iastore, 1, []), (.iload_n 2, 1, []), (.sipush 4095, 3, []), (.iand, 1, []), (.ireturn, 1, [0])], 0, 0)]
def z_Found_pack : xMeth := (n_Found_pack, prog_3_method_5_code, 5, some FieldType.int, [0, 7, 17, 82], B_Found_pack, (0, 0))
def n_Found_isRowAt : MethodName := ⟨"RingCouncil$Found", "isRowAt", "(I)Z"⟩
abbrev m_Found_isRowAt : Nat := 11
def B_Found_isRowAt : List xB := [
  ([(.iload_n 1, 1, []), (.aload_n 0, 1, []), (.getfield 18, 3, [1, 0, 0]), (.imul, 1, []), (.istore_n 2, 1, []), (.iconst 0, 1, []), (.istore_n 3, 1, [])], 1, 13),
  ([(.iload_n 3, 1, []), (.aload_n 0, 1, []), (.getfield 18, 3, [1, 0, 0]), (.if_icmp .ge 28, 3, [5, 0, 2, 13])], 0, 0),
  ([(.aload_n 0, 1, []), (.getfield 22, 3, [1, 1, 3]), (.iload_n 2, 1, []), (.iload_n 3, 1, []), (.iadd, 1, []), (.iaload, 1, []), (.aload_n 0, 1, []), (.getfield 25, 3, [1, 2, 3]), (.iload_n 3, 1, []), (.iaload, 1, []), (.if_icmp .eq 5, 3, [4, 13, 3, 0])], 0, 0),
  ([(.iconst 0, 1, []), (.ireturn, 1, [1])], 0, 0),
  ([(.iinc 3 1, 3, []), (.goto (-30), 3, [1, 13])], 0, 0),
  ([(.iconst 1, 1, []), (.ireturn, 1, [1])], 0, 0)]
def z_Found_isRowAt : xMeth := (n_Found_isRowAt, prog_3_method_6_code, 4, some FieldType.boolean, [0, 9, 17, 34, 36, 42], B_Found_isRowAt, (0, 0))
def n_Hall_init : MethodName := ⟨"RingCouncil$Hall", "<init>", "(I[LRingCouncil$Text;)V"⟩
abbrev m_Hall_init : Nat := 12
def B_Hall_init : List xB := [
  ([(.aload_n 0, 1, []), (.invokespecial 3, 3, [0]), (.aload_n 0, 1, []), (.sipush 300, 3, []), (.newarray .int, 2, []), (.putfield 9, 3, [2, 6, 3]), (.aload_n 0, 1, []), (.iload_n 1, 1, []), (.putfield 15, 3, [2, 0, 0]), (.aload_n 0, 1, []), (.aload_n 2, 1, []), (.putfield 19, 3, [2, 5, 3]), (.aload_n 0, 1, []), (.iload_n 1, 1, []), (.newarray .int, 2, []), (.putfield 23, 3, [2, 1, 3]), (.aload_n 0, 1, []), (.iload_n 1, 1, []), (.newarray .int, 2, []), (.putfield 26, 3, [2, 2, 3]), (.aload_n 0, 1, []), (.iload_n 1, 1, []), (.newarray .int, 2, []), (.putfield 29, 3, [2, 3, 3]), (.aload_n 0, 1, []), (.iload_n 1, 1, []), (.newarray .boolean, 2, []), (.putfield 32, 3, [2, 4, 3]), (.return_, 1, [])], 0, 0)]
def z_Hall_init : xMeth := (n_Hall_init, prog_4_method_1_code, 3, none, [0], B_Hall_init, (5, 336))
def n_Hall_leftOf : MethodName := ⟨"RingCouncil$Hall", "leftOf", "(I)I"⟩
abbrev m_Hall_leftOf : Nat := 13
def B_Hall_leftOf : List xB := [
  ([(.iload_n 1, 1, []), (.ifCond .le 9, 3, [2, 1, 1, 2])], 0, 0),
  ([(.iload_n 1, 1, []), (.iconst 1, 1, []), (.isub, 1, []), (.goto 9, 3, [3, 0])], 0, 0),
  ([(.aload_n 0, 1, []), (.getfield 15, 3, [2, 0, 0]), (.iconst 1, 1, []), (.isub, 1, [])], 3, 0),
  ([(.ireturn, 1, [0])], 0, 0)]
def z_Hall_leftOf : xMeth := (n_Hall_leftOf, prog_4_method_2_code, 2, some FieldType.int, [0, 4, 10, 16], B_Hall_leftOf, (0, 0))
def n_Hall_rightOf : MethodName := ⟨"RingCouncil$Hall", "rightOf", "(I)I"⟩
abbrev m_Hall_rightOf : Nat := 14
def B_Hall_rightOf : List xB := [
  ([(.iload_n 1, 1, []), (.iconst 1, 1, []), (.iadd, 1, []), (.aload_n 0, 1, []), (.getfield 15, 3, [2, 0, 0]), (.if_icmp .ge 9, 3, [2, 0, 1, 2])], 0, 0),
  ([(.iload_n 1, 1, []), (.iconst 1, 1, []), (.iadd, 1, []), (.goto 4, 3, [3, 0])], 0, 0),
  ([(.iconst 0, 1, [])], 3, 0),
  ([(.ireturn, 1, [0])], 0, 0)]
def z_Hall_rightOf : xMeth := (n_Hall_rightOf, prog_4_method_3_code, 2, some FieldType.int, [0, 10, 16, 17], B_Hall_rightOf, (0, 0))
def n_Hall_pass : MethodName := ⟨"RingCouncil$Hall", "pass", "(LRingCouncil$Elders;LRingCouncil$Moment;)V"⟩
abbrev m_Hall_pass : Nat := 15
def B_Hall_pass : List xB := [
  ([(.aload_n 0, 1, []), (.aload_n 1, 1, []), (.aload_n 2, 1, []), (.invokevirtual 36, 3, [1, 16, 2, 2, 1]), (.aload_n 0, 1, []), (.aload_n 1, 1, []), (.aload_n 2, 1, []), (.aload_n 2, 1, []), (.getfield 40, 3, [4, 4, 0]), (.iconst 1, 1, []), (.iadd, 1, []), (.invokevirtual 45, 3, [1, 18, 3, 2, 1]), (.return_, 1, [])], 0, 0)]
def z_Hall_pass : xMeth := (n_Hall_pass, prog_4_method_4_code, 3, none, [0], B_Hall_pass, (0, 0))
def n_Hall_decide : MethodName := ⟨"RingCouncil$Hall", "decide", "(LRingCouncil$Elders;LRingCouncil$Moment;)V"⟩
abbrev m_Hall_decide : Nat := 16
def B_Hall_decide : List xB := [
  ([(.iconst 0, 1, []), (.istore_n 3, 1, [])], 1, 15),
  ([(.iload_n 3, 1, []), (.aload_n 0, 1, []), (.getfield 15, 3, [2, 0, 0]), (.if_icmp .ge 129, 3, [19, 0, 2, 15])], 0, 0),
  ([(.aload_n 1, 1, []), (.getfield 49, 3, [0, 0, 3]), (.iload_n 3, 1, []), (.iaload, 1, []), (.iconst 1, 1, []), (.if_icmp .ne 7, 3, [4, 15, 3, 15])], 0, 0),
  ([(.iconst 1, 1, []), (.goto 4, 3, [5, 15])], 0, 0),
  ([(.iconst 0, 1, [])], 5, 15),
  ([(.istore 4, 2, []), (.aload_n 0, 1, []), (.getfield 23, 3, [2, 1, 3]), (.iload_n 3, 1, []), (.aload_n 2, 1, []), (.getfield 54, 3, [4, 0, 3]), (.iload_n 3, 1, []), (.iaload, 1, []), (.iastore, 1, []), (.aload_n 0, 1, []), (.getfield 26, 3, [2, 2, 3]), (.iload_n 3, 1, []), (.iload 4, 2, []), (.ifCond .eq 12, 3, [7, 31, 6, 31])], 0, 0),
  ([(.aload_n 1, 1, []), (.getfield 55, 3, [0, 2, 3]), (.iload_n 3, 1, []), (.iaload, 1, []), (.goto 4, 3, [8, 31])], 0, 0),
  ([(.iconst (-1), 1, [])], 8, 31),
  ([(.iastore, 1, []), (.aload_n 0, 1, []), (.getfield 29, 3, [2, 3, 3]), (.iload_n 3, 1, []), (.iload 4, 2, []), (.ifCond .eq 12, 3, [10, 31, 9, 31])], 0, 0),
  ([(.aload_n 1, 1, []), (.getfield 58, 3, [0, 3, 3]), (.iload_n 3, 1, []), (.iaload, 1, []), (.goto 4, 3, [11, 31])], 0, 0),
  ([(.iconst (-1), 1, [])], 11, 31),
  ([(.iastore, 1, []), (.aload_n 0, 1, []), (.getfield 32, 3, [2, 4, 3]), (.iload_n 3, 1, []), (.iload 4, 2, []), (.ifCond .eq 16, 3, [14, 15, 12, 15])], 0, 0),
  ([(.aload_n 1, 1, []), (.getfield 61, 3, [0, 4, 3]), (.iload_n 3, 1, []), (.baload, 1, []), (.ifCond .eq 7, 3, [14, 15, 13, 15])], 0, 0),
  ([(.iconst 1, 1, []), (.goto 4, 3, [15, 15])], 0, 0),
  ([(.iconst 0, 1, [])], 15, 15),
  ([(.bastore, 1, []), (.aload_n 1, 1, []), (.getfield 49, 3, [0, 0, 3]), (.iload_n 3, 1, []), (.iaload, 1, []), (.ifCond .ne 18, 3, [18, 15, 16, 15])], 0, 0),
  ([(.aload_n 0, 1, []), (.aload_n 1, 1, []), (.invokevirtual 64, 3, [1, 21, 1, 2, 0]), (.ifCond .eq 10, 3, [18, 15, 17, 15])], 0, 0),
  ([(.aload_n 0, 1, []), (.aload_n 1, 1, []), (.aload_n 2, 1, []), (.iload_n 3, 1, []), (.invokevirtual 68, 3, [1, 17, 3, 2, 1])], 18, 15),
  ([(.iinc 3 1, 3, []), (.goto (-131), 3, [1, 15])], 0, 0),
  ([(.return_, 1, [])], 0, 0)]
def z_Hall_decide : xMeth := (n_Hall_decide, prog_4_method_5_code, 5, none, [0, 2, 10, 20, 24, 25, 49, 58, 59, 70, 79, 80, 91, 100, 104, 105, 115, 123, 130, 136], B_Hall_decide, (0, 0))
def n_Hall_decideSound : MethodName := ⟨"RingCouncil$Hall", "decideSound", "(LRingCouncil$Elders;LRingCouncil$Moment;I)V"⟩
abbrev m_Hall_decideSound : Nat := 17
def B_Hall_decideSound : List xB := [
  ([(.aload_n 0, 1, []), (.getfield 19, 3, [2, 5, 3]), (.aload_n 1, 1, []), (.getfield 71, 3, [0, 7, 0]), (.aaload, 1, []), (.astore 4, 2, []), (.iconst 0, 1, []), (.istore 5, 2, [])], 1, 63),
  ([(.iload 5, 2, []), (.aload 4, 2, []), (.getfield 74, 3, [8, 8, 0]), (.if_icmp .ge 149, 3, [14, 0, 2, 63])], 0, 0),
  ([(.aload 4, 2, []), (.getfield 79, 3, [8, 4, 3]), (.iload 5, 2, []), (.iaload, 1, []), (.istore 6, 2, []), (.iload 6, 2, []), (.sipush 403, 3, []), (.if_icmp .ne 6, 3, [4, 127, 3, 63])], 0, 0),
  ([(.goto 122, 3, [13, 63])], 0, 0),
  ([(.aload_n 0, 1, []), (.aload 4, 2, []), (.iload 5, 2, []), (.aload_n 1, 1, []), (.aload_n 2, 1, []), (.iload_n 3, 1, []), (.invokevirtual 84, 3, [1, 22, 5, 2, 0]), (.istore 7, 2, []), (.iload 6, 2, []), (.tableswitch 79 400 402 #[28, 45, 62], 28, [8, 191, 5, 191, 6, 191, 7, 191])], 0, 0),
  ([(.aload_n 0, 1, []), (.getfield 23, 3, [2, 1, 3]), (.iload_n 3, 1, []), (.iload 7, 2, []), (.iconst 0, 1, []), (.bipush 99, 2, []), (.invokestatic 88, 3, [2, 115, 3, 0]), (.iastore, 1, []), (.goto 62, 3, [13, 63])], 0, 0),
  ([(.aload_n 0, 1, []), (.getfield 26, 3, [2, 2, 3]), (.iload_n 3, 1, []), (.iload 7, 2, []), (.iconst (-1), 1, []), (.bipush 99, 2, []), (.invokestatic 88, 3, [2, 115, 3, 0]), (.iastore, 1, []), (.goto 45, 3, [13, 63])], 0, 0),
  ([(.aload_n 0, 1, []), (.getfield 29, 3, [2, 3, 3]), (.iload_n 3, 1, []), (.iload 7, 2, []), (.iconst (-1), 1, []), (.bipush 99, 2, []), (.invokestatic 88, 3, [2, 115, 3, 0]), (.iastore, 1, []), (.goto 28, 3, [13, 63])], 0, 0),
  ([(.aload_n 0, 1, []), (.getfield 32, 3, [2, 4, 3]), (.iload_n 3, 1, []), (.aload_n 0, 1, []), (.getfield 32, 3, [2, 4, 3]), (.iload_n 3, 1, []), (.baload, 1, []), (.ifCond .ne 8, 3, [10, 63, 9, 191])], 0, 0),
  ([(.iload 7, 2, []), (.ifCond .eq 7, 3, [11, 63, 10, 63])], 0, 0),
  ([(.iconst 1, 1, []), (.goto 4, 3, [12, 63])], 0, 0),
  ([(.iconst 0, 1, [])], 12, 63),
  ([(.bastore, 1, [])], 13, 63),
  ([(.iinc 5 1, 3, []), (.goto (-153), 3, [1, 63])], 0, 0),
  ([(.return_, 1, [])], 0, 0)]
def z_Hall_decideSound : xMeth := (n_Hall_decideSound, prog_4_method_6_code, 8, none, [0, 14, 24, 42, 45, 88, 105, 122, 139, 153, 158, 162, 163, 164, 170], B_Hall_decideSound, (0, 0))
def n_Hall_carry : MethodName := ⟨"RingCouncil$Hall", "carry", "(LRingCouncil$Elders;LRingCouncil$Moment;I)V"⟩
abbrev m_Hall_carry : Nat := 18
def B_Hall_carry : List xB := [
  ([(.iconst 0, 1, []), (.istore 4, 2, []), (.iconst 0, 1, []), (.istore 5, 2, [])], 1, 63),
  ([(.iload 5, 2, []), (.aload_n 0, 1, []), (.getfield 15, 3, [2, 0, 0]), (.if_icmp .ge 97, 3, [7, 28, 2, 63])], 0, 0),
  ([(.aload_n 2, 1, []), (.getfield 54, 3, [4, 0, 3]), (.iload 5, 2, []), (.aload_n 0, 1, []), (.getfield 23, 3, [2, 1, 3]), (.iload 5, 2, []), (.iaload, 1, []), (.iastore, 1, []), (.aload_n 2, 1, []), (.getfield 92, 3, [4, 1, 3]), (.aload_n 0, 1, []), (.iload 5, 2, []), (.invokevirtual 95, 3, [1, 14, 1, 2, 0]), (.aload_n 1, 1, []), (.aload_n 0, 1, []), (.getfield 29, 3, [2, 3, 3]), (.iload 5, 2, []), (.iaload, 1, []), (.invokevirtual 99, 3, [1, 5, 1, 0, 0]), (.iastore, 1, []), (.aload_n 2, 1, []), (.getfield 102, 3, [4, 2, 3]), (.aload_n 0, 1, []), (.iload 5, 2, []), (.invokevirtual 105, 3, [1, 13, 1, 2, 0]), (.aload_n 1, 1, []), (.aload_n 0, 1, []), (.getfield 26, 3, [2, 2, 3]), (.iload 5, 2, []), (.iaload, 1, []), (.invokevirtual 99, 3, [1, 5, 1, 0, 0]), (.iastore, 1, []), (.iload 4, 2, []), (.aload_n 0, 1, []), (.getfield 32, 3, [2, 4, 3]), (.iload 5, 2, []), (.baload, 1, []), (.ifCond .eq 17, 3, [5, 47, 3, 47])], 0, 0),
  ([(.aload_n 1, 1, []), (.getfield 108, 3, [0, 5, 3]), (.iload 5, 2, []), (.baload, 1, []), (.ifCond .ne 7, 3, [5, 47, 4, 47])], 0, 0),
  ([(.iconst 1, 1, []), (.goto 4, 3, [6, 47])], 0, 0),
  ([(.iconst 0, 1, [])], 6, 47),
  ([(.iadd, 1, []), (.istore 4, 2, []), (.iinc 5 1, 3, []), (.goto (-100), 3, [1, 63])], 0, 0),
  ([(.aload_n 2, 1, []), (.iload 4, 2, []), (.putfield 111, 3, [4, 3, 0]), (.aload_n 2, 1, []), (.iload_n 3, 1, []), (.putfield 40, 3, [4, 4, 0]), (.return_, 1, [])], 0, 0)]
def z_Hall_carry : xMeth := (n_Hall_carry, prog_4_method_7_code, 6, none, [0, 6, 15, 85, 95, 99, 100, 109], B_Hall_carry, (0, 0))
def n_Hall_wordOf : MethodName := ⟨"RingCouncil$Hall", "wordOf", "(LRingCouncil$Elders;LRingCouncil$Moment;I)I"⟩
abbrev m_Hall_wordOf : Nat := 19
def B_Hall_wordOf : List xB := [
  ([(.aload_n 0, 1, []), (.aload_n 1, 1, []), (.invokevirtual 64, 3, [1, 21, 1, 2, 0]), (.ifCond .eq 21, 3, [2, 15, 1, 15])], 0, 0),
  ([(.aload_n 0, 1, []), (.getfield 19, 3, [2, 5, 3]), (.aload_n 1, 1, []), (.getfield 71, 3, [0, 7, 0]), (.aaload, 1, []), (.sipush 403, 3, []), (.invokevirtual 114, 3, [1, 73, 1, 8, 0]), (.goto 4, 3, [3, 15])], 0, 0),
  ([(.iconst (-1), 1, [])], 3, 15),
  ([(.istore 4, 2, []), (.iload 4, 2, []), (.iconst (-1), 1, []), (.if_icmp .ne 12, 3, [5, 31, 4, 12])], 0, 0),
  ([(.aload_n 2, 1, []), (.getfield 54, 3, [4, 0, 3]), (.iload_n 3, 1, []), (.iaload, 1, []), (.goto 21, 3, [6, 0])], 0, 0),
  ([(.aload_n 0, 1, []), (.aload_n 0, 1, []), (.getfield 19, 3, [2, 5, 3]), (.aload_n 1, 1, []), (.getfield 71, 3, [0, 7, 0]), (.aaload, 1, []), (.iload 4, 2, []), (.aload_n 1, 1, []), (.aload_n 2, 1, []), (.iload_n 3, 1, []), (.invokevirtual 84, 3, [1, 22, 5, 2, 0])], 6, 0),
  ([(.istore 5, 2, []), (.iload 5, 2, []), (.iconst 0, 1, []), (.bipush 9, 2, []), (.invokestatic 88, 3, [2, 115, 3, 0]), (.ireturn, 1, [0])], 0, 0)]
def z_Hall_wordOf : xMeth := (n_Hall_wordOf, prog_4_method_8_code, 6, some FieldType.int, [0, 8, 26, 27, 35, 44, 62], B_Hall_wordOf, (0, 0))
def n_Hall_isAgreed : MethodName := ⟨"RingCouncil$Hall", "isAgreed", "(LRingCouncil$Elders;LRingCouncil$Moment;)Z"⟩
abbrev m_Hall_isAgreed : Nat := 20
def B_Hall_isAgreed : List xB := [
  ([(.iconst (-1), 1, []), (.istore_n 3, 1, []), (.iconst 0, 1, []), (.istore 4, 2, [])], 1, 31),
  ([(.iload 4, 2, []), (.aload_n 0, 1, []), (.getfield 15, 3, [2, 0, 0]), (.if_icmp .ge 48, 3, [9, 0, 2, 31])], 0, 0),
  ([(.aload_n 1, 1, []), (.getfield 49, 3, [0, 0, 3]), (.iload 4, 2, []), (.iaload, 1, []), (.ifCond .eq 6, 3, [4, 31, 3, 31])], 0, 0),
  ([(.goto 29, 3, [8, 31])], 0, 0),
  ([(.aload_n 0, 1, []), (.aload_n 1, 1, []), (.aload_n 2, 1, []), (.iload 4, 2, []), (.invokevirtual 117, 3, [1, 19, 3, 2, 0]), (.istore 5, 2, []), (.iload_n 3, 1, []), (.iconst (-1), 1, []), (.if_icmp .eq 11, 3, [7, 55, 5, 63])], 0, 0),
  ([(.iload_n 3, 1, []), (.iload 5, 2, []), (.if_icmp .eq 5, 3, [7, 55, 6, 0])], 0, 0),
  ([(.iconst 0, 1, []), (.ireturn, 1, [1])], 0, 0),
  ([(.iload 5, 2, []), (.istore_n 3, 1, [])], 8, 31),
  ([(.iinc 4 1, 3, []), (.goto (-51), 3, [1, 31])], 0, 0),
  ([(.iconst 1, 1, []), (.ireturn, 1, [1])], 0, 0)]
def z_Hall_isAgreed : xMeth := (n_Hall_isAgreed, prog_4_method_9_code, 6, some FieldType.boolean, [0, 5, 14, 24, 27, 42, 48, 50, 53, 59], B_Hall_isAgreed, (0, 0))
def n_Hall_isRuled : MethodName := ⟨"RingCouncil$Hall", "isRuled", "(LRingCouncil$Elders;)Z"⟩
abbrev m_Hall_isRuled : Nat := 21
def B_Hall_isRuled : List xB := [
  ([(.aload_n 1, 1, []), (.getfield 71, 3, [0, 7, 0]), (.ifCond .lt 15, 3, [3, 0, 1, 2])], 0, 0),
  ([(.aload_n 1, 1, []), (.getfield 71, 3, [0, 7, 0]), (.iconst 4, 1, []), (.if_icmp .ge 7, 3, [3, 0, 2, 0])], 0, 0),
  ([(.iconst 1, 1, []), (.goto 4, 3, [4, 0])], 0, 0),
  ([(.iconst 0, 1, [])], 4, 0),
  ([(.ireturn, 1, [1])], 0, 0)]
def z_Hall_isRuled : xMeth := (n_Hall_isRuled, prog_4_method_10_code, 2, some FieldType.boolean, [0, 7, 15, 19, 20], B_Hall_isRuled, (0, 0))
def n_Hall_work : MethodName := ⟨"RingCouncil$Hall", "work", "(LRingCouncil$Text;ILRingCouncil$Elders;LRingCouncil$Moment;I)I"⟩
abbrev m_Hall_work : Nat := 22
def B_Hall_work : List xB := [
  ([(.aload_n 1, 1, []), (.getfield 121, 3, [8, 6, 3]), (.iload_n 2, 1, []), (.iaload, 1, []), (.istore 6, 2, []), (.aload_n 1, 1, []), (.getfield 124, 3, [8, 5, 3]), (.iload_n 2, 1, []), (.iaload, 1, []), (.istore 7, 2, [])], 1, 251),
  ([(.iload 7, 2, []), (.iload 6, 2, []), (.if_icmp .gt 435, 3, [25, 65, 2, 251])], 0, 0),
  ([(.aload_n 1, 1, []), (.getfield 127, 3, [8, 0, 3]), (.iload 7, 2, []), (.iaload, 1, []), (.istore 8, 2, []), (.aload_n 1, 1, []), (.getfield 130, 3, [8, 1, 3]), (.iload 7, 2, []), (.iaload, 1, []), (.istore 9, 2, []), (.aload_n 1, 1, []), (.getfield 133, 3, [8, 2, 3]), (.iload 7, 2, []), (.iaload, 1, []), (.istore 10, 2, []), (.iload 8, 2, []), (.lookupswitch 371 #[(300, 124), (409, 263), (410, 136), (411, 148), (412, 166), (413, 184), (414, 202), (415, 217), (416, 232), (417, 249), (600, 300), (601, 324), (602, 334), (603, 282)], 124, [23, 2043, 3, 763, 12, 763, 4, 251, 5, 251, 6, 251, 7, 251, 8, 251, 9, 251, 10, 251, 11, 251, 14, 1787, 18, 1275, 19, 1787, 13, 763])], 0, 0),
  ([(.aload_n 0, 1, []), (.getfield 9, 3, [2, 6, 3]), (.iload 7, 2, []), (.iload 9, 2, []), (.iastore, 1, []), (.goto 264, 3, [24, 251])], 0, 0),
  ([(.aload_n 0, 1, []), (.getfield 9, 3, [2, 6, 3]), (.iload 7, 2, []), (.iload 5, 2, []), (.iastore, 1, []), (.goto 252, 3, [24, 251])], 0, 0),
  ([(.aload_n 0, 1, []), (.getfield 9, 3, [2, 6, 3]), (.iload 7, 2, []), (.aload 4, 2, []), (.getfield 54, 3, [4, 0, 3]), (.iload 5, 2, []), (.iaload, 1, []), (.iastore, 1, []), (.goto 234, 3, [24, 251])], 0, 0),
  ([(.aload_n 0, 1, []), (.getfield 9, 3, [2, 6, 3]), (.iload 7, 2, []), (.aload 4, 2, []), (.getfield 92, 3, [4, 1, 3]), (.iload 5, 2, []), (.iaload, 1, []), (.iastore, 1, []), (.goto 216, 3, [24, 251])], 0, 0),
  ([(.aload_n 0, 1, []), (.getfield 9, 3, [2, 6, 3]), (.iload 7, 2, []), (.aload 4, 2, []), (.getfield 102, 3, [4, 2, 3]), (.iload 5, 2, []), (.iaload, 1, []), (.iastore, 1, []), (.goto 198, 3, [24, 251])], 0, 0),
  ([(.aload_n 0, 1, []), (.getfield 9, 3, [2, 6, 3]), (.iload 7, 2, []), (.aload 4, 2, []), (.getfield 111, 3, [4, 3, 0]), (.iastore, 1, []), (.goto 183, 3, [24, 251])], 0, 0),
  ([(.aload_n 0, 1, []), (.getfield 9, 3, [2, 6, 3]), (.iload 7, 2, []), (.aload 4, 2, []), (.getfield 40, 3, [4, 4, 0]), (.iastore, 1, []), (.goto 168, 3, [24, 251])], 0, 0),
  ([(.aload_n 0, 1, []), (.getfield 9, 3, [2, 6, 3]), (.iload 7, 2, []), (.aload_n 3, 1, []), (.getfield 136, 3, [0, 1, 3]), (.iload 5, 2, []), (.iaload, 1, []), (.iastore, 1, []), (.goto 151, 3, [24, 251])], 0, 0),
  ([(.aload_n 0, 1, []), (.getfield 9, 3, [2, 6, 3]), (.iload 7, 2, []), (.aload_n 0, 1, []), (.getfield 15, 3, [2, 0, 0]), (.iastore, 1, []), (.goto 137, 3, [24, 251])], 0, 0),
  ([(.aload_n 0, 1, []), (.getfield 9, 3, [2, 6, 3]), (.iload 7, 2, []), (.iconst 1, 1, []), (.aload_n 0, 1, []), (.getfield 9, 3, [2, 6, 3]), (.iload 9, 2, []), (.iaload, 1, []), (.isub, 1, []), (.iastore, 1, []), (.goto 118, 3, [24, 251])], 0, 0),
  ([(.aload_n 0, 1, []), (.getfield 9, 3, [2, 6, 3]), (.iload 7, 2, []), (.aload_n 0, 1, []), (.getfield 9, 3, [2, 6, 3]), (.iload 9, 2, []), (.iaload, 1, []), (.ineg, 1, []), (.iastore, 1, []), (.goto 100, 3, [24, 251])], 0, 0),
  ([(.iload 7, 2, []), (.aload_n 0, 1, []), (.getfield 9, 3, [2, 6, 3]), (.iload 9, 2, []), (.iaload, 1, []), (.ifCond .ne 8, 3, [16, 123, 15, 1147])], 0, 0),
  ([(.iload 10, 2, []), (.goto 4, 3, [17, 123])], 0, 0),
  ([(.iconst 0, 1, [])], 17, 123),
  ([(.iadd, 1, []), (.istore 7, 2, []), (.goto 76, 3, [24, 251])], 0, 0),
  ([(.iload 7, 2, []), (.iload 10, 2, []), (.iadd, 1, []), (.istore 7, 2, []), (.goto 66, 3, [24, 251])], 0, 0),
  ([(.aload_n 0, 1, []), (.getfield 9, 3, [2, 6, 3]), (.iload 7, 2, []), (.aload_n 0, 1, []), (.getfield 9, 3, [2, 6, 3]), (.aload_n 0, 1, []), (.getfield 9, 3, [2, 6, 3]), (.iload 9, 2, []), (.iaload, 1, []), (.ifCond .eq 8, 3, [21, 251, 20, 1275])], 0, 0),
  ([(.iload 10, 2, []), (.goto 10, 3, [22, 251])], 0, 0),
  ([(.aload_n 1, 1, []), (.getfield 137, 3, [8, 3, 3]), (.iload 7, 2, []), (.iaload, 1, [])], 22, 251),
  ([(.iaload, 1, []), (.iastore, 1, []), (.goto 29, 3, [24, 251])], 0, 0),
  ([(.aload_n 0, 1, []), (.getfield 9, 3, [2, 6, 3]), (.iload 7, 2, []), (.iload 8, 2, []), (.aload_n 0, 1, []), (.getfield 9, 3, [2, 6, 3]), (.iload 9, 2, []), (.iaload, 1, []), (.aload_n 0, 1, []), (.getfield 9, 3, [2, 6, 3]), (.iload 10, 2, []), (.iaload, 1, []), (.invokestatic 140, 3, [1, 23, 3, 0]), (.iastore, 1, [])], 24, 251),
  ([(.iinc 7 1, 3, []), (.goto (-436), 3, [1, 251])], 0, 0),
  ([(.aload_n 0, 1, []), (.getfield 9, 3, [2, 6, 3]), (.iload 6, 2, []), (.iaload, 1, []), (.ireturn, 1, [0])], 0, 0)]
def z_Hall_work : xMeth := (n_Hall_work, prog_4_method_11_code, 11, some FieldType.int, [0, 16, 23, 176, 188, 200, 218, 236, 254, 269, 284, 301, 315, 334, 352, 364, 369, 370, 376, 386, 406, 411, 418, 423, 449, 455], B_Hall_work, (0, 0))
def n_Hall_join : MethodName := ⟨"RingCouncil$Hall", "join", "(III)I"⟩
abbrev m_Hall_join : Nat := 23
def B_Hall_join : List xB := [
  ([(.lconst 0, 1, []), (.lstore_n 3, 1, []), (.iload_n 0, 1, []), (.lookupswitch 232 #[(35, 182), (42, 115), (43, 97), (45, 106), (47, 124), (60, 140), (61, 168), (62, 154), (301, 196), (302, 210), (407, 224)], 97, [33, 6, 20, 6, 3, 6, 1, 6, 2, 6, 4, 6, 8, 6, 16, 6, 12, 6, 24, 6, 28, 6, 32, 6])], 0, 0),
  ([(.iload_n 1, 1, []), (.i2l, 1, []), (.iload_n 2, 1, []), (.i2l, 1, []), (.ladd, 1, []), (.lstore_n 3, 1, []), (.goto 134, 3, [34, 8])], 0, 0),
  ([(.iload_n 1, 1, []), (.i2l, 1, []), (.iload_n 2, 1, []), (.i2l, 1, []), (.lsub, 1, []), (.lstore_n 3, 1, []), (.goto 125, 3, [34, 8])], 0, 0),
  ([(.iload_n 1, 1, []), (.i2l, 1, []), (.iload_n 2, 1, []), (.i2l, 1, []), (.lmul, 1, []), (.lstore_n 3, 1, []), (.goto 116, 3, [34, 8])], 0, 0),
  ([(.iload_n 2, 1, []), (.ifCond .ne 7, 3, [6, 6, 5, 0])], 0, 0),
  ([(.lconst 0, 1, []), (.goto 7, 3, [7, 0])], 0, 0),
  ([(.iload_n 1, 1, []), (.iload_n 2, 1, []), (.idiv, 1, []), (.i2l, 1, [])], 7, 0),
  ([(.lstore_n 3, 1, []), (.goto 100, 3, [34, 8])], 0, 0),
  ([(.iload_n 1, 1, []), (.iload_n 2, 1, []), (.if_icmp .ge 7, 3, [10, 0, 9, 0])], 0, 0),
  ([(.lconst 1, 1, []), (.goto 4, 3, [11, 0])], 0, 0),
  ([(.lconst 0, 1, [])], 11, 0),
  ([(.lstore_n 3, 1, []), (.goto 86, 3, [34, 8])], 0, 0),
  ([(.iload_n 1, 1, []), (.iload_n 2, 1, []), (.if_icmp .le 7, 3, [14, 0, 13, 0])], 0, 0),
  ([(.lconst 1, 1, []), (.goto 4, 3, [15, 0])], 0, 0),
  ([(.lconst 0, 1, [])], 15, 0),
  ([(.lstore_n 3, 1, []), (.goto 72, 3, [34, 8])], 0, 0),
  ([(.iload_n 1, 1, []), (.iload_n 2, 1, []), (.if_icmp .ne 7, 3, [18, 0, 17, 0])], 0, 0),
  ([(.lconst 1, 1, []), (.goto 4, 3, [19, 0])], 0, 0),
  ([(.lconst 0, 1, [])], 19, 0),
  ([(.lstore_n 3, 1, []), (.goto 58, 3, [34, 8])], 0, 0),
  ([(.iload_n 1, 1, []), (.iload_n 2, 1, []), (.if_icmp .eq 7, 3, [22, 0, 21, 0])], 0, 0),
  ([(.lconst 1, 1, []), (.goto 4, 3, [23, 0])], 0, 0),
  ([(.lconst 0, 1, [])], 23, 0),
  ([(.lstore_n 3, 1, []), (.goto 44, 3, [34, 8])], 0, 0),
  ([(.iload_n 1, 1, []), (.iload_n 2, 1, []), (.if_icmp .gt 7, 3, [26, 0, 25, 0])], 0, 0),
  ([(.lconst 1, 1, []), (.goto 4, 3, [27, 0])], 0, 0),
  ([(.lconst 0, 1, [])], 27, 0),
  ([(.lstore_n 3, 1, []), (.goto 30, 3, [34, 8])], 0, 0),
  ([(.iload_n 1, 1, []), (.iload_n 2, 1, []), (.if_icmp .lt 7, 3, [30, 0, 29, 0])], 0, 0),
  ([(.lconst 1, 1, []), (.goto 4, 3, [31, 0])], 0, 0),
  ([(.lconst 0, 1, [])], 31, 0),
  ([(.lstore_n 3, 1, []), (.goto 16, 3, [34, 8])], 0, 0),
  ([(.iload_n 1, 1, []), (.iload_n 2, 1, []), (.ior, 1, []), (.i2l, 1, []), (.lstore_n 3, 1, []), (.goto 8, 3, [34, 8])], 0, 0),
  ([(.iload_n 1, 1, []), (.iload_n 2, 1, []), (.iand, 1, []), (.i2l, 1, []), (.lstore_n 3, 1, [])], 34, 8),
  ([(.lload_n 3, 1, []), (.ldc2_w 143, 3, [1000000]), (.lcmp, 1, []), (.ifCond .le 6, 3, [36, 8, 35, 0])], 0, 0),
  ([(.ldc 145, 2, [1000000]), (.ireturn, 1, [0])], 0, 0),
  ([(.lload_n 3, 1, []), (.ldc2_w 146, 3, [18446744073708551616]), (.lcmp, 1, []), (.ifCond .ge 8, 3, [38, 8, 37, 0])], 0, 0),
  ([(.ldc 148, 2, [4293967296]), (.goto 5, 3, [39, 0])], 0, 0),
  ([(.lload_n 3, 1, []), (.l2i, 1, [])], 39, 0),
  ([(.ireturn, 1, [0])], 0, 0)]
def z_Hall_join : xMeth := (n_Hall_join, prog_4_method_12_code, 5, some FieldType.int, [0, 100, 109, 118, 127, 131, 135, 139, 143, 148, 152, 153, 157, 162, 166, 167, 171, 176, 180, 181, 185, 190, 194, 195, 199, 204, 208, 209, 213, 218, 222, 223, 227, 235, 240, 248, 251, 259, 264, 266], B_Hall_join, (0, 0))
def n_Heard_init : MethodName := ⟨"RingCouncil$Heard", "<init>", "()V"⟩
abbrev m_Heard_init : Nat := 24
def B_Heard_init : List xB := [
  ([(.aload_n 0, 1, []), (.invokespecial 3, 3, [0]), (.aload_n 0, 1, []), (.bipush 8, 2, []), (.newarray .int, 2, []), (.putfield 9, 3, [3, 0, 3]), (.aload_n 0, 1, []), (.bipush 8, 2, []), (.newarray .int, 2, []), (.putfield 15, 3, [3, 1, 3]), (.return_, 1, [])], 0, 0)]
def z_Heard_init : xMeth := (n_Heard_init, prog_5_method_1_code, 1, none, [0], B_Heard_init, (2, 16))
def n_Heard_add : MethodName := ⟨"RingCouncil$Heard", "add", "(III)Z"⟩
abbrev m_Heard_add : Nat := 25
def B_Heard_add : List xB := [
  ([(.iload_n 1, 1, []), (.aload_n 0, 1, []), (.getfield 18, 3, [3, 2, 0]), (.if_icmp .eq 8, 3, [2, 15, 1, 15])], 0, 0),
  ([(.aload_n 0, 1, []), (.iconst 0, 1, []), (.putfield 22, 3, [3, 3, 0])], 2, 15),
  ([(.aload_n 0, 1, []), (.getfield 22, 3, [3, 3, 0]), (.bipush 8, 2, []), (.if_icmp .lt 5, 3, [4, 15, 3, 0])], 0, 0),
  ([(.iconst 0, 1, []), (.ireturn, 1, [1])], 0, 0),
  ([(.aload_n 0, 1, []), (.iload_n 1, 1, []), (.putfield 18, 3, [3, 2, 0]), (.aload_n 0, 1, []), (.getfield 9, 3, [3, 0, 3]), (.aload_n 0, 1, []), (.getfield 22, 3, [3, 3, 0]), (.iload_n 2, 1, []), (.iastore, 1, []), (.aload_n 0, 1, []), (.getfield 15, 3, [3, 1, 3]), (.aload_n 0, 1, []), (.getfield 22, 3, [3, 3, 0]), (.iload_n 3, 1, []), (.iastore, 1, []), (.aload_n 0, 1, []), (.dup, 1, []), (.getfield 22, 3, [3, 3, 0]), (.iconst 1, 1, []), (.iadd, 1, []), (.putfield 22, 3, [3, 3, 0]), (.iconst 1, 1, []), (.ireturn, 1, [1])], 0, 0)]
def z_Heard_add : xMeth := (n_Heard_add, prog_5_method_2_code, 4, some FieldType.boolean, [0, 8, 13, 22, 24], B_Heard_add, (0, 0))
def n_Heard_isLike : MethodName := ⟨"RingCouncil$Heard", "isLike", "(LRingCouncil$Moment;)Z"⟩
abbrev m_Heard_isLike : Nat := 26
def B_Heard_isLike : List xB := [
  ([(.aload_n 1, 1, []), (.getfield 25, 3, [4, 4, 0]), (.iconst 1, 1, []), (.isub, 1, []), (.istore_n 2, 1, []), (.iload_n 2, 1, []), (.ifCond .lt 11, 3, [2, 0, 1, 7])], 0, 0),
  ([(.iload_n 2, 1, []), (.aload_n 0, 1, []), (.getfield 22, 3, [3, 3, 0]), (.if_icmp .lt 5, 3, [3, 7, 2, 0])], 0, 0),
  ([(.iconst 1, 1, []), (.ireturn, 1, [1])], 0, 0),
  ([(.aload_n 1, 1, []), (.getfield 30, 3, [4, 1, 3]), (.aload_n 0, 1, []), (.getfield 18, 3, [3, 2, 0]), (.iaload, 1, []), (.aload_n 0, 1, []), (.getfield 9, 3, [3, 0, 3]), (.iload_n 2, 1, []), (.iaload, 1, []), (.if_icmp .ne 25, 3, [6, 0, 4, 7])], 0, 0),
  ([(.aload_n 1, 1, []), (.getfield 33, 3, [4, 2, 3]), (.aload_n 0, 1, []), (.getfield 18, 3, [3, 2, 0]), (.iaload, 1, []), (.aload_n 0, 1, []), (.getfield 15, 3, [3, 1, 3]), (.iload_n 2, 1, []), (.iaload, 1, []), (.if_icmp .ne 7, 3, [6, 0, 5, 0])], 0, 0),
  ([(.iconst 1, 1, []), (.goto 4, 3, [7, 0])], 0, 0),
  ([(.iconst 0, 1, [])], 7, 0),
  ([(.ireturn, 1, [1])], 0, 0)]
def z_Heard_isLike : xMeth := (n_Heard_isLike, prog_5_method_3_code, 3, some FieldType.boolean, [0, 11, 19, 21, 39, 57, 61, 62], B_Heard_isLike, (0, 0))
def n_Heard_copyFrom : MethodName := ⟨"RingCouncil$Heard", "copyFrom", "(LRingCouncil$Heard;)V"⟩
abbrev m_Heard_copyFrom : Nat := 27
def B_Heard_copyFrom : List xB := [
  ([(.aload_n 1, 1, []), (.getfield 9, 3, [3, 0, 3]), (.iconst 0, 1, []), (.aload_n 0, 1, []), (.getfield 9, 3, [3, 0, 3]), (.iconst 0, 1, []), (.bipush 8, 2, []), (.invokestatic 36, 3, [0]), (.aload_n 1, 1, []), (.getfield 15, 3, [3, 1, 3]), (.iconst 0, 1, []), (.aload_n 0, 1, []), (.getfield 15, 3, [3, 1, 3]), (.iconst 0, 1, []), (.bipush 8, 2, []), (.invokestatic 36, 3, [0]), (.aload_n 0, 1, []), (.aload_n 1, 1, []), (.getfield 18, 3, [3, 2, 0]), (.putfield 18, 3, [3, 2, 0]), (.aload_n 0, 1, []), (.aload_n 1, 1, []), (.getfield 22, 3, [3, 3, 0]), (.putfield 22, 3, [3, 3, 0]), (.return_, 1, [])], 0, 0)]
def z_Heard_copyFrom : xMeth := (n_Heard_copyFrom, prog_5_method_4_code, 2, none, [0], B_Heard_copyFrom, (0, 0))
def n_Moment_init : MethodName := ⟨"RingCouncil$Moment", "<init>", "(I)V"⟩
abbrev m_Moment_init : Nat := 28
def B_Moment_init : List xB := [
  ([(.aload_n 0, 1, []), (.invokespecial 3, 3, [0]), (.aload_n 0, 1, []), (.iload_n 1, 1, []), (.newarray .int, 2, []), (.putfield 9, 3, [4, 0, 3]), (.aload_n 0, 1, []), (.iload_n 1, 1, []), (.newarray .int, 2, []), (.putfield 15, 3, [4, 1, 3]), (.aload_n 0, 1, []), (.iload_n 1, 1, []), (.newarray .int, 2, []), (.putfield 18, 3, [4, 2, 3]), (.iconst 0, 1, []), (.istore_n 2, 1, [])], 1, 7),
  ([(.iload_n 2, 1, []), (.iload_n 1, 1, []), (.if_icmp .ge 23, 3, [3, 0, 2, 7])], 0, 0),
  ([(.aload_n 0, 1, []), (.getfield 15, 3, [4, 1, 3]), (.iload_n 2, 1, []), (.iconst (-1), 1, []), (.iastore, 1, []), (.aload_n 0, 1, []), (.getfield 18, 3, [4, 2, 3]), (.iload_n 2, 1, []), (.iconst (-1), 1, []), (.iastore, 1, []), (.iinc 2 1, 3, []), (.goto (-22), 3, [1, 7])], 0, 0),
  ([(.return_, 1, [])], 0, 0)]
def z_Moment_init : xMeth := (n_Moment_init, prog_6_method_1_code, 3, none, [0, 27, 32, 52], B_Moment_init, (3, 27))
def n_Moment_begin : MethodName := ⟨"RingCouncil$Moment", "begin", "(LRingCouncil$Elders;)V"⟩
abbrev m_Moment_begin : Nat := 29
def B_Moment_begin : List xB := [
  ([(.iconst 0, 1, []), (.istore_n 2, 1, [])], 1, 7),
  ([(.iload_n 2, 1, []), (.aload_n 0, 1, []), (.getfield 9, 3, [4, 0, 3]), (.arraylength, 1, []), (.if_icmp .ge 35, 3, [3, 1, 2, 7])], 0, 0),
  ([(.aload_n 0, 1, []), (.getfield 9, 3, [4, 0, 3]), (.iload_n 2, 1, []), (.aload_n 1, 1, []), (.getfield 21, 3, [0, 1, 3]), (.iload_n 2, 1, []), (.iaload, 1, []), (.iastore, 1, []), (.aload_n 0, 1, []), (.getfield 15, 3, [4, 1, 3]), (.iload_n 2, 1, []), (.iconst (-1), 1, []), (.iastore, 1, []), (.aload_n 0, 1, []), (.getfield 18, 3, [4, 2, 3]), (.iload_n 2, 1, []), (.iconst (-1), 1, []), (.iastore, 1, []), (.iinc 2 1, 3, []), (.goto (-38), 3, [1, 7])], 0, 0),
  ([(.aload_n 0, 1, []), (.iconst 0, 1, []), (.putfield 26, 3, [4, 3, 0]), (.aload_n 0, 1, []), (.iconst 0, 1, []), (.putfield 30, 3, [4, 4, 0]), (.return_, 1, [])], 0, 0)]
def z_Moment_begin : xMeth := (n_Moment_begin, prog_6_method_2_code, 3, none, [0, 2, 11, 43], B_Moment_begin, (0, 0))
def n_Moment_copyFrom : MethodName := ⟨"RingCouncil$Moment", "copyFrom", "(LRingCouncil$Moment;)V"⟩
abbrev m_Moment_copyFrom : Nat := 30
def B_Moment_copyFrom : List xB := [
  ([(.aload_n 1, 1, []), (.getfield 9, 3, [4, 0, 3]), (.iconst 0, 1, []), (.aload_n 0, 1, []), (.getfield 9, 3, [4, 0, 3]), (.iconst 0, 1, []), (.aload_n 0, 1, []), (.getfield 9, 3, [4, 0, 3]), (.arraylength, 1, []), (.invokestatic 33, 3, [0]), (.aload_n 1, 1, []), (.getfield 15, 3, [4, 1, 3]), (.iconst 0, 1, []), (.aload_n 0, 1, []), (.getfield 15, 3, [4, 1, 3]), (.iconst 0, 1, []), (.aload_n 0, 1, []), (.getfield 15, 3, [4, 1, 3]), (.arraylength, 1, []), (.invokestatic 33, 3, [0]), (.aload_n 1, 1, []), (.getfield 18, 3, [4, 2, 3]), (.iconst 0, 1, []), (.aload_n 0, 1, []), (.getfield 18, 3, [4, 2, 3]), (.iconst 0, 1, []), (.aload_n 0, 1, []), (.getfield 18, 3, [4, 2, 3]), (.arraylength, 1, []), (.invokestatic 33, 3, [0]), (.aload_n 0, 1, []), (.aload_n 1, 1, []), (.getfield 26, 3, [4, 3, 0]), (.putfield 26, 3, [4, 3, 0]), (.aload_n 0, 1, []), (.aload_n 1, 1, []), (.getfield 30, 3, [4, 4, 0]), (.putfield 30, 3, [4, 4, 0]), (.return_, 1, [])], 0, 0)]
def z_Moment_copyFrom : xMeth := (n_Moment_copyFrom, prog_6_method_3_code, 2, none, [0], B_Moment_copyFrom, (0, 0))
def n_Moment_countNotes : MethodName := ⟨"RingCouncil$Moment", "countNotes", "()I"⟩
abbrev m_Moment_countNotes : Nat := 31
def B_Moment_countNotes : List xB := [
  ([(.iconst 0, 1, []), (.istore_n 1, 1, []), (.iconst 0, 1, []), (.istore_n 2, 1, [])], 1, 7),
  ([(.iload_n 2, 1, []), (.aload_n 0, 1, []), (.getfield 9, 3, [4, 0, 3]), (.arraylength, 1, []), (.if_icmp .ge 45, 3, [9, 2, 2, 7])], 0, 0),
  ([(.iload_n 1, 1, []), (.aload_n 0, 1, []), (.getfield 15, 3, [4, 1, 3]), (.iload_n 2, 1, []), (.iaload, 1, []), (.iconst (-1), 1, []), (.if_icmp .ne 7, 3, [4, 5, 3, 5])], 0, 0),
  ([(.iconst 0, 1, []), (.goto 4, 3, [5, 5])], 0, 0),
  ([(.iconst 1, 1, [])], 5, 5),
  ([(.iadd, 1, []), (.istore_n 1, 1, []), (.iload_n 1, 1, []), (.aload_n 0, 1, []), (.getfield 18, 3, [4, 2, 3]), (.iload_n 2, 1, []), (.iaload, 1, []), (.iconst (-1), 1, []), (.if_icmp .ne 7, 3, [7, 5, 6, 5])], 0, 0),
  ([(.iconst 0, 1, []), (.goto 4, 3, [8, 5])], 0, 0),
  ([(.iconst 1, 1, [])], 8, 5),
  ([(.iadd, 1, []), (.istore_n 1, 1, []), (.iinc 2 1, 3, []), (.goto (-48), 3, [1, 7])], 0, 0),
  ([(.iload_n 1, 1, []), (.ireturn, 1, [0])], 0, 0)]
def z_Moment_countNotes : xMeth := (n_Moment_countNotes, prog_6_method_4_code, 3, some FieldType.int, [0, 4, 13, 24, 28, 29, 42, 46, 47, 55], B_Moment_countNotes, (0, 0))
def n_Past_init : MethodName := ⟨"RingCouncil$Past", "<init>", "(I)V"⟩
abbrev m_Past_init : Nat := 32
def B_Past_init : List xB := [
  ([(.aload_n 0, 1, []), (.invokespecial 3, 3, [0]), (.aload_n 0, 1, []), (.bipush 40, 2, []), (.anewarray 9, 3, [5]), (.putfield 11, 3, [5, 0, 3]), (.iconst 0, 1, []), (.istore_n 2, 1, [])], 1, 7),
  ([(.iload_n 2, 1, []), (.bipush 40, 2, []), (.if_icmp .ge 23, 3, [3, 0, 2, 7])], 0, 0),
  ([(.aload_n 0, 1, []), (.getfield 11, 3, [5, 0, 3]), (.iload_n 2, 1, []), (.new 9, 3, [4, 3, 3, 3, 0, 0]), (.dup, 1, []), (.iload_n 1, 1, []), (.invokespecial 17, 3, [1, 28, 1, 3, 27]), (.aastore, 1, []), (.iinc 2 1, 3, []), (.goto (-23), 3, [1, 7])], 0, 0),
  ([(.return_, 1, [])], 0, 0)]
def z_Past_init : xMeth := (n_Past_init, prog_7_method_1_code, 3, none, [0, 15, 21, 41], B_Past_init, (161, 1320))
def n_Past_push : MethodName := ⟨"RingCouncil$Past", "push", "(LRingCouncil$Moment;)V"⟩
abbrev m_Past_push : Nat := 33
def B_Past_push : List xB := [
  ([(.aload_n 0, 1, []), (.getfield 11, 3, [5, 0, 3]), (.aload_n 0, 1, []), (.getfield 20, 3, [5, 1, 0]), (.aaload, 1, []), (.aload_n 1, 1, []), (.invokevirtual 24, 3, [1, 30, 1, 4, 1]), (.aload_n 0, 1, []), (.aload_n 0, 1, []), (.getfield 20, 3, [5, 1, 0]), (.iconst 1, 1, []), (.iadd, 1, []), (.bipush 40, 2, []), (.if_icmp .ge 12, 3, [2, 1, 1, 1])], 0, 0),
  ([(.aload_n 0, 1, []), (.getfield 20, 3, [5, 1, 0]), (.iconst 1, 1, []), (.iadd, 1, []), (.goto 4, 3, [3, 1])], 0, 0),
  ([(.iconst 0, 1, [])], 3, 1),
  ([(.putfield 20, 3, [5, 1, 0]), (.aload_n 0, 1, []), (.aload_n 0, 1, []), (.getfield 28, 3, [5, 2, 0]), (.bipush 40, 2, []), (.if_icmp .ge 12, 3, [5, 0, 4, 1])], 0, 0),
  ([(.aload_n 0, 1, []), (.getfield 28, 3, [5, 2, 0]), (.iconst 1, 1, []), (.iadd, 1, []), (.goto 5, 3, [6, 0])], 0, 0),
  ([(.bipush 40, 2, [])], 6, 0),
  ([(.putfield 28, 3, [5, 2, 0]), (.return_, 1, [])], 0, 0)]
def z_Past_push : xMeth := (n_Past_push, prog_7_method_2_code, 2, none, [0, 25, 34, 35, 48, 57, 59], B_Past_push, (0, 0))
def n_Past_pop : MethodName := ⟨"RingCouncil$Past", "pop", "(LRingCouncil$Moment;)Z"⟩
abbrev m_Past_pop : Nat := 34
def B_Past_pop : List xB := [
  ([(.aload_n 0, 1, []), (.getfield 28, 3, [5, 2, 0]), (.ifCond .ne 5, 3, [2, 3, 1, 0])], 0, 0),
  ([(.iconst 0, 1, []), (.ireturn, 1, [1])], 0, 0),
  ([(.aload_n 0, 1, []), (.aload_n 0, 1, []), (.getfield 20, 3, [5, 1, 0]), (.ifCond .le 12, 3, [4, 3, 3, 3])], 0, 0),
  ([(.aload_n 0, 1, []), (.getfield 20, 3, [5, 1, 0]), (.iconst 1, 1, []), (.isub, 1, []), (.goto 5, 3, [5, 3])], 0, 0),
  ([(.bipush 39, 2, [])], 5, 3),
  ([(.putfield 20, 3, [5, 1, 0]), (.aload_n 0, 1, []), (.dup, 1, []), (.getfield 28, 3, [5, 2, 0]), (.iconst 1, 1, []), (.isub, 1, []), (.putfield 28, 3, [5, 2, 0]), (.aload_n 1, 1, []), (.aload_n 0, 1, []), (.getfield 11, 3, [5, 0, 3]), (.aload_n 0, 1, []), (.getfield 20, 3, [5, 1, 0]), (.aaload, 1, []), (.invokevirtual 24, 3, [1, 30, 1, 4, 1]), (.iconst 1, 1, []), (.ireturn, 1, [1])], 0, 0)]
def z_Past_pop : xMeth := (n_Past_pop, prog_7_method_3_code, 2, some FieldType.boolean, [0, 7, 9, 17, 26, 28], B_Past_pop, (0, 0))
def n_Past_copyFrom : MethodName := ⟨"RingCouncil$Past", "copyFrom", "(LRingCouncil$Past;)V"⟩
abbrev m_Past_copyFrom : Nat := 35
def B_Past_copyFrom : List xB := [
  ([(.iconst 0, 1, []), (.istore_n 2, 1, [])], 1, 7),
  ([(.iload_n 2, 1, []), (.bipush 40, 2, []), (.if_icmp .ge 24, 3, [3, 3, 2, 7])], 0, 0),
  ([(.aload_n 0, 1, []), (.getfield 11, 3, [5, 0, 3]), (.iload_n 2, 1, []), (.aaload, 1, []), (.aload_n 1, 1, []), (.getfield 11, 3, [5, 0, 3]), (.iload_n 2, 1, []), (.aaload, 1, []), (.invokevirtual 24, 3, [1, 30, 1, 4, 1]), (.iinc 2 1, 3, []), (.goto (-24), 3, [1, 7])], 0, 0),
  ([(.aload_n 0, 1, []), (.aload_n 1, 1, []), (.getfield 20, 3, [5, 1, 0]), (.putfield 20, 3, [5, 1, 0]), (.aload_n 0, 1, []), (.aload_n 1, 1, []), (.getfield 28, 3, [5, 2, 0]), (.putfield 28, 3, [5, 2, 0]), (.return_, 1, [])], 0, 0)]
def z_Past_copyFrom : xMeth := (n_Past_copyFrom, prog_7_method_4_code, 3, none, [0, 2, 8, 29], B_Past_copyFrom, (0, 0))
def n_Runs_init : MethodName := ⟨"RingCouncil$Runs", "<init>", "(ILRingCouncil$Hall;)V"⟩
abbrev m_Runs_init : Nat := 36
def B_Runs_init : List xB := [
  ([(.aload_n 0, 1, []), (.invokespecial 3, 3, [0]), (.aload_n 0, 1, []), (.bipush 9, 2, []), (.sipush 2000, 3, []), (.multianewarray 9 2, 4, []), (.putfield 11, 3, [6, 3, 3]), (.aload_n 0, 1, []), (.bipush 9, 2, []), (.sipush 2000, 3, []), (.multianewarray 9 2, 4, []), (.putfield 16, 3, [6, 4, 3]), (.aload_n 0, 1, []), (.iconst 2, 1, []), (.newarray .int, 2, []), (.putfield 19, 3, [6, 8, 3]), (.aload_n 0, 1, []), (.sipush 1024, 3, []), (.newarray .int, 2, []), (.putfield 23, 3, [6, 9, 3]), (.aload_n 0, 1, []), (.aload_n 2, 1, []), (.putfield 26, 3, [6, 5, 3]), (.aload_n 0, 1, []), (.new 30, 3, [1, 0, 3, 3, 3, 3, 0]), (.dup, 1, []), (.iload_n 1, 1, []), (.invokespecial 32, 3, [1, 6, 1, 4, 26106]), (.putfield 35, 3, [6, 0, 3]), (.aload_n 0, 1, []), (.new 30, 3, [1, 0, 3, 3, 3, 3, 0]), (.dup, 1, []), (.iload_n 1, 1, []), (.invokespecial 32, 3, [1, 6, 1, 4, 26106]), (.putfield 39, 3, [6, 1, 3]), (.aload_n 0, 1, []), (.new 30, 3, [1, 0, 3, 3, 3, 3, 0]), (.dup, 1, []), (.iload_n 1, 1, []), (.invokespecial 32, 3, [1, 6, 1, 4, 26106]), (.putfield 42, 3, [6, 2, 3]), (.aload_n 0, 1, []), (.new 45, 3, [4, 3, 3, 3, 0, 0]), (.dup, 1, []), (.iload_n 1, 1, []), (.invokespecial 47, 3, [1, 28, 1, 3, 27]), (.putfield 48, 3, [6, 6, 3]), (.aload_n 0, 1, []), (.new 45, 3, [4, 3, 3, 3, 0, 0]), (.dup, 1, []), (.iload_n 1, 1, []), (.invokespecial 47, 3, [1, 28, 1, 3, 27]), (.putfield 52, 3, [6, 7, 3]), (.aload_n 0, 1, []), (.iconst 2, 1, []), (.putfield 55, 3, [6, 11, 0]), (.return_, 1, [])], 0, 0)]
def z_Runs_init : xMeth := (n_Runs_init, prog_8_method_1_code, 3, none, [0], B_Runs_init, (45, 115444))
def n_Runs_goThrough : MethodName := ⟨"RingCouncil$Runs", "goThrough", "(LRingCouncil$Elders;IILRingCouncil$Heard;)Z"⟩
abbrev m_Runs_goThrough : Nat := 37
def B_Runs_goThrough : List xB := [
  ([(.aload_n 0, 1, []), (.aload_n 1, 1, []), (.iload_n 3, 1, []), (.invokevirtual 59, 3, [1, 38, 2, 6, 1]), (.aload_n 0, 1, []), (.getfield 48, 3, [6, 6, 3]), (.aload_n 1, 1, []), (.invokevirtual 63, 3, [1, 29, 1, 4, 1]), (.aload_n 0, 1, []), (.getfield 35, 3, [6, 0, 3]), (.invokevirtual 67, 3, [1, 7, 0, 1, 1]), (.aload_n 0, 1, []), (.getfield 35, 3, [6, 0, 3]), (.aload_n 0, 1, []), (.getfield 48, 3, [6, 6, 3]), (.invokevirtual 70, 3, [1, 8, 1, 1, 0]), (.pop, 1, []), (.iconst 1, 1, []), (.istore 5, 2, []), (.iconst 1, 1, []), (.istore 6, 2, [])], 1, 119),
  ([(.iload 6, 2, []), (.iload_n 2, 1, []), (.if_icmp .gt 52, 3, [5, 32, 2, 119])], 0, 0),
  ([(.iload 6, 2, []), (.bipush 8, 2, []), (.if_icmp .gt 45, 3, [5, 32, 3, 119])], 0, 0),
  ([(.iload 5, 2, []), (.ifCond .eq 40, 3, [5, 32, 4, 87])], 0, 0),
  ([(.aload_n 0, 1, []), (.getfield 39, 3, [6, 1, 3]), (.astore 7, 2, []), (.aload_n 0, 1, []), (.aload_n 0, 1, []), (.getfield 35, 3, [6, 0, 3]), (.putfield 39, 3, [6, 1, 3]), (.aload_n 0, 1, []), (.aload 7, 2, []), (.putfield 35, 3, [6, 0, 3]), (.aload_n 0, 1, []), (.aload_n 1, 1, []), (.iload 6, 2, []), (.aload 4, 2, []), (.invokevirtual 74, 3, [1, 40, 3, 6, 0]), (.istore 5, 2, []), (.iinc 6 1, 3, []), (.goto (-52), 3, [1, 119])], 0, 0),
  ([(.iload 5, 2, []), (.ireturn, 1, [1])], 0, 0)]
def z_Runs_goThrough : xMeth := (n_Runs_goThrough, prog_8_method_2_code, 8, some FieldType.boolean, [0, 39, 45, 52, 57, 94], B_Runs_goThrough, (0, 0))
def n_Runs_seatLiars : MethodName := ⟨"RingCouncil$Runs", "seatLiars", "(LRingCouncil$Elders;I)V"⟩
abbrev m_Runs_seatLiars : Nat := 38
def B_Runs_seatLiars : List xB := [
  ([(.aload_n 0, 1, []), (.iconst 0, 1, []), (.putfield 78, 3, [6, 10, 0]), (.aload_n 0, 1, []), (.iload_n 2, 1, []), (.iconst 2, 1, []), (.iadd, 1, []), (.putfield 55, 3, [6, 11, 0]), (.iconst 1, 1, []), (.istore_n 3, 1, []), (.iconst 0, 1, []), (.istore 4, 2, [])], 1, 27),
  ([(.iload 4, 2, []), (.aload_n 0, 1, []), (.getfield 26, 3, [6, 5, 3]), (.getfield 81, 3, [2, 0, 0]), (.if_icmp .ge 63, 3, [6, 11, 2, 27])], 0, 0),
  ([(.aload_n 0, 1, []), (.getfield 78, 3, [6, 10, 0]), (.iconst 2, 1, []), (.if_icmp .ge 55, 3, [6, 11, 3, 27])], 0, 0),
  ([(.aload_n 1, 1, []), (.getfield 86, 3, [0, 0, 3]), (.iload 4, 2, []), (.iaload, 1, []), (.iconst 1, 1, []), (.if_icmp .ne 38, 3, [5, 27, 4, 27])], 0, 0),
  ([(.aload_n 0, 1, []), (.getfield 19, 3, [6, 8, 3]), (.aload_n 0, 1, []), (.getfield 78, 3, [6, 10, 0]), (.iload 4, 2, []), (.iastore, 1, []), (.aload_n 0, 1, []), (.dup, 1, []), (.getfield 78, 3, [6, 10, 0]), (.iconst 1, 1, []), (.iadd, 1, []), (.putfield 78, 3, [6, 10, 0]), (.iload_n 3, 1, []), (.aload_n 0, 1, []), (.getfield 55, 3, [6, 11, 0]), (.aload_n 0, 1, []), (.getfield 55, 3, [6, 11, 0]), (.imul, 1, []), (.iconst 2, 1, []), (.imul, 1, []), (.imul, 1, []), (.istore_n 3, 1, [])], 5, 27),
  ([(.iinc 4 1, 3, []), (.goto (-69), 3, [1, 27])], 0, 0),
  ([(.aload_n 0, 1, []), (.iconst 0, 1, []), (.putfield 91, 3, [6, 12, 0]), (.iconst 0, 1, []), (.istore 4, 2, [])], 7, 27),
  ([(.iload 4, 2, []), (.iload_n 3, 1, []), (.if_icmp .ge 50, 3, [12, 0, 8, 27])], 0, 0),
  ([(.aload_n 0, 1, []), (.getfield 91, 3, [6, 12, 0]), (.sipush 1024, 3, []), (.if_icmp .ge 40, 3, [12, 0, 9, 27])], 0, 0),
  ([(.aload_n 0, 1, []), (.aload_n 1, 1, []), (.iload 4, 2, []), (.invokevirtual 94, 3, [1, 39, 2, 6, 0]), (.ifCond .ne 24, 3, [11, 27, 10, 27])], 0, 0),
  ([(.aload_n 0, 1, []), (.getfield 23, 3, [6, 9, 3]), (.aload_n 0, 1, []), (.getfield 91, 3, [6, 12, 0]), (.iload 4, 2, []), (.iastore, 1, []), (.aload_n 0, 1, []), (.dup, 1, []), (.getfield 91, 3, [6, 12, 0]), (.iconst 1, 1, []), (.iadd, 1, []), (.putfield 91, 3, [6, 12, 0])], 11, 27),
  ([(.iinc 4 1, 3, []), (.goto (-50), 3, [7, 27])], 0, 0),
  ([(.return_, 1, [])], 0, 0)]
def z_Runs_seatLiars : xMeth := (n_Runs_seatLiars, prog_8_method_3_code, 5, none, [0, 17, 29, 37, 48, 83, 89, 97, 103, 113, 123, 144, 150], B_Runs_seatLiars, (0, 0))
def n_Runs_isIdle : MethodName := ⟨"RingCouncil$Runs", "isIdle", "(LRingCouncil$Elders;I)Z"⟩
abbrev m_Runs_isIdle : Nat := 39
def B_Runs_isIdle : List xB := [
  ([(.iconst 0, 1, []), (.istore_n 3, 1, [])], 1, 15),
  ([(.iload_n 3, 1, []), (.aload_n 0, 1, []), (.getfield 78, 3, [6, 10, 0]), (.if_icmp .ge 90, 3, [12, 0, 2, 15])], 0, 0),
  ([(.aload_n 0, 1, []), (.iload_n 2, 1, []), (.iload_n 3, 1, []), (.iconst 0, 1, []), (.invokevirtual 98, 3, [1, 42, 3, 6, 0]), (.istore 4, 2, []), (.aload_n 0, 1, []), (.iload_n 2, 1, []), (.iload_n 3, 1, []), (.iconst 1, 1, []), (.invokevirtual 98, 3, [1, 42, 3, 6, 0]), (.istore 5, 2, []), (.aload_n 0, 1, []), (.iload_n 2, 1, []), (.iload_n 3, 1, []), (.iconst 2, 1, []), (.invokevirtual 98, 3, [1, 42, 3, 6, 0]), (.iconst 1, 1, []), (.if_icmp .ne 7, 3, [4, 63, 3, 63])], 0, 0),
  ([(.iconst 1, 1, []), (.goto 4, 3, [5, 63])], 0, 0),
  ([(.iconst 0, 1, [])], 5, 63),
  ([(.istore 6, 2, []), (.aload_n 1, 1, []), (.iload 4, 2, []), (.invokevirtual 102, 3, [1, 5, 1, 0, 0]), (.iload 4, 2, []), (.if_icmp .ne 14, 3, [7, 0, 6, 111])], 0, 0),
  ([(.aload_n 1, 1, []), (.iload 5, 2, []), (.invokevirtual 102, 3, [1, 5, 1, 0, 0]), (.iload 5, 2, []), (.if_icmp .eq 5, 3, [8, 79, 7, 0])], 0, 0),
  ([(.iconst 1, 1, []), (.ireturn, 1, [1])], 0, 0),
  ([(.iload 6, 2, []), (.ifCond .eq 19, 3, [11, 15, 9, 15])], 0, 0),
  ([(.aload_n 1, 1, []), (.getfield 106, 3, [0, 5, 3]), (.aload_n 0, 1, []), (.getfield 19, 3, [6, 8, 3]), (.iload_n 3, 1, []), (.iaload, 1, []), (.baload, 1, []), (.ifCond .eq 5, 3, [11, 15, 10, 0])], 0, 0),
  ([(.iconst 1, 1, []), (.ireturn, 1, [1])], 0, 0),
  ([(.iinc 3 1, 3, []), (.goto (-92), 3, [1, 15])], 0, 0),
  ([(.iconst 0, 1, []), (.ireturn, 1, [1])], 0, 0)]
def z_Runs_isIdle : xMeth := (n_Runs_isIdle, prog_8_method_4_code, 7, some FieldType.boolean, [0, 2, 10, 39, 43, 44, 57, 68, 70, 75, 89, 91, 97], B_Runs_isIdle, (0, 0))
def n_Runs_goOneHour : MethodName := ⟨"RingCouncil$Runs", "goOneHour", "(LRingCouncil$Elders;ILRingCouncil$Heard;)Z"⟩
abbrev m_Runs_goOneHour : Nat := 40
def B_Runs_goOneHour : List xB := [
  ([(.aload_n 0, 1, []), (.getfield 35, 3, [6, 0, 3]), (.invokevirtual 67, 3, [1, 7, 0, 1, 1]), (.aload_n 0, 1, []), (.getfield 42, 3, [6, 2, 3]), (.invokevirtual 67, 3, [1, 7, 0, 1, 1]), (.iconst 0, 1, []), (.istore 4, 2, [])], 1, 31),
  ([(.iload 4, 2, []), (.aload_n 0, 1, []), (.getfield 39, 3, [6, 1, 3]), (.getfield 110, 3, [1, 5, 0]), (.if_icmp .ge 205, 3, [15, 0, 2, 31])], 0, 0),
  ([(.aload_n 0, 1, []), (.getfield 39, 3, [6, 1, 3]), (.iload 4, 2, []), (.aload_n 0, 1, []), (.getfield 48, 3, [6, 6, 3]), (.invokevirtual 113, 3, [1, 9, 2, 1, 1]), (.aload_n 0, 1, []), (.getfield 48, 3, [6, 6, 3]), (.iload_n 2, 1, []), (.iconst 1, 1, []), (.isub, 1, []), (.putfield 117, 3, [4, 4, 0]), (.aload_n 0, 1, []), (.getfield 26, 3, [6, 5, 3]), (.aload_n 1, 1, []), (.aload_n 0, 1, []), (.getfield 48, 3, [6, 6, 3]), (.invokevirtual 120, 3, [1, 16, 2, 2, 1]), (.aload_n 0, 1, []), (.iconst 0, 1, []), (.invokevirtual 124, 3, [1, 41, 1, 6, 1]), (.aload_n 0, 1, []), (.getfield 26, 3, [6, 5, 3]), (.aload_n 1, 1, []), (.aload_n 0, 1, []), (.getfield 52, 3, [6, 7, 3]), (.iload_n 2, 1, []), (.invokevirtual 127, 3, [1, 18, 3, 2, 1]), (.aload_n 0, 1, []), (.getfield 42, 3, [6, 2, 3]), (.aload_n 0, 1, []), (.getfield 52, 3, [6, 7, 3]), (.invokevirtual 70, 3, [1, 8, 1, 1, 0]), (.iconst 1, 1, []), (.if_icmp .eq 6, 3, [4, 31, 3, 31])], 0, 0),
  ([(.goto 128, 3, [14, 31])], 0, 0),
  ([(.iconst 0, 1, []), (.istore 5, 2, [])], 5, 63),
  ([(.iload 5, 2, []), (.aload_n 0, 1, []), (.getfield 91, 3, [6, 12, 0]), (.if_icmp .ge 116, 3, [14, 31, 6, 63])], 0, 0),
  ([(.aload_n 0, 1, []), (.aload_n 0, 1, []), (.getfield 23, 3, [6, 9, 3]), (.iload 5, 2, []), (.iaload, 1, []), (.invokevirtual 124, 3, [1, 41, 1, 6, 1]), (.aload_n 0, 1, []), (.getfield 26, 3, [6, 5, 3]), (.aload_n 1, 1, []), (.aload_n 0, 1, []), (.getfield 52, 3, [6, 7, 3]), (.iload_n 2, 1, []), (.invokevirtual 127, 3, [1, 18, 3, 2, 1]), (.aload_n 3, 1, []), (.aload_n 0, 1, []), (.getfield 52, 3, [6, 7, 3]), (.invokevirtual 131, 3, [1, 26, 1, 3, 0]), (.ifCond .eq 17, 3, [8, 63, 7, 63])], 0, 0),
  ([(.aload_n 0, 1, []), (.getfield 35, 3, [6, 0, 3]), (.aload_n 0, 1, []), (.getfield 52, 3, [6, 7, 3]), (.invokevirtual 70, 3, [1, 8, 1, 1, 0]), (.goto 4, 3, [9, 63])], 0, 0),
  ([(.iconst 0, 1, [])], 9, 63),
  ([(.istore 6, 2, []), (.iload 6, 2, []), (.iconst 2, 1, []), (.if_icmp .ne 5, 3, [11, 127, 10, 0])], 0, 0),
  ([(.iconst 0, 1, []), (.ireturn, 1, [1])], 0, 0),
  ([(.iload 6, 2, []), (.iconst 1, 1, []), (.if_icmp .ne 44, 3, [13, 63, 12, 63])], 0, 0),
  ([(.aload_n 0, 1, []), (.getfield 11, 3, [6, 3, 3]), (.iload_n 2, 1, []), (.aaload, 1, []), (.aload_n 0, 1, []), (.getfield 35, 3, [6, 0, 3]), (.getfield 110, 3, [1, 5, 0]), (.iconst 1, 1, []), (.isub, 1, []), (.iload 4, 2, []), (.iastore, 1, []), (.aload_n 0, 1, []), (.getfield 16, 3, [6, 4, 3]), (.iload_n 2, 1, []), (.aaload, 1, []), (.aload_n 0, 1, []), (.getfield 35, 3, [6, 0, 3]), (.getfield 110, 3, [1, 5, 0]), (.iconst 1, 1, []), (.isub, 1, []), (.aload_n 0, 1, []), (.getfield 23, 3, [6, 9, 3]), (.iload 5, 2, []), (.iaload, 1, []), (.iastore, 1, [])], 13, 63),
  ([(.iinc 5 1, 3, []), (.goto (-119), 3, [5, 63])], 0, 0),
  ([(.iinc 4 1, 3, []), (.goto (-211), 3, [1, 31])], 0, 0),
  ([(.iconst 1, 1, []), (.ireturn, 1, [1])], 0, 0)]
def z_Runs_goOneHour : xMeth := (n_Runs_goOneHour, prog_8_method_5_code, 7, some FieldType.boolean, [0, 17, 29, 97, 100, 103, 112, 147, 161, 162, 170, 172, 178, 219, 225, 231], B_Runs_goOneHour, (0, 0))
def n_Runs_setLiars : MethodName := ⟨"RingCouncil$Runs", "setLiars", "(I)V"⟩
abbrev m_Runs_setLiars : Nat := 41
def B_Runs_setLiars : List xB := [
  ([(.iconst 0, 1, []), (.istore_n 2, 1, [])], 1, 7),
  ([(.iload_n 2, 1, []), (.aload_n 0, 1, []), (.getfield 78, 3, [6, 10, 0]), (.if_icmp .ge 73, 3, [6, 0, 2, 7])], 0, 0),
  ([(.aload_n 0, 1, []), (.getfield 19, 3, [6, 8, 3]), (.iload_n 2, 1, []), (.iaload, 1, []), (.istore_n 3, 1, []), (.aload_n 0, 1, []), (.getfield 26, 3, [6, 5, 3]), (.getfield 137, 3, [2, 2, 3]), (.iload_n 3, 1, []), (.aload_n 0, 1, []), (.iload_n 1, 1, []), (.iload_n 2, 1, []), (.iconst 0, 1, []), (.invokevirtual 98, 3, [1, 42, 3, 6, 0]), (.iastore, 1, []), (.aload_n 0, 1, []), (.getfield 26, 3, [6, 5, 3]), (.getfield 140, 3, [2, 3, 3]), (.iload_n 3, 1, []), (.aload_n 0, 1, []), (.iload_n 1, 1, []), (.iload_n 2, 1, []), (.iconst 1, 1, []), (.invokevirtual 98, 3, [1, 42, 3, 6, 0]), (.iastore, 1, []), (.aload_n 0, 1, []), (.getfield 26, 3, [6, 5, 3]), (.getfield 143, 3, [2, 4, 3]), (.iload_n 3, 1, []), (.aload_n 0, 1, []), (.iload_n 1, 1, []), (.iload_n 2, 1, []), (.iconst 2, 1, []), (.invokevirtual 98, 3, [1, 42, 3, 6, 0]), (.iconst 1, 1, []), (.if_icmp .ne 7, 3, [4, 7, 3, 7])], 0, 0),
  ([(.iconst 1, 1, []), (.goto 4, 3, [5, 7])], 0, 0),
  ([(.iconst 0, 1, [])], 5, 7),
  ([(.bastore, 1, []), (.iinc 2 1, 3, []), (.goto (-75), 3, [1, 7])], 0, 0),
  ([(.return_, 1, [])], 0, 0)]
def z_Runs_setLiars : xMeth := (n_Runs_setLiars, prog_8_method_6_code, 4, none, [0, 2, 10, 68, 72, 73, 80], B_Runs_setLiars, (0, 0))
def n_Runs_doneBy : MethodName := ⟨"RingCouncil$Runs", "doneBy", "(III)I"⟩
abbrev m_Runs_doneBy : Nat := 42
def B_Runs_doneBy : List xB := [
  ([(.iload_n 1, 1, []), (.istore 4, 2, []), (.iload_n 2, 1, []), (.iconst 1, 1, []), (.iadd, 1, []), (.istore 5, 2, [])], 1, 57),
  ([(.iload 5, 2, []), (.aload_n 0, 1, []), (.getfield 78, 3, [6, 10, 0]), (.if_icmp .ge 25, 3, [3, 25, 2, 57])], 0, 0),
  ([(.iload 4, 2, []), (.aload_n 0, 1, []), (.getfield 55, 3, [6, 11, 0]), (.aload_n 0, 1, []), (.getfield 55, 3, [6, 11, 0]), (.imul, 1, []), (.iconst 2, 1, []), (.imul, 1, []), (.idiv, 1, []), (.istore 4, 2, []), (.iinc 5 1, 3, []), (.goto (-28), 3, [1, 57])], 0, 0),
  ([(.iload_n 3, 1, []), (.lookupswitch 57 #[(0, 28), (1, 45)], 28, [6, 16, 4, 17, 5, 17])], 0, 0),
  ([(.iload 4, 2, []), (.iconst 2, 1, []), (.aload_n 0, 1, []), (.getfield 55, 3, [6, 11, 0]), (.imul, 1, []), (.idiv, 1, []), (.aload_n 0, 1, []), (.getfield 55, 3, [6, 11, 0]), (.irem, 1, []), (.iconst 1, 1, []), (.isub, 1, []), (.ireturn, 1, [0])], 0, 0),
  ([(.iload 4, 2, []), (.iconst 2, 1, []), (.idiv, 1, []), (.aload_n 0, 1, []), (.getfield 55, 3, [6, 11, 0]), (.irem, 1, []), (.iconst 1, 1, []), (.isub, 1, []), (.ireturn, 1, [0])], 0, 0),
  ([(.iload 4, 2, []), (.iconst 2, 1, []), (.irem, 1, []), (.ireturn, 1, [0])], 0, 0)]
def z_Runs_doneBy : xMeth := (n_Runs_doneBy, prog_8_method_7_code, 6, some FieldType.int, [0, 8, 17, 39, 68, 85, 97], B_Runs_doneBy, (0, 0))
def n_Runs_firstBad : MethodName := ⟨"RingCouncil$Runs", "firstBad", "(LRingCouncil$Elders;I)I"⟩
abbrev m_Runs_firstBad : Nat := 43
def B_Runs_firstBad : List xB := [
  ([(.aload_n 0, 1, []), (.getfield 48, 3, [6, 6, 3]), (.iload_n 2, 1, []), (.putfield 117, 3, [4, 4, 0]), (.iconst 0, 1, []), (.istore_n 3, 1, [])], 1, 11),
  ([(.iload_n 3, 1, []), (.aload_n 0, 1, []), (.getfield 35, 3, [6, 0, 3]), (.getfield 110, 3, [1, 5, 0]), (.if_icmp .ge 38, 3, [5, 0, 2, 11])], 0, 0),
  ([(.aload_n 0, 1, []), (.getfield 35, 3, [6, 0, 3]), (.iload_n 3, 1, []), (.aload_n 0, 1, []), (.getfield 48, 3, [6, 6, 3]), (.invokevirtual 113, 3, [1, 9, 2, 1, 1]), (.aload_n 0, 1, []), (.getfield 26, 3, [6, 5, 3]), (.aload_n 1, 1, []), (.aload_n 0, 1, []), (.getfield 48, 3, [6, 6, 3]), (.invokevirtual 146, 3, [1, 20, 2, 2, 0]), (.ifCond .ne 5, 3, [4, 11, 3, 8])], 0, 0),
  ([(.iload_n 3, 1, []), (.ireturn, 1, [0])], 0, 0),
  ([(.iinc 3 1, 3, []), (.goto (-43), 3, [1, 11])], 0, 0),
  ([(.iconst (-1), 1, []), (.ireturn, 1, [0])], 0, 0)]
def z_Runs_firstBad : xMeth := (n_Runs_firstBad, prog_8_method_8_code, 4, some FieldType.int, [0, 10, 21, 48, 50, 56], B_Runs_firstBad, (0, 0))
def n_Runs_doneOnTheWay : MethodName := ⟨"RingCouncil$Runs", "doneOnTheWay", "(IIIII)I"⟩
abbrev m_Runs_doneOnTheWay : Nat := 44
def B_Runs_doneOnTheWay : List xB := [
  ([(.iload_n 2, 1, []), (.istore 6, 2, []), (.iload_n 1, 1, []), (.istore 7, 2, [])], 1, 249),
  ([(.iload 7, 2, []), (.iload_n 3, 1, []), (.iconst 1, 1, []), (.iadd, 1, []), (.if_icmp .le 21, 3, [3, 121, 2, 249])], 0, 0),
  ([(.aload_n 0, 1, []), (.getfield 11, 3, [6, 3, 3]), (.iload 7, 2, []), (.aaload, 1, []), (.iload 6, 2, []), (.iaload, 1, []), (.istore 6, 2, []), (.iinc 7 (-1), 3, []), (.goto (-23), 3, [1, 249])], 0, 0),
  ([(.aload_n 0, 1, []), (.aload_n 0, 1, []), (.getfield 16, 3, [6, 4, 3]), (.iload_n 3, 1, []), (.iconst 1, 1, []), (.iadd, 1, []), (.aaload, 1, []), (.iload 6, 2, []), (.iaload, 1, []), (.iload 4, 2, []), (.iload 5, 2, []), (.invokevirtual 98, 3, [1, 42, 3, 6, 0]), (.ireturn, 1, [0])], 0, 0)]
def z_Runs_doneOnTheWay : xMeth := (n_Runs_doneOnTheWay, prog_8_method_9_code, 8, some FieldType.int, [0, 6, 14, 32], B_Runs_doneOnTheWay, (0, 0))
def n_Tape_init : MethodName := ⟨"RingCouncil$Tape", "<init>", "()V"⟩
abbrev m_Tape_init : Nat := 45
def B_Tape_init : List xB := [
  ([(.aload_n 0, 1, []), (.invokespecial 3, 3, [0]), (.aload_n 0, 1, []), (.sipush 300, 3, []), (.newarray .int, 2, []), (.putfield 9, 3, [7, 0, 3]), (.return_, 1, [])], 0, 0)]
def z_Tape_init : xMeth := (n_Tape_init, prog_9_method_1_code, 1, none, [0], B_Tape_init, (1, 300))
def n_Tape_append : MethodName := ⟨"RingCouncil$Tape", "append", "(I)V"⟩
abbrev m_Tape_append : Nat := 46
def B_Tape_append : List xB := [
  ([(.bipush 24, 2, []), (.istore_n 2, 1, [])], 1, 7),
  ([(.iload_n 2, 1, []), (.ifCond .lt 45, 3, [4, 0, 2, 7])], 0, 0),
  ([(.aload_n 0, 1, []), (.getfield 15, 3, [7, 1, 0]), (.sipush 300, 3, []), (.if_icmp .ge 35, 3, [4, 0, 3, 7])], 0, 0),
  ([(.aload_n 0, 1, []), (.getfield 9, 3, [7, 0, 3]), (.aload_n 0, 1, []), (.getfield 15, 3, [7, 1, 0]), (.iload_n 1, 1, []), (.iload_n 2, 1, []), (.iushr, 1, []), (.sipush 255, 3, []), (.iand, 1, []), (.iastore, 1, []), (.aload_n 0, 1, []), (.dup, 1, []), (.getfield 15, 3, [7, 1, 0]), (.iconst 1, 1, []), (.iadd, 1, []), (.putfield 15, 3, [7, 1, 0]), (.iinc 2 (-8), 3, []), (.goto (-43), 3, [1, 7])], 0, 0),
  ([(.return_, 1, [])], 0, 0)]
def z_Tape_append : xMeth := (n_Tape_append, prog_9_method_2_code, 3, none, [0, 3, 7, 17, 49], B_Tape_append, (0, 0))
def n_Tape_read : MethodName := ⟨"RingCouncil$Tape", "read", "(LRingCouncil$Text;)Z"⟩
abbrev m_Tape_read : Nat := 47
def B_Tape_read : List xB := [
  ([(.aload_n 0, 1, []), (.aload_n 1, 1, []), (.putfield 19, 3, [7, 4, 3]), (.aload_n 0, 1, []), (.getfield 19, 3, [7, 4, 3]), (.invokevirtual 23, 3, [1, 69, 0, 8, 1]), (.aload_n 0, 1, []), (.iconst 0, 1, []), (.putfield 28, 3, [7, 2, 0]), (.aload_n 0, 1, []), (.iconst (-1), 1, []), (.putfield 31, 3, [7, 3, 0]), (.aload_n 0, 1, []), (.iconst 0, 1, []), (.putfield 34, 3, [7, 7, 0]), (.aload_n 0, 1, []), (.invokevirtual 37, 3, [1, 60, 0, 7, 1]), (.iconst 1, 1, []), (.istore_n 2, 1, []), (.iconst 0, 1, []), (.istore_n 3, 1, [])], 1, 13),
  ([(.iload_n 3, 1, []), (.bipush 12, 2, []), (.if_icmp .gt 28, 3, [5, 4, 2, 13])], 0, 0),
  ([(.iload_n 2, 1, []), (.ifCond .eq 24, 3, [5, 4, 3, 13])], 0, 0),
  ([(.aload_n 0, 1, []), (.getfield 40, 3, [7, 5, 0]), (.sipush 303, 3, []), (.if_icmp .eq 14, 3, [5, 4, 4, 9])], 0, 0),
  ([(.aload_n 0, 1, []), (.invokevirtual 43, 3, [1, 48, 0, 7, 0]), (.istore_n 2, 1, []), (.iinc 3 1, 3, []), (.goto (-28), 3, [1, 13])], 0, 0),
  ([(.iload_n 2, 1, []), (.ireturn, 1, [1])], 0, 0)]
def z_Tape_read : xMeth := (n_Tape_read, prog_9_method_3_code, 4, some FieldType.boolean, [0, 35, 41, 45, 55, 66], B_Tape_read, (0, 0))
def n_Tape_readClause : MethodName := ⟨"RingCouncil$Tape", "readClause", "()Z"⟩
abbrev m_Tape_readClause : Nat := 48
def B_Tape_readClause : List xB := [
  ([(.aload_n 0, 1, []), (.getfield 40, 3, [7, 5, 0]), (.istore_n 1, 1, []), (.aload_n 0, 1, []), (.iload_n 1, 1, []), (.invokevirtual 47, 3, [1, 49, 1, 7, 0]), (.ifCond .ne 5, 3, [2, 3, 1, 0])], 0, 0),
  ([(.iconst 0, 1, []), (.ireturn, 1, [1])], 0, 0),
  ([(.aload_n 0, 1, []), (.invokevirtual 37, 3, [1, 60, 0, 7, 1]), (.aload_n 0, 1, []), (.getfield 19, 3, [7, 4, 3]), (.getfield 51, 3, [8, 7, 0]), (.istore_n 2, 1, []), (.iload_n 1, 1, []), (.sipush 404, 3, []), (.if_icmp .ne 11, 3, [4, 7, 3, 7])], 0, 0),
  ([(.aload_n 0, 1, []), (.iconst 0, 1, []), (.invokevirtual 54, 3, [1, 50, 1, 7, 0]), (.goto 8, 3, [5, 7])], 0, 0),
  ([(.aload_n 0, 1, []), (.iconst 0, 1, []), (.invokevirtual 58, 3, [1, 53, 1, 7, 0])], 5, 7),
  ([(.istore_n 3, 1, []), (.iload_n 3, 1, []), (.iconst (-1), 1, []), (.if_icmp .eq 12, 3, [7, 0, 6, 15])], 0, 0),
  ([(.aload_n 0, 1, []), (.bipush 59, 2, []), (.invokevirtual 61, 3, [1, 58, 1, 7, 0]), (.ifCond .ne 5, 3, [8, 15, 7, 0])], 0, 0),
  ([(.iconst 0, 1, []), (.ireturn, 1, [1])], 0, 0),
  ([(.aload_n 0, 1, []), (.getfield 19, 3, [7, 4, 3]), (.iload_n 1, 1, []), (.iload_n 2, 1, []), (.iload_n 3, 1, []), (.invokevirtual 64, 3, [1, 72, 3, 8, 1]), (.iconst 1, 1, []), (.ireturn, 1, [1])], 0, 0)]
def z_Tape_readClause : xMeth := (n_Tape_readClause, prog_9_method_4_code, 4, some FieldType.boolean, [0, 13, 15, 34, 42, 47, 53, 62, 64], B_Tape_readClause, (0, 0))
def n_Tape_mayBegin : MethodName := ⟨"RingCouncil$Tape", "mayBegin", "(I)Z"⟩
abbrev m_Tape_mayBegin : Nat := 49
def B_Tape_mayBegin : List xB := [
  ([(.iload_n 1, 1, []), (.sipush 400, 3, []), (.if_icmp .lt 10, 3, [2, 1, 1, 3])], 0, 0),
  ([(.iload_n 1, 1, []), (.sipush 404, 3, []), (.if_icmp .le 11, 3, [3, 3, 2, 1])], 0, 0),
  ([(.aload_n 0, 1, []), (.iconst 1, 1, []), (.invokevirtual 68, 3, [1, 59, 1, 7, 0]), (.pop, 1, []), (.iconst 0, 1, []), (.ireturn, 1, [1])], 0, 0),
  ([(.iload_n 1, 1, []), (.sipush 404, 3, []), (.if_icmp .eq 23, 3, [6, 1, 4, 3])], 0, 0),
  ([(.aload_n 0, 1, []), (.getfield 19, 3, [7, 4, 3]), (.iload_n 1, 1, []), (.invokevirtual 71, 3, [1, 73, 1, 8, 0]), (.iconst (-1), 1, []), (.if_icmp .eq 11, 3, [6, 1, 5, 1])], 0, 0),
  ([(.aload_n 0, 1, []), (.iconst 4, 1, []), (.invokevirtual 68, 3, [1, 59, 1, 7, 0]), (.pop, 1, []), (.iconst 0, 1, []), (.ireturn, 1, [1])], 0, 0),
  ([(.aload_n 0, 1, []), (.getfield 19, 3, [7, 4, 3]), (.getfield 74, 3, [8, 8, 0]), (.bipush 12, 2, []), (.if_icmp .lt 11, 3, [8, 0, 7, 1])], 0, 0),
  ([(.aload_n 0, 1, []), (.iconst 5, 1, []), (.invokevirtual 68, 3, [1, 59, 1, 7, 0]), (.pop, 1, []), (.iconst 0, 1, []), (.ireturn, 1, [1])], 0, 0),
  ([(.iconst 1, 1, []), (.ireturn, 1, [1])], 0, 0)]
def z_Tape_mayBegin : xMeth := (n_Tape_mayBegin, prog_9_method_5_code, 2, some FieldType.boolean, [0, 7, 14, 22, 29, 41, 49, 61, 69], B_Tape_mayBegin, (0, 0))
def n_Tape_readEither : MethodName := ⟨"RingCouncil$Tape", "readEither", "(I)I"⟩
abbrev m_Tape_readEither : Nat := 50
def B_Tape_readEither : List xB := [
  ([(.aload_n 0, 1, []), (.iload_n 1, 1, []), (.invokevirtual 77, 3, [1, 51, 1, 7, 0]), (.istore_n 2, 1, []), (.iconst 0, 1, []), (.istore_n 3, 1, [])], 1, 15),
  ([(.iload_n 3, 1, []), (.sipush 300, 3, []), (.if_icmp .ge 42, 3, [5, 4, 2, 15])], 0, 0),
  ([(.iload_n 2, 1, []), (.iconst (-1), 1, []), (.if_icmp .eq 37, 3, [5, 4, 3, 15])], 0, 0),
  ([(.aload_n 0, 1, []), (.getfield 40, 3, [7, 5, 0]), (.sipush 407, 3, []), (.if_icmp .ne 27, 3, [5, 4, 4, 15])], 0, 0),
  ([(.aload_n 0, 1, []), (.invokevirtual 37, 3, [1, 60, 0, 7, 1]), (.aload_n 0, 1, []), (.sipush 407, 3, []), (.iload_n 2, 1, []), (.aload_n 0, 1, []), (.iload_n 1, 1, []), (.invokevirtual 77, 3, [1, 51, 1, 7, 0]), (.invokevirtual 80, 3, [1, 57, 3, 7, 0]), (.istore_n 2, 1, []), (.iinc 3 1, 3, []), (.goto (-43), 3, [1, 15])], 0, 0),
  ([(.iload_n 2, 1, []), (.ireturn, 1, [0])], 0, 0)]
def z_Tape_readEither : xMeth := (n_Tape_readEither, prog_9_method_6_code, 4, some FieldType.int, [0, 8, 15, 20, 30, 54], B_Tape_readEither, (0, 0))
def n_Tape_readBoth : MethodName := ⟨"RingCouncil$Tape", "readBoth", "(I)I"⟩
abbrev m_Tape_readBoth : Nat := 51
def B_Tape_readBoth : List xB := [
  ([(.aload_n 0, 1, []), (.iload_n 1, 1, []), (.invokevirtual 84, 3, [1, 52, 1, 7, 0]), (.istore_n 2, 1, []), (.iconst 0, 1, []), (.istore_n 3, 1, [])], 1, 15),
  ([(.iload_n 3, 1, []), (.sipush 300, 3, []), (.if_icmp .ge 42, 3, [5, 4, 2, 15])], 0, 0),
  ([(.iload_n 2, 1, []), (.iconst (-1), 1, []), (.if_icmp .eq 37, 3, [5, 4, 3, 15])], 0, 0),
  ([(.aload_n 0, 1, []), (.getfield 40, 3, [7, 5, 0]), (.sipush 408, 3, []), (.if_icmp .ne 27, 3, [5, 4, 4, 15])], 0, 0),
  ([(.aload_n 0, 1, []), (.invokevirtual 37, 3, [1, 60, 0, 7, 1]), (.aload_n 0, 1, []), (.sipush 408, 3, []), (.iload_n 2, 1, []), (.aload_n 0, 1, []), (.iload_n 1, 1, []), (.invokevirtual 84, 3, [1, 52, 1, 7, 0]), (.invokevirtual 80, 3, [1, 57, 3, 7, 0]), (.istore_n 2, 1, []), (.iinc 3 1, 3, []), (.goto (-43), 3, [1, 15])], 0, 0),
  ([(.iload_n 2, 1, []), (.ireturn, 1, [0])], 0, 0)]
def z_Tape_readBoth : xMeth := (n_Tape_readBoth, prog_9_method_7_code, 4, some FieldType.int, [0, 8, 15, 20, 30, 54], B_Tape_readBoth, (0, 0))
def n_Tape_readAsk : MethodName := ⟨"RingCouncil$Tape", "readAsk", "(I)I"⟩
abbrev m_Tape_readAsk : Nat := 52
def B_Tape_readAsk : List xB := [
  ([(.aload_n 0, 1, []), (.getfield 40, 3, [7, 5, 0]), (.sipush 409, 3, []), (.if_icmp .ne 50, 3, [7, 3, 1, 3])], 0, 0),
  ([(.iload_n 1, 1, []), (.bipush 8, 2, []), (.if_icmp .lt 9, 3, [3, 3, 2, 1])], 0, 0),
  ([(.aload_n 0, 1, []), (.iconst 3, 1, []), (.invokevirtual 68, 3, [1, 59, 1, 7, 0]), (.ireturn, 1, [0])], 0, 0),
  ([(.aload_n 0, 1, []), (.invokevirtual 37, 3, [1, 60, 0, 7, 1]), (.aload_n 0, 1, []), (.iload_n 1, 1, []), (.iconst 1, 1, []), (.iadd, 1, []), (.invokevirtual 84, 3, [1, 52, 1, 7, 0]), (.istore_n 2, 1, []), (.iload_n 2, 1, []), (.iconst (-1), 1, []), (.if_icmp .ne 7, 3, [5, 5, 4, 0])], 0, 0),
  ([(.iconst (-1), 1, []), (.goto 16, 3, [6, 0])], 0, 0),
  ([(.aload_n 0, 1, []), (.getfield 19, 3, [7, 4, 3]), (.sipush 409, 3, []), (.iload_n 2, 1, []), (.iconst 0, 1, []), (.iconst 0, 1, []), (.invokevirtual 87, 3, [1, 70, 4, 8, 0])], 6, 0),
  ([(.ireturn, 1, [0])], 0, 0),
  ([(.aload_n 0, 1, []), (.iload_n 1, 1, []), (.invokevirtual 58, 3, [1, 53, 1, 7, 0]), (.istore_n 2, 1, []), (.iload_n 2, 1, []), (.iconst (-1), 1, []), (.if_icmp .ne 5, 3, [9, 7, 8, 0])], 0, 0),
  ([(.iconst (-1), 1, []), (.ireturn, 1, [0])], 0, 0),
  ([(.aload_n 0, 1, []), (.getfield 40, 3, [7, 5, 0]), (.istore_n 3, 1, []), (.iload_n 3, 1, []), (.bipush 60, 2, []), (.if_icmp .eq 41, 3, [16, 15, 10, 15])], 0, 0),
  ([(.iload_n 3, 1, []), (.bipush 62, 2, []), (.if_icmp .eq 35, 3, [16, 15, 11, 15])], 0, 0),
  ([(.iload_n 3, 1, []), (.bipush 61, 2, []), (.if_icmp .eq 29, 3, [16, 15, 12, 15])], 0, 0),
  ([(.iload_n 3, 1, []), (.bipush 35, 2, []), (.if_icmp .eq 23, 3, [16, 15, 13, 15])], 0, 0),
  ([(.iload_n 3, 1, []), (.sipush 301, 3, []), (.if_icmp .eq 16, 3, [16, 15, 14, 15])], 0, 0),
  ([(.iload_n 3, 1, []), (.sipush 302, 3, []), (.if_icmp .eq 9, 3, [16, 15, 15, 1])], 0, 0),
  ([(.aload_n 0, 1, []), (.iconst 1, 1, []), (.invokevirtual 68, 3, [1, 59, 1, 7, 0]), (.ireturn, 1, [0])], 0, 0),
  ([(.aload_n 0, 1, []), (.invokevirtual 37, 3, [1, 60, 0, 7, 1]), (.aload_n 0, 1, []), (.iload_n 3, 1, []), (.iload_n 2, 1, []), (.aload_n 0, 1, []), (.iload_n 1, 1, []), (.invokevirtual 58, 3, [1, 53, 1, 7, 0]), (.invokevirtual 80, 3, [1, 57, 3, 7, 0]), (.ireturn, 1, [0])], 0, 0)]
def z_Tape_readAsk : xMeth := (n_Tape_readAsk, prog_9_method_8_code, 4, some FieldType.int, [0, 10, 16, 22, 39, 43, 56, 57, 68, 70, 81, 87, 93, 99, 106, 113, 119], B_Tape_readAsk, (0, 0))
def n_Tape_readSum : MethodName := ⟨"RingCouncil$Tape", "readSum", "(I)I"⟩
abbrev m_Tape_readSum : Nat := 53
def B_Tape_readSum : List xB := [
  ([(.aload_n 0, 1, []), (.iload_n 1, 1, []), (.invokevirtual 91, 3, [1, 54, 1, 7, 0]), (.istore_n 2, 1, []), (.iconst 0, 1, []), (.istore_n 3, 1, [])], 1, 15),
  ([(.iload_n 3, 1, []), (.sipush 300, 3, []), (.if_icmp .ge 55, 3, [6, 4, 2, 15])], 0, 0),
  ([(.iload_n 2, 1, []), (.iconst (-1), 1, []), (.if_icmp .eq 50, 3, [6, 4, 3, 15])], 0, 0),
  ([(.aload_n 0, 1, []), (.getfield 40, 3, [7, 5, 0]), (.bipush 43, 2, []), (.if_icmp .eq 12, 3, [5, 15, 4, 15])], 0, 0),
  ([(.aload_n 0, 1, []), (.getfield 40, 3, [7, 5, 0]), (.bipush 45, 2, []), (.if_icmp .ne 32, 3, [6, 4, 5, 15])], 0, 0),
  ([(.aload_n 0, 1, []), (.getfield 40, 3, [7, 5, 0]), (.istore 4, 2, []), (.aload_n 0, 1, []), (.invokevirtual 37, 3, [1, 60, 0, 7, 1]), (.aload_n 0, 1, []), (.iload 4, 2, []), (.iload_n 2, 1, []), (.aload_n 0, 1, []), (.iload_n 1, 1, []), (.invokevirtual 91, 3, [1, 54, 1, 7, 0]), (.invokevirtual 80, 3, [1, 57, 3, 7, 0]), (.istore_n 2, 1, []), (.iinc 3 1, 3, []), (.goto (-56), 3, [1, 15])], 0, 0),
  ([(.iload_n 2, 1, []), (.ireturn, 1, [0])], 0, 0)]
def z_Tape_readSum : xMeth := (n_Tape_readSum, prog_9_method_9_code, 5, some FieldType.int, [0, 8, 15, 20, 29, 38, 67], B_Tape_readSum, (0, 0))
def n_Tape_readProduct : MethodName := ⟨"RingCouncil$Tape", "readProduct", "(I)I"⟩
abbrev m_Tape_readProduct : Nat := 54
def B_Tape_readProduct : List xB := [
  ([(.aload_n 0, 1, []), (.iload_n 1, 1, []), (.invokevirtual 94, 3, [1, 55, 1, 7, 0]), (.istore_n 2, 1, []), (.iconst 0, 1, []), (.istore_n 3, 1, [])], 1, 15),
  ([(.iload_n 3, 1, []), (.sipush 300, 3, []), (.if_icmp .ge 55, 3, [6, 4, 2, 15])], 0, 0),
  ([(.iload_n 2, 1, []), (.iconst (-1), 1, []), (.if_icmp .eq 50, 3, [6, 4, 3, 15])], 0, 0),
  ([(.aload_n 0, 1, []), (.getfield 40, 3, [7, 5, 0]), (.bipush 42, 2, []), (.if_icmp .eq 12, 3, [5, 15, 4, 15])], 0, 0),
  ([(.aload_n 0, 1, []), (.getfield 40, 3, [7, 5, 0]), (.bipush 47, 2, []), (.if_icmp .ne 32, 3, [6, 4, 5, 15])], 0, 0),
  ([(.aload_n 0, 1, []), (.getfield 40, 3, [7, 5, 0]), (.istore 4, 2, []), (.aload_n 0, 1, []), (.invokevirtual 37, 3, [1, 60, 0, 7, 1]), (.aload_n 0, 1, []), (.iload 4, 2, []), (.iload_n 2, 1, []), (.aload_n 0, 1, []), (.iload_n 1, 1, []), (.invokevirtual 94, 3, [1, 55, 1, 7, 0]), (.invokevirtual 80, 3, [1, 57, 3, 7, 0]), (.istore_n 2, 1, []), (.iinc 3 1, 3, []), (.goto (-56), 3, [1, 15])], 0, 0),
  ([(.iload_n 2, 1, []), (.ireturn, 1, [0])], 0, 0)]
def z_Tape_readProduct : xMeth := (n_Tape_readProduct, prog_9_method_10_code, 5, some FieldType.int, [0, 8, 15, 20, 29, 38, 67], B_Tape_readProduct, (0, 0))
def n_Tape_readOne : MethodName := ⟨"RingCouncil$Tape", "readOne", "(I)I"⟩
abbrev m_Tape_readOne : Nat := 55
def B_Tape_readOne : List xB := [
  ([(.aload_n 0, 1, []), (.getfield 40, 3, [7, 5, 0]), (.istore_n 2, 1, []), (.aload_n 0, 1, []), (.getfield 97, 3, [7, 8, 0]), (.istore_n 3, 1, []), (.iload_n 2, 1, []), (.bipush 40, 2, []), (.if_icmp .eq 16, 3, [3, 15, 1, 15])], 0, 0),
  ([(.iload_n 2, 1, []), (.bipush 45, 2, []), (.if_icmp .eq 10, 3, [3, 15, 2, 15])], 0, 0),
  ([(.iload_n 2, 1, []), (.sipush 405, 3, []), (.if_icmp .ne 7, 3, [4, 15, 3, 15])], 0, 0),
  ([(.iconst 1, 1, []), (.goto 4, 3, [5, 15])], 0, 0),
  ([(.iconst 0, 1, [])], 5, 15),
  ([(.istore 4, 2, []), (.iload_n 2, 1, []), (.sipush 300, 3, []), (.if_icmp .ne 16, 3, [8, 31, 6, 31])], 0, 0),
  ([(.iload_n 3, 1, []), (.sipush 9999, 3, []), (.if_icmp .le 9, 3, [8, 31, 7, 1])], 0, 0),
  ([(.aload_n 0, 1, []), (.iconst 2, 1, []), (.invokevirtual 68, 3, [1, 59, 1, 7, 0]), (.ireturn, 1, [0])], 0, 0),
  ([(.iload 4, 2, []), (.ifCond .eq 15, 3, [11, 31, 9, 31])], 0, 0),
  ([(.iload_n 1, 1, []), (.bipush 8, 2, []), (.if_icmp .lt 9, 3, [11, 31, 10, 1])], 0, 0),
  ([(.aload_n 0, 1, []), (.iconst 3, 1, []), (.invokevirtual 68, 3, [1, 59, 1, 7, 0]), (.ireturn, 1, [0])], 0, 0),
  ([(.iload 4, 2, []), (.ifCond .ne 30, 3, [16, 31, 12, 31])], 0, 0),
  ([(.iload_n 2, 1, []), (.sipush 300, 3, []), (.if_icmp .eq 23, 3, [16, 31, 13, 31])], 0, 0),
  ([(.iload_n 2, 1, []), (.sipush 410, 3, []), (.if_icmp .lt 10, 3, [15, 1, 14, 31])], 0, 0),
  ([(.iload_n 2, 1, []), (.sipush 417, 3, []), (.if_icmp .le 9, 3, [16, 31, 15, 1])], 0, 0),
  ([(.aload_n 0, 1, []), (.iconst 1, 1, []), (.invokevirtual 68, 3, [1, 59, 1, 7, 0]), (.ireturn, 1, [0])], 0, 0),
  ([(.aload_n 0, 1, []), (.invokevirtual 37, 3, [1, 60, 0, 7, 1]), (.iload 4, 2, []), (.ifCond .ne 15, 3, [18, 7, 17, 13])], 0, 0),
  ([(.aload_n 0, 1, []), (.getfield 19, 3, [7, 4, 3]), (.iload_n 2, 1, []), (.iload_n 3, 1, []), (.iconst 0, 1, []), (.iconst 0, 1, []), (.invokevirtual 87, 3, [1, 70, 4, 8, 0]), (.ireturn, 1, [0])], 0, 0),
  ([(.iload_n 2, 1, []), (.sipush 405, 3, []), (.if_icmp .ne 11, 3, [20, 7, 19, 3])], 0, 0),
  ([(.aload_n 0, 1, []), (.iload_n 1, 1, []), (.iconst 1, 1, []), (.iadd, 1, []), (.invokevirtual 100, 3, [1, 56, 1, 7, 0]), (.ireturn, 1, [0])], 0, 0),
  ([(.iload_n 2, 1, []), (.bipush 45, 2, []), (.if_icmp .ne 37, 3, [25, 3, 21, 3])], 0, 0),
  ([(.aload_n 0, 1, []), (.iload_n 1, 1, []), (.iconst 1, 1, []), (.iadd, 1, []), (.invokevirtual 94, 3, [1, 55, 1, 7, 0]), (.istore 5, 2, []), (.iload 5, 2, []), (.iconst (-1), 1, []), (.if_icmp .ne 7, 3, [23, 33, 22, 0])], 0, 0),
  ([(.iconst (-1), 1, []), (.goto 17, 3, [24, 0])], 0, 0),
  ([(.aload_n 0, 1, []), (.getfield 19, 3, [7, 4, 3]), (.sipush 603, 3, []), (.iload 5, 2, []), (.iconst 0, 1, []), (.iconst 0, 1, []), (.invokevirtual 87, 3, [1, 70, 4, 8, 0])], 24, 0),
  ([(.ireturn, 1, [0])], 0, 0),
  ([(.aload_n 0, 1, []), (.iload_n 1, 1, []), (.iconst 1, 1, []), (.iadd, 1, []), (.invokevirtual 58, 3, [1, 53, 1, 7, 0]), (.istore 5, 2, []), (.iload 5, 2, []), (.iconst (-1), 1, []), (.if_icmp .eq 17, 3, [28, 0, 26, 33])], 0, 0),
  ([(.aload_n 0, 1, []), (.bipush 41, 2, []), (.invokevirtual 61, 3, [1, 58, 1, 7, 0]), (.ifCond .eq 8, 3, [28, 0, 27, 32])], 0, 0),
  ([(.iload 5, 2, []), (.goto 4, 3, [29, 0])], 0, 0),
  ([(.iconst (-1), 1, [])], 29, 0),
  ([(.ireturn, 1, [0])], 0, 0)]
def z_Tape_readOne : xMeth := (n_Tape_readOne, prog_9_method_11_code, 6, some FieldType.int, [0, 16, 22, 29, 33, 34, 43, 50, 56, 61, 67, 73, 78, 85, 92, 99, 105, 114, 126, 133, 141, 147, 162, 166, 180, 181, 196, 205, 210, 211], B_Tape_readOne, (0, 0))
def n_Tape_readChoice : MethodName := ⟨"RingCouncil$Tape", "readChoice", "(I)I"⟩
abbrev m_Tape_readChoice : Nat := 56
def B_Tape_readChoice : List xB := [
  ([(.aload_n 0, 1, []), (.iload_n 1, 1, []), (.invokevirtual 54, 3, [1, 50, 1, 7, 0]), (.istore_n 2, 1, []), (.iload_n 2, 1, []), (.iconst (-1), 1, []), (.if_icmp .eq 12, 3, [2, 0, 1, 7])], 0, 0),
  ([(.aload_n 0, 1, []), (.bipush 63, 2, []), (.invokevirtual 61, 3, [1, 58, 1, 7, 0]), (.ifCond .ne 5, 3, [3, 7, 2, 0])], 0, 0),
  ([(.iconst (-1), 1, []), (.ireturn, 1, [0])], 0, 0),
  ([(.aload_n 0, 1, []), (.getfield 19, 3, [7, 4, 3]), (.sipush 600, 3, []), (.iload_n 2, 1, []), (.iconst 0, 1, []), (.iconst 0, 1, []), (.invokevirtual 87, 3, [1, 70, 4, 8, 0]), (.istore_n 3, 1, []), (.aload_n 0, 1, []), (.iload_n 1, 1, []), (.invokevirtual 58, 3, [1, 53, 1, 7, 0]), (.istore 4, 2, []), (.iload 4, 2, []), (.iconst (-1), 1, []), (.if_icmp .eq 12, 3, [5, 0, 4, 31])], 0, 0),
  ([(.aload_n 0, 1, []), (.bipush 58, 2, []), (.invokevirtual 61, 3, [1, 58, 1, 7, 0]), (.ifCond .ne 5, 3, [6, 31, 5, 0])], 0, 0),
  ([(.iconst (-1), 1, []), (.ireturn, 1, [0])], 0, 0),
  ([(.aload_n 0, 1, []), (.getfield 19, 3, [7, 4, 3]), (.sipush 601, 3, []), (.iconst 0, 1, []), (.iconst 0, 1, []), (.iconst 0, 1, []), (.invokevirtual 87, 3, [1, 70, 4, 8, 0]), (.istore 5, 2, []), (.aload_n 0, 1, []), (.getfield 19, 3, [7, 4, 3]), (.iload_n 3, 1, []), (.iload 5, 2, []), (.iload_n 3, 1, []), (.isub, 1, []), (.invokevirtual 103, 3, [1, 71, 2, 8, 1]), (.aload_n 0, 1, []), (.iload_n 1, 1, []), (.invokevirtual 58, 3, [1, 53, 1, 7, 0]), (.istore 6, 2, []), (.iload 6, 2, []), (.iconst (-1), 1, []), (.if_icmp .eq 13, 3, [8, 0, 7, 117])], 0, 0),
  ([(.aload_n 0, 1, []), (.sipush 406, 3, []), (.invokevirtual 61, 3, [1, 58, 1, 7, 0]), (.ifCond .ne 5, 3, [9, 117, 8, 0])], 0, 0),
  ([(.iconst (-1), 1, []), (.ireturn, 1, [0])], 0, 0),
  ([(.aload_n 0, 1, []), (.getfield 19, 3, [7, 4, 3]), (.iload 5, 2, []), (.iload 6, 2, []), (.iload 5, 2, []), (.isub, 1, []), (.invokevirtual 103, 3, [1, 71, 2, 8, 1]), (.aload_n 0, 1, []), (.getfield 19, 3, [7, 4, 3]), (.sipush 602, 3, []), (.iload_n 2, 1, []), (.iload 4, 2, []), (.iload 6, 2, []), (.invokevirtual 87, 3, [1, 70, 4, 8, 0]), (.ireturn, 1, [0])], 0, 0)]
def z_Tape_readChoice : xMeth := (n_Tape_readChoice, prog_9_method_12_code, 7, some FieldType.int, [0, 11, 20, 22, 49, 58, 60, 100, 110, 112], B_Tape_readChoice, (0, 0))
def n_Tape_pair : MethodName := ⟨"RingCouncil$Tape", "pair", "(III)I"⟩
abbrev m_Tape_pair : Nat := 57
def B_Tape_pair : List xB := [
  ([(.iload_n 3, 1, []), (.iconst (-1), 1, []), (.if_icmp .ne 7, 3, [2, 15, 1, 0])], 0, 0),
  ([(.iconst (-1), 1, []), (.goto 14, 3, [3, 0])], 0, 0),
  ([(.aload_n 0, 1, []), (.getfield 19, 3, [7, 4, 3]), (.iload_n 1, 1, []), (.iload_n 2, 1, []), (.iload_n 3, 1, []), (.iconst 0, 1, []), (.invokevirtual 87, 3, [1, 70, 4, 8, 0])], 3, 0),
  ([(.ireturn, 1, [0])], 0, 0)]
def z_Tape_pair : xMeth := (n_Tape_pair, prog_9_method_13_code, 4, some FieldType.int, [0, 5, 9, 20], B_Tape_pair, (0, 0))
def n_Tape_isPassed : MethodName := ⟨"RingCouncil$Tape", "isPassed", "(I)Z"⟩
abbrev m_Tape_isPassed : Nat := 58
def B_Tape_isPassed : List xB := [
  ([(.aload_n 0, 1, []), (.getfield 40, 3, [7, 5, 0]), (.iload_n 1, 1, []), (.if_icmp .eq 11, 3, [2, 1, 1, 1])], 0, 0),
  ([(.aload_n 0, 1, []), (.iconst 1, 1, []), (.invokevirtual 68, 3, [1, 59, 1, 7, 0]), (.pop, 1, []), (.iconst 0, 1, []), (.ireturn, 1, [1])], 0, 0),
  ([(.aload_n 0, 1, []), (.invokevirtual 37, 3, [1, 60, 0, 7, 1]), (.iconst 1, 1, []), (.ireturn, 1, [1])], 0, 0)]
def z_Tape_isPassed : xMeth := (n_Tape_isPassed, prog_9_method_14_code, 2, some FieldType.boolean, [0, 8, 16], B_Tape_isPassed, (0, 0))
def n_Tape_wrong : MethodName := ⟨"RingCouncil$Tape", "wrong", "(I)I"⟩
abbrev m_Tape_wrong : Nat := 59
def B_Tape_wrong : List xB := [
  ([(.aload_n 0, 1, []), (.iload_n 1, 1, []), (.putfield 28, 3, [7, 2, 0]), (.aload_n 0, 1, []), (.aload_n 0, 1, []), (.getfield 107, 3, [7, 6, 0]), (.putfield 31, 3, [7, 3, 0]), (.iconst (-1), 1, []), (.ireturn, 1, [0])], 0, 0)]
def z_Tape_wrong : xMeth := (n_Tape_wrong, prog_9_method_15_code, 2, some FieldType.int, [0], B_Tape_wrong, (0, 0))
def n_Tape_next : MethodName := ⟨"RingCouncil$Tape", "next", "()V"⟩
abbrev m_Tape_next : Nat := 60
def B_Tape_next : List xB := [
  ([(.aload_n 0, 1, []), (.getfield 34, 3, [7, 7, 0]), (.aload_n 0, 1, []), (.getfield 15, 3, [7, 1, 0]), (.if_icmp .ge 44, 3, [4, 1, 1, 1])], 0, 0),
  ([(.aload_n 0, 1, []), (.getfield 9, 3, [7, 0, 3]), (.aload_n 0, 1, []), (.getfield 34, 3, [7, 7, 0]), (.iaload, 1, []), (.bipush 32, 2, []), (.if_icmp .eq 17, 3, [3, 1, 2, 1])], 0, 0),
  ([(.aload_n 0, 1, []), (.getfield 9, 3, [7, 0, 3]), (.aload_n 0, 1, []), (.getfield 34, 3, [7, 7, 0]), (.iaload, 1, []), (.bipush 10, 2, []), (.if_icmp .ne 16, 3, [4, 1, 3, 1])], 0, 0),
  ([(.aload_n 0, 1, []), (.dup, 1, []), (.getfield 34, 3, [7, 7, 0]), (.iconst 1, 1, []), (.iadd, 1, []), (.putfield 34, 3, [7, 7, 0]), (.goto (-49), 3, [0, 1])], 0, 0),
  ([(.aload_n 0, 1, []), (.aload_n 0, 1, []), (.getfield 34, 3, [7, 7, 0]), (.putfield 107, 3, [7, 6, 0]), (.aload_n 0, 1, []), (.getfield 34, 3, [7, 7, 0]), (.aload_n 0, 1, []), (.getfield 15, 3, [7, 1, 0]), (.if_icmp .lt 13, 3, [6, 1, 5, 1])], 0, 0),
  ([(.aload_n 0, 1, []), (.sipush 303, 3, []), (.putfield 40, 3, [7, 5, 0]), (.goto 66, 3, [11, 0])], 0, 0),
  ([(.aload_n 0, 1, []), (.getfield 9, 3, [7, 0, 3]), (.aload_n 0, 1, []), (.getfield 34, 3, [7, 7, 0]), (.iaload, 1, []), (.invokestatic 110, 3, [1, 65, 1, 0]), (.ifCond .eq 17, 3, [8, 1, 7, 1])], 0, 0),
  ([(.aload_n 0, 1, []), (.sipush 300, 3, []), (.putfield 40, 3, [7, 5, 0]), (.aload_n 0, 1, []), (.invokevirtual 113, 3, [1, 61, 0, 7, 1]), (.goto 37, 3, [11, 0])], 0, 0),
  ([(.aload_n 0, 1, []), (.getfield 9, 3, [7, 0, 3]), (.aload_n 0, 1, []), (.getfield 34, 3, [7, 7, 0]), (.iaload, 1, []), (.invokestatic 116, 3, [1, 66, 1, 0]), (.ifCond .eq 14, 3, [10, 1, 9, 1])], 0, 0),
  ([(.aload_n 0, 1, []), (.aload_n 0, 1, []), (.invokevirtual 119, 3, [1, 62, 0, 7, 0]), (.putfield 40, 3, [7, 5, 0]), (.goto 11, 3, [11, 0])], 0, 0),
  ([(.aload_n 0, 1, []), (.aload_n 0, 1, []), (.invokevirtual 123, 3, [1, 64, 0, 7, 0]), (.putfield 40, 3, [7, 5, 0])], 11, 0),
  ([(.return_, 1, [])], 0, 0)]
def z_Tape_next : xMeth := (n_Tape_next, prog_9_method_16_code, 1, none, [0, 11, 25, 39, 52, 71, 81, 96, 110, 125, 136, 144], B_Tape_next, (0, 0))
def n_Tape_takeNumber : MethodName := ⟨"RingCouncil$Tape", "takeNumber", "()V"⟩
abbrev m_Tape_takeNumber : Nat := 61
def B_Tape_takeNumber : List xB := [
  ([(.aload_n 0, 1, []), (.iconst 0, 1, []), (.putfield 97, 3, [7, 8, 0])], 1, 1),
  ([(.aload_n 0, 1, []), (.getfield 34, 3, [7, 7, 0]), (.aload_n 0, 1, []), (.getfield 15, 3, [7, 1, 0]), (.if_icmp .ge 72, 3, [7, 0, 2, 1])], 0, 0),
  ([(.aload_n 0, 1, []), (.getfield 9, 3, [7, 0, 3]), (.aload_n 0, 1, []), (.getfield 34, 3, [7, 7, 0]), (.iaload, 1, []), (.invokestatic 110, 3, [1, 65, 1, 0]), (.ifCond .eq 57, 3, [7, 0, 3, 1])], 0, 0),
  ([(.aload_n 0, 1, []), (.aload_n 0, 1, []), (.getfield 97, 3, [7, 8, 0]), (.sipush 9999, 3, []), (.if_icmp .le 10, 3, [5, 1, 4, 1])], 0, 0),
  ([(.aload_n 0, 1, []), (.getfield 97, 3, [7, 8, 0]), (.goto 23, 3, [6, 1])], 0, 0),
  ([(.aload_n 0, 1, []), (.getfield 97, 3, [7, 8, 0]), (.bipush 10, 2, []), (.imul, 1, []), (.aload_n 0, 1, []), (.getfield 9, 3, [7, 0, 3]), (.aload_n 0, 1, []), (.getfield 34, 3, [7, 7, 0]), (.iaload, 1, []), (.iadd, 1, []), (.bipush 48, 2, []), (.isub, 1, [])], 6, 1),
  ([(.putfield 97, 3, [7, 8, 0]), (.aload_n 0, 1, []), (.dup, 1, []), (.getfield 34, 3, [7, 7, 0]), (.iconst 1, 1, []), (.iadd, 1, []), (.putfield 34, 3, [7, 7, 0]), (.goto (-77), 3, [1, 1])], 0, 0),
  ([(.return_, 1, [])], 0, 0)]
def z_Tape_takeNumber : xMeth := (n_Tape_takeNumber, prog_9_method_17_code, 1, none, [0, 5, 16, 31, 42, 49, 69, 85], B_Tape_takeNumber, (0, 0))
def n_Tape_takeWord : MethodName := ⟨"RingCouncil$Tape", "takeWord", "()I"⟩
abbrev m_Tape_takeWord : Nat := 62
def B_Tape_takeWord : List xB := [
  ([(.aload_n 0, 1, []), (.getfield 34, 3, [7, 7, 0]), (.aload_n 0, 1, []), (.getfield 15, 3, [7, 1, 0]), (.if_icmp .ge 31, 3, [3, 1, 1, 1])], 0, 0),
  ([(.aload_n 0, 1, []), (.getfield 9, 3, [7, 0, 3]), (.aload_n 0, 1, []), (.getfield 34, 3, [7, 7, 0]), (.iaload, 1, []), (.invokestatic 116, 3, [1, 66, 1, 0]), (.ifCond .eq 16, 3, [3, 1, 2, 1])], 0, 0),
  ([(.aload_n 0, 1, []), (.dup, 1, []), (.getfield 34, 3, [7, 7, 0]), (.iconst 1, 1, []), (.iadd, 1, []), (.putfield 34, 3, [7, 7, 0]), (.goto (-36), 3, [0, 1])], 0, 0),
  ([(.sipush 400, 3, []), (.istore_n 1, 1, [])], 4, 3),
  ([(.iload_n 1, 1, []), (.sipush 417, 3, []), (.if_icmp .gt 22, 3, [8, 0, 5, 3])], 0, 0),
  ([(.aload_n 0, 1, []), (.iload_n 1, 1, []), (.invokestatic 126, 3, [1, 67, 1, 3]), (.invokevirtual 130, 3, [1, 63, 1, 7, 0]), (.ifCond .eq 5, 3, [7, 3, 6, 2])], 0, 0),
  ([(.iload_n 1, 1, []), (.ireturn, 1, [0])], 0, 0),
  ([(.iinc 1 1, 3, []), (.goto (-23), 3, [4, 3])], 0, 0),
  ([(.sipush 304, 3, []), (.ireturn, 1, [0])], 0, 0)]
def z_Tape_takeWord : xMeth := (n_Tape_takeWord, prog_9_method_18_code, 2, some FieldType.int, [0, 11, 26, 39, 43, 50, 61, 63, 69], B_Tape_takeWord, (0, 0))
def n_Tape_isSpelled : MethodName := ⟨"RingCouncil$Tape", "isSpelled", "(Ljava/lang/String;)Z"⟩
abbrev m_Tape_isSpelled : Nat := 63
def B_Tape_isSpelled : List xB := [
  ([(.aload_n 0, 1, []), (.getfield 34, 3, [7, 7, 0]), (.aload_n 0, 1, []), (.getfield 107, 3, [7, 6, 0]), (.isub, 1, []), (.aload_n 1, 1, []), (.invokevirtual 134, 3, [3, 1100, 0, 20, 0]), (.if_icmp .eq 5, 3, [2, 3, 1, 0])], 0, 0),
  ([(.iconst 0, 1, []), (.ireturn, 1, [1])], 0, 0),
  ([(.iconst 0, 1, []), (.istore_n 2, 1, [])], 3, 7),
  ([(.iload_n 2, 1, []), (.aload_n 1, 1, []), (.invokevirtual 134, 3, [3, 1100, 0, 20, 0]), (.if_icmp .ge 42, 3, [8, 0, 4, 7])], 0, 0),
  ([(.aload_n 0, 1, []), (.getfield 107, 3, [7, 6, 0]), (.iload_n 2, 1, []), (.iadd, 1, []), (.sipush 300, 3, []), (.if_icmp .ge 30, 3, [8, 0, 5, 7])], 0, 0),
  ([(.aload_n 0, 1, []), (.getfield 9, 3, [7, 0, 3]), (.aload_n 0, 1, []), (.getfield 107, 3, [7, 6, 0]), (.iload_n 2, 1, []), (.iadd, 1, []), (.iaload, 1, []), (.aload_n 1, 1, []), (.iload_n 2, 1, []), (.invokevirtual 138, 3, [3, 1101, 1, 20, 0]), (.if_icmp .eq 5, 3, [7, 7, 6, 0])], 0, 0),
  ([(.iconst 0, 1, []), (.ireturn, 1, [1])], 0, 0),
  ([(.iinc 2 1, 3, []), (.goto (-44), 3, [3, 7])], 0, 0),
  ([(.iconst 1, 1, []), (.ireturn, 1, [1])], 0, 0)]
def z_Tape_isSpelled : xMeth := (n_Tape_isSpelled, prog_9_method_19_code, 3, some FieldType.boolean, [0, 16, 18, 20, 28, 40, 59, 61, 67], B_Tape_isSpelled, (0, 0))
def n_Tape_takeSign : MethodName := ⟨"RingCouncil$Tape", "takeSign", "()I"⟩
abbrev m_Tape_takeSign : Nat := 64
def B_Tape_takeSign : List xB := [
  ([(.aload_n 0, 1, []), (.getfield 9, 3, [7, 0, 3]), (.aload_n 0, 1, []), (.getfield 34, 3, [7, 7, 0]), (.iaload, 1, []), (.istore_n 1, 1, []), (.aload_n 0, 1, []), (.dup, 1, []), (.getfield 34, 3, [7, 7, 0]), (.iconst 1, 1, []), (.iadd, 1, []), (.putfield 34, 3, [7, 7, 0]), (.aload_n 0, 1, []), (.getfield 34, 3, [7, 7, 0]), (.aload_n 0, 1, []), (.getfield 15, 3, [7, 1, 0]), (.if_icmp .ge 21, 3, [3, 3, 1, 3])], 0, 0),
  ([(.aload_n 0, 1, []), (.getfield 9, 3, [7, 0, 3]), (.aload_n 0, 1, []), (.getfield 34, 3, [7, 7, 0]), (.iaload, 1, []), (.bipush 61, 2, []), (.if_icmp .ne 7, 3, [3, 3, 2, 3])], 0, 0),
  ([(.iconst 1, 1, []), (.goto 4, 3, [4, 3])], 0, 0),
  ([(.iconst 0, 1, [])], 4, 3),
  ([(.istore_n 2, 1, []), (.iload_n 2, 1, []), (.ifCond .eq 41, 3, [11, 2, 5, 3])], 0, 0),
  ([(.iload_n 1, 1, []), (.bipush 60, 2, []), (.if_icmp .eq 9, 3, [7, 3, 6, 3])], 0, 0),
  ([(.iload_n 1, 1, []), (.bipush 62, 2, []), (.if_icmp .ne 29, 3, [11, 2, 7, 3])], 0, 0),
  ([(.aload_n 0, 1, []), (.dup, 1, []), (.getfield 34, 3, [7, 7, 0]), (.iconst 1, 1, []), (.iadd, 1, []), (.putfield 34, 3, [7, 7, 0]), (.iload_n 1, 1, []), (.bipush 60, 2, []), (.if_icmp .ne 9, 3, [9, 0, 8, 0])], 0, 0),
  ([(.sipush 301, 3, []), (.goto 6, 3, [10, 0])], 0, 0),
  ([(.sipush 302, 3, [])], 10, 0),
  ([(.ireturn, 1, [0])], 0, 0),
  ([(.iload_n 1, 1, []), (.ireturn, 1, [0])], 0, 0)]
def z_Tape_takeSign : xMeth := (n_Tape_takeSign, prog_9_method_20_code, 3, some FieldType.int, [0, 31, 45, 49, 50, 55, 61, 67, 83, 89, 92, 93], B_Tape_takeSign, (0, 0))
def n_Tape_isDigit : MethodName := ⟨"RingCouncil$Tape", "isDigit", "(I)Z"⟩
abbrev m_Tape_isDigit : Nat := 65
def B_Tape_isDigit : List xB := [
  ([(.iload_n 0, 1, []), (.bipush 48, 2, []), (.if_icmp .lt 13, 3, [3, 0, 1, 1])], 0, 0),
  ([(.iload_n 0, 1, []), (.bipush 57, 2, []), (.if_icmp .gt 7, 3, [3, 0, 2, 0])], 0, 0),
  ([(.iconst 1, 1, []), (.goto 4, 3, [4, 0])], 0, 0),
  ([(.iconst 0, 1, [])], 4, 0),
  ([(.ireturn, 1, [1])], 0, 0)]
def z_Tape_isDigit : xMeth := (n_Tape_isDigit, prog_9_method_21_code, 1, some FieldType.boolean, [0, 6, 12, 16, 17], B_Tape_isDigit, (0, 0))
def n_Tape_isLetter : MethodName := ⟨"RingCouncil$Tape", "isLetter", "(I)Z"⟩
abbrev m_Tape_isLetter : Nat := 66
def B_Tape_isLetter : List xB := [
  ([(.iload_n 0, 1, []), (.bipush 97, 2, []), (.if_icmp .lt 9, 3, [2, 1, 1, 1])], 0, 0),
  ([(.iload_n 0, 1, []), (.bipush 122, 2, []), (.if_icmp .le 15, 3, [4, 0, 2, 1])], 0, 0),
  ([(.iload_n 0, 1, []), (.bipush 65, 2, []), (.if_icmp .lt 13, 3, [5, 0, 3, 1])], 0, 0),
  ([(.iload_n 0, 1, []), (.bipush 90, 2, []), (.if_icmp .gt 7, 3, [5, 0, 4, 0])], 0, 0),
  ([(.iconst 1, 1, []), (.goto 4, 3, [6, 0])], 0, 0),
  ([(.iconst 0, 1, [])], 6, 0),
  ([(.ireturn, 1, [1])], 0, 0)]
def z_Tape_isLetter : xMeth := (n_Tape_isLetter, prog_9_method_22_code, 1, some FieldType.boolean, [0, 6, 12, 18, 24, 28, 29], B_Tape_isLetter, (0, 0))
def n_Tape_spelling : MethodName := ⟨"RingCouncil$Tape", "spelling", "(I)Ljava/lang/String;"⟩
abbrev m_Tape_spelling : Nat := 67
def B_Tape_spelling : List xB := [
  ([(.iload_n 0, 1, []), (.tableswitch 134 400 416 #[83, 86, 89, 92, 95, 98, 101, 104, 107, 110, 113, 116, 119, 122, 125, 128, 131], 83, [18, 0, 1, 0, 2, 0, 3, 0, 4, 0, 5, 0, 6, 0, 7, 0, 8, 0, 9, 0, 10, 0, 11, 0, 12, 0, 13, 0, 14, 0, 15, 0, 16, 0, 17, 0])], 0, 0),
  ([(.ldc 142, 2, [1000, 0]), (.areturn, 1, [])], 0, 0),
  ([(.ldc 144, 2, [1001, 0]), (.areturn, 1, [])], 0, 0),
  ([(.ldc 146, 2, [1002, 0]), (.areturn, 1, [])], 0, 0),
  ([(.ldc 148, 2, [1003, 0]), (.areturn, 1, [])], 0, 0),
  ([(.ldc 150, 2, [1004, 0]), (.areturn, 1, [])], 0, 0),
  ([(.ldc 152, 2, [1005, 0]), (.areturn, 1, [])], 0, 0),
  ([(.ldc 154, 2, [1006, 0]), (.areturn, 1, [])], 0, 0),
  ([(.ldc 156, 2, [1007, 0]), (.areturn, 1, [])], 0, 0),
  ([(.ldc 158, 2, [1008, 0]), (.areturn, 1, [])], 0, 0),
  ([(.ldc 160, 2, [1009, 0]), (.areturn, 1, [])], 0, 0),
  ([(.ldc 162, 2, [1010, 0]), (.areturn, 1, [])], 0, 0),
  ([(.ldc 164, 2, [1011, 0]), (.areturn, 1, [])], 0, 0),
  ([(.ldc 166, 2, [1012, 0]), (.areturn, 1, [])], 0, 0),
  ([(.ldc 168, 2, [1013, 0]), (.areturn, 1, [])], 0, 0),
  ([(.ldc 170, 2, [1014, 0]), (.areturn, 1, [])], 0, 0),
  ([(.ldc 172, 2, [1015, 0]), (.areturn, 1, [])], 0, 0),
  ([(.ldc 174, 2, [1016, 0]), (.areturn, 1, [])], 0, 0),
  ([(.ldc 176, 2, [1017, 0]), (.areturn, 1, [])], 0, 0)]
def z_Tape_spelling : xMeth := (n_Tape_spelling, prog_9_method_23_code, 1, some (FieldType.object "java/lang/String"), [0, 84, 87, 90, 93, 96, 99, 102, 105, 108, 111, 114, 117, 120, 123, 126, 129, 132, 135], B_Tape_spelling, (0, 0))
def n_Text_init : MethodName := ⟨"RingCouncil$Text", "<init>", "()V"⟩
abbrev m_Text_init : Nat := 68
def B_Text_init : List xB := [
  ([(.aload_n 0, 1, []), (.invokespecial 3, 3, [0]), (.aload_n 0, 1, []), (.sipush 300, 3, []), (.newarray .int, 2, []), (.putfield 9, 3, [8, 0, 3]), (.aload_n 0, 1, []), (.sipush 300, 3, []), (.newarray .int, 2, []), (.putfield 15, 3, [8, 1, 3]), (.aload_n 0, 1, []), (.sipush 300, 3, []), (.newarray .int, 2, []), (.putfield 18, 3, [8, 2, 3]), (.aload_n 0, 1, []), (.sipush 300, 3, []), (.newarray .int, 2, []), (.putfield 21, 3, [8, 3, 3]), (.aload_n 0, 1, []), (.bipush 12, 2, []), (.newarray .int, 2, []), (.putfield 24, 3, [8, 4, 3]), (.aload_n 0, 1, []), (.bipush 12, 2, []), (.newarray .int, 2, []), (.putfield 27, 3, [8, 5, 3]), (.aload_n 0, 1, []), (.bipush 12, 2, []), (.newarray .int, 2, []), (.putfield 30, 3, [8, 6, 3]), (.return_, 1, [])], 0, 0)]
def z_Text_init : xMeth := (n_Text_init, prog_10_method_1_code, 1, none, [0], B_Text_init, (7, 1236))
def n_Text_clear : MethodName := ⟨"RingCouncil$Text", "clear", "()V"⟩
abbrev m_Text_clear : Nat := 69
def B_Text_clear : List xB := [
  ([(.aload_n 0, 1, []), (.iconst 0, 1, []), (.putfield 33, 3, [8, 7, 0]), (.aload_n 0, 1, []), (.iconst 0, 1, []), (.putfield 37, 3, [8, 8, 0]), (.return_, 1, [])], 0, 0)]
def z_Text_clear : xMeth := (n_Text_clear, prog_10_method_2_code, 1, none, [0], B_Text_clear, (0, 0))
def n_Text_add : MethodName := ⟨"RingCouncil$Text", "add", "(IIII)I"⟩
abbrev m_Text_add : Nat := 70
def B_Text_add : List xB := [
  ([(.aload_n 0, 1, []), (.getfield 33, 3, [8, 7, 0]), (.sipush 300, 3, []), (.if_icmp .lt 5, 3, [2, 31, 1, 0])], 0, 0),
  ([(.iconst (-1), 1, []), (.ireturn, 1, [0])], 0, 0),
  ([(.aload_n 0, 1, []), (.getfield 9, 3, [8, 0, 3]), (.aload_n 0, 1, []), (.getfield 33, 3, [8, 7, 0]), (.iload_n 1, 1, []), (.iastore, 1, []), (.aload_n 0, 1, []), (.getfield 15, 3, [8, 1, 3]), (.aload_n 0, 1, []), (.getfield 33, 3, [8, 7, 0]), (.iload_n 2, 1, []), (.iastore, 1, []), (.aload_n 0, 1, []), (.getfield 18, 3, [8, 2, 3]), (.aload_n 0, 1, []), (.getfield 33, 3, [8, 7, 0]), (.iload_n 3, 1, []), (.iastore, 1, []), (.aload_n 0, 1, []), (.getfield 21, 3, [8, 3, 3]), (.aload_n 0, 1, []), (.getfield 33, 3, [8, 7, 0]), (.iload 4, 2, []), (.iastore, 1, []), (.aload_n 0, 1, []), (.dup, 1, []), (.getfield 33, 3, [8, 7, 0]), (.iconst 1, 1, []), (.iadd, 1, []), (.putfield 33, 3, [8, 7, 0]), (.aload_n 0, 1, []), (.getfield 33, 3, [8, 7, 0]), (.iconst 1, 1, []), (.isub, 1, []), (.ireturn, 1, [0])], 0, 0)]
def z_Text_add : xMeth := (n_Text_add, prog_10_method_3_code, 5, some FieldType.int, [0, 10, 12], B_Text_add, (0, 0))
def n_Text_skipFrom : MethodName := ⟨"RingCouncil$Text", "skipFrom", "(II)V"⟩
abbrev m_Text_skipFrom : Nat := 71
def B_Text_skipFrom : List xB := [
  ([(.iload_n 1, 1, []), (.ifCond .lt 18, 3, [3, 0, 1, 7])], 0, 0),
  ([(.iload_n 1, 1, []), (.aload_n 0, 1, []), (.getfield 33, 3, [8, 7, 0]), (.if_icmp .ge 10, 3, [3, 0, 2, 7])], 0, 0),
  ([(.aload_n 0, 1, []), (.getfield 18, 3, [8, 2, 3]), (.iload_n 1, 1, []), (.iload_n 2, 1, []), (.iastore, 1, [])], 3, 0),
  ([(.return_, 1, [])], 0, 0)]
def z_Text_skipFrom : xMeth := (n_Text_skipFrom, prog_10_method_4_code, 3, none, [0, 4, 12, 19], B_Text_skipFrom, (0, 0))
def n_Text_addClause : MethodName := ⟨"RingCouncil$Text", "addClause", "(III)V"⟩
abbrev m_Text_addClause : Nat := 72
def B_Text_addClause : List xB := [
  ([(.aload_n 0, 1, []), (.getfield 37, 3, [8, 8, 0]), (.bipush 12, 2, []), (.if_icmp .ge 43, 3, [2, 0, 1, 15])], 0, 0),
  ([(.aload_n 0, 1, []), (.getfield 24, 3, [8, 4, 3]), (.aload_n 0, 1, []), (.getfield 37, 3, [8, 8, 0]), (.iload_n 1, 1, []), (.iastore, 1, []), (.aload_n 0, 1, []), (.getfield 27, 3, [8, 5, 3]), (.aload_n 0, 1, []), (.getfield 37, 3, [8, 8, 0]), (.iload_n 2, 1, []), (.iastore, 1, []), (.aload_n 0, 1, []), (.getfield 30, 3, [8, 6, 3]), (.aload_n 0, 1, []), (.getfield 37, 3, [8, 8, 0]), (.iload_n 3, 1, []), (.iastore, 1, []), (.aload_n 0, 1, []), (.dup, 1, []), (.getfield 37, 3, [8, 8, 0]), (.iconst 1, 1, []), (.iadd, 1, []), (.putfield 37, 3, [8, 8, 0])], 2, 0),
  ([(.return_, 1, [])], 0, 0)]
def z_Text_addClause : xMeth := (n_Text_addClause, prog_10_method_5_code, 4, none, [0, 9, 49], B_Text_addClause, (0, 0))
def n_Text_clauseOf : MethodName := ⟨"RingCouncil$Text", "clauseOf", "(I)I"⟩
abbrev m_Text_clauseOf : Nat := 73
def B_Text_clauseOf : List xB := [
  ([(.iconst 0, 1, []), (.istore_n 2, 1, [])], 1, 7),
  ([(.iload_n 2, 1, []), (.aload_n 0, 1, []), (.getfield 37, 3, [8, 8, 0]), (.if_icmp .ge 21, 3, [5, 0, 2, 7])], 0, 0),
  ([(.aload_n 0, 1, []), (.getfield 24, 3, [8, 4, 3]), (.iload_n 2, 1, []), (.iaload, 1, []), (.iload_n 1, 1, []), (.if_icmp .ne 5, 3, [4, 7, 3, 4])], 0, 0),
  ([(.iload_n 2, 1, []), (.ireturn, 1, [0])], 0, 0),
  ([(.iinc 2 1, 3, []), (.goto (-23), 3, [1, 7])], 0, 0),
  ([(.iconst (-1), 1, []), (.ireturn, 1, [0])], 0, 0)]
def z_Text_clauseOf : xMeth := (n_Text_clauseOf, prog_10_method_6_code, 3, some FieldType.int, [0, 2, 10, 20, 22, 28], B_Text_clauseOf, (0, 0))
def n_Tries_init : MethodName := ⟨"RingCouncil$Tries", "<init>", "(ILRingCouncil$Hall;)V"⟩
abbrev m_Tries_init : Nat := 74
def B_Tries_init : List xB := [
  ([(.aload_n 0, 1, []), (.invokespecial 3, 3, [0]), (.aload_n 0, 1, []), (.bipush 10, 2, []), (.bipush 40, 2, []), (.multianewarray 9 2, 4, []), (.putfield 11, 3, [9, 4, 3]), (.aload_n 0, 1, []), (.iload_n 1, 1, []), (.putfield 16, 3, [9, 0, 0]), (.aload_n 0, 1, []), (.aload_n 2, 1, []), (.putfield 20, 3, [9, 1, 3]), (.aload_n 0, 1, []), (.new 24, 3, [4, 3, 3, 3, 0, 0]), (.dup, 1, []), (.iload_n 1, 1, []), (.invokespecial 26, 3, [1, 28, 1, 3, 27]), (.putfield 29, 3, [9, 2, 3]), (.aload_n 0, 1, []), (.new 24, 3, [4, 3, 3, 3, 0, 0]), (.dup, 1, []), (.iload_n 1, 1, []), (.invokespecial 26, 3, [1, 28, 1, 3, 27]), (.putfield 33, 3, [9, 3, 3]), (.return_, 1, [])], 0, 0)]
def z_Tries_init : xMeth := (n_Tries_init, prog_11_method_1_code, 3, none, [0], B_Tries_init, (19, 474))
def n_Tries_agreement : MethodName := ⟨"RingCouncil$Tries", "agreement", "(LRingCouncil$Elders;Z)I"⟩
abbrev m_Tries_agreement : Nat := 75
def B_Tries_agreement : List xB := [
  ([(.iconst (-1), 1, []), (.istore_n 3, 1, []), (.iconst (-1), 1, []), (.istore 4, 2, []), (.iconst 0, 1, []), (.istore 5, 2, []), (.aload_n 0, 1, []), (.getfield 29, 3, [9, 2, 3]), (.aload_n 1, 1, []), (.invokevirtual 36, 3, [1, 29, 1, 4, 1]), (.iconst 0, 1, []), (.istore 6, 2, [])], 1, 127),
  ([(.iload 6, 2, []), (.bipush 40, 2, []), (.if_icmp .gt 68, 3, [7, 28, 2, 127])], 0, 0),
  ([(.iload 5, 2, []), (.aload_n 0, 1, []), (.getfield 29, 3, [9, 2, 3]), (.invokevirtual 40, 3, [1, 31, 0, 4, 0]), (.iadd, 1, []), (.istore 5, 2, []), (.aload_n 0, 1, []), (.getfield 20, 3, [9, 1, 3]), (.aload_n 1, 1, []), (.aload_n 0, 1, []), (.getfield 29, 3, [9, 2, 3]), (.invokevirtual 44, 3, [1, 20, 2, 2, 0]), (.ifCond .ne 11, 3, [4, 127, 3, 103])], 0, 0),
  ([(.iconst (-1), 1, []), (.istore_n 3, 1, []), (.iconst (-1), 1, []), (.istore 4, 2, []), (.goto 15, 3, [6, 127])], 0, 0),
  ([(.iload_n 3, 1, []), (.iconst (-1), 1, []), (.if_icmp .ne 10, 3, [6, 127, 5, 103])], 0, 0),
  ([(.iload 6, 2, []), (.istore_n 3, 1, []), (.iload 5, 2, []), (.istore 4, 2, [])], 6, 127),
  ([(.aload_n 0, 1, []), (.getfield 20, 3, [9, 1, 3]), (.aload_n 1, 1, []), (.aload_n 0, 1, []), (.getfield 29, 3, [9, 2, 3]), (.invokevirtual 50, 3, [1, 15, 2, 2, 1]), (.iinc 6 1, 3, []), (.goto (-69), 3, [1, 127])], 0, 0),
  ([(.iload_n 2, 1, []), (.ifCond .eq 8, 3, [9, 8, 8, 16])], 0, 0),
  ([(.iload 4, 2, []), (.goto 4, 3, [10, 0])], 0, 0),
  ([(.iload_n 3, 1, [])], 10, 0),
  ([(.ireturn, 1, [0])], 0, 0)]
def z_Tries_agreement : xMeth := (n_Tries_agreement, prog_11_method_2_code, 7, some FieldType.int, [0, 19, 26, 53, 61, 66, 73, 91, 95, 100, 101], B_Tries_agreement, (0, 0))
def n_Tries_slipsTo : MethodName := ⟨"RingCouncil$Tries", "slipsTo", "(LRingCouncil$Elders;IIII)I"⟩
abbrev m_Tries_slipsTo : Nat := 76
def B_Tries_slipsTo : List xB := [
  ([(.iconst 0, 1, []), (.istore 6, 2, []), (.aload_n 0, 1, []), (.getfield 29, 3, [9, 2, 3]), (.aload_n 1, 1, []), (.invokevirtual 36, 3, [1, 29, 1, 4, 1]), (.iconst 0, 1, []), (.istore 7, 2, [])], 1, 255),
  ([(.iload 7, 2, []), (.iload_n 2, 1, []), (.if_icmp .ge 130, 3, [15, 96, 2, 255])], 0, 0),
  ([(.aload_n 0, 1, []), (.getfield 20, 3, [9, 1, 3]), (.aload_n 1, 1, []), (.aload_n 0, 1, []), (.getfield 29, 3, [9, 2, 3]), (.invokevirtual 50, 3, [1, 15, 2, 2, 1]), (.iconst 0, 1, []), (.istore 8, 2, [])], 3, 511),
  ([(.iload 8, 2, []), (.iconst 2, 1, []), (.aload_n 0, 1, []), (.getfield 16, 3, [9, 0, 0]), (.imul, 1, []), (.if_icmp .ge 98, 3, [14, 255, 4, 511])], 0, 0),
  ([(.aload_n 0, 1, []), (.iload 8, 2, []), (.invokevirtual 54, 3, [1, 77, 1, 9, 0]), (.ifCond .ne 6, 3, [6, 511, 5, 511])], 0, 0),
  ([(.goto 80, 3, [13, 511])], 0, 0),
  ([(.iload 7, 2, []), (.iconst 1, 1, []), (.iadd, 1, []), (.istore 9, 2, [])], 7, 1023),
  ([(.iload 9, 2, []), (.iload_n 2, 1, []), (.if_icmp .ge 21, 3, [9, 511, 8, 1023])], 0, 0),
  ([(.aload_n 0, 1, []), (.getfield 20, 3, [9, 1, 3]), (.aload_n 1, 1, []), (.aload_n 0, 1, []), (.getfield 33, 3, [9, 3, 3]), (.invokevirtual 50, 3, [1, 15, 2, 2, 1]), (.iinc 9 1, 3, []), (.goto (-21), 3, [7, 1023])], 0, 0),
  ([(.aload_n 0, 1, []), (.getfield 20, 3, [9, 1, 3]), (.aload_n 1, 1, []), (.aload_n 0, 1, []), (.getfield 33, 3, [9, 3, 3]), (.iload_n 3, 1, []), (.invokevirtual 58, 3, [1, 19, 3, 2, 0]), (.iload 4, 2, []), (.if_icmp .ne 32, 3, [13, 511, 10, 511])], 0, 0),
  ([(.iload 6, 2, []), (.iload 5, 2, []), (.if_icmp .ne 22, 3, [12, 511, 11, 384])], 0, 0),
  ([(.bipush 100, 2, []), (.iload 7, 2, []), (.imul, 1, []), (.bipush 10, 2, []), (.iload 8, 2, []), (.iconst 2, 1, []), (.idiv, 1, []), (.imul, 1, []), (.iadd, 1, []), (.iload 8, 2, []), (.iconst 2, 1, []), (.irem, 1, []), (.iadd, 1, []), (.ireturn, 1, [0])], 0, 0),
  ([(.iinc 6 1, 3, [])], 13, 511),
  ([(.iinc 8 1, 3, []), (.goto (-103), 3, [3, 511])], 0, 0),
  ([(.iinc 7 1, 3, []), (.goto (-130), 3, [1, 255])], 0, 0),
  ([(.iload 5, 2, []), (.iconst (-1), 1, []), (.if_icmp .ne 8, 3, [17, 0, 16, 64])], 0, 0),
  ([(.iload 6, 2, []), (.goto 4, 3, [18, 0])], 0, 0),
  ([(.iconst (-1), 1, [])], 18, 0),
  ([(.ireturn, 1, [0])], 0, 0)]
def z_Tries_slipsTo : xMeth := (n_Tries_slipsTo, prog_11_method_3_code, 10, some FieldType.int, [0, 14, 20, 35, 46, 55, 58, 64, 70, 88, 106, 113, 132, 135, 141, 147, 153, 158, 159], B_Tries_slipsTo, (0, 0))
def n_Tries_slip : MethodName := ⟨"RingCouncil$Tries", "slip", "(I)Z"⟩
abbrev m_Tries_slip : Nat := 77
def B_Tries_slip : List xB := [
  ([(.iload_n 1, 1, []), (.iconst 2, 1, []), (.idiv, 1, []), (.istore_n 2, 1, []), (.iload_n 1, 1, []), (.iconst 2, 1, []), (.irem, 1, []), (.ifCond .ne 7, 3, [2, 5, 1, 5])], 0, 0),
  ([(.iconst 1, 1, []), (.goto 4, 3, [3, 5])], 0, 0),
  ([(.iconst 0, 1, [])], 3, 5),
  ([(.istore_n 3, 1, []), (.iload_n 3, 1, []), (.ifCond .eq 14, 3, [5, 13, 4, 13])], 0, 0),
  ([(.aload_n 0, 1, []), (.getfield 20, 3, [9, 1, 3]), (.iload_n 2, 1, []), (.invokevirtual 62, 3, [1, 13, 1, 2, 0]), (.goto 11, 3, [6, 9])], 0, 0),
  ([(.aload_n 0, 1, []), (.getfield 20, 3, [9, 1, 3]), (.iload_n 2, 1, []), (.invokevirtual 66, 3, [1, 14, 1, 2, 0])], 6, 9),
  ([(.istore 4, 2, []), (.iload_n 3, 1, []), (.ifCond .eq 16, 3, [8, 25, 7, 25])], 0, 0),
  ([(.aload_n 0, 1, []), (.getfield 29, 3, [9, 2, 3]), (.getfield 69, 3, [4, 2, 3]), (.iload 4, 2, []), (.iaload, 1, []), (.goto 13, 3, [9, 25])], 0, 0),
  ([(.aload_n 0, 1, []), (.getfield 29, 3, [9, 2, 3]), (.getfield 73, 3, [4, 1, 3]), (.iload 4, 2, []), (.iaload, 1, [])], 9, 25),
  ([(.istore 5, 2, []), (.iload 5, 2, []), (.iconst (-1), 1, []), (.if_icmp .ne 5, 3, [11, 57, 10, 0])], 0, 0),
  ([(.iconst 0, 1, []), (.ireturn, 1, [1])], 0, 0),
  ([(.iload 5, 2, []), (.bipush 99, 2, []), (.if_icmp .ge 10, 3, [13, 25, 12, 57])], 0, 0),
  ([(.iload 5, 2, []), (.iconst 1, 1, []), (.iadd, 1, []), (.goto 4, 3, [14, 25])], 0, 0),
  ([(.iconst 0, 1, [])], 14, 25),
  ([(.istore 6, 2, []), (.aload_n 0, 1, []), (.getfield 33, 3, [9, 3, 3]), (.aload_n 0, 1, []), (.getfield 29, 3, [9, 2, 3]), (.invokevirtual 76, 3, [1, 30, 1, 4, 1]), (.iload_n 3, 1, []), (.ifCond .eq 18, 3, [16, 81, 15, 81])], 0, 0),
  ([(.aload_n 0, 1, []), (.getfield 33, 3, [9, 3, 3]), (.getfield 69, 3, [4, 2, 3]), (.iload 4, 2, []), (.iload 6, 2, []), (.iastore, 1, []), (.goto 15, 3, [17, 0])], 0, 0),
  ([(.aload_n 0, 1, []), (.getfield 33, 3, [9, 3, 3]), (.getfield 73, 3, [4, 1, 3]), (.iload 4, 2, []), (.iload 6, 2, []), (.iastore, 1, [])], 17, 0),
  ([(.iconst 1, 1, []), (.ireturn, 1, [1])], 0, 0)]
def z_Tries_slip : xMeth := (n_Tries_slip, prog_11_method_4_code, 7, some FieldType.boolean, [0, 10, 14, 15, 20, 31, 39, 45, 58, 68, 76, 78, 85, 92, 93, 110, 125, 137], B_Tries_slip, (0, 0))
def n_Tries_unlikeRows : MethodName := ⟨"RingCouncil$Tries", "unlikeRows", "(LRingCouncil$Elders;III)I"⟩
abbrev m_Tries_unlikeRows : Nat := 78
def B_Tries_unlikeRows : List xB := [
  ([(.iconst 0, 1, []), (.istore 5, 2, []), (.iconst 0, 1, []), (.istore 6, 2, [])], 1, 127),
  ([(.iload 6, 2, []), (.bipush 9, 2, []), (.if_icmp .gt 101, 3, [13, 32, 2, 127])], 0, 0),
  ([(.aload_n 1, 1, []), (.getfield 80, 3, [0, 1, 3]), (.iload 4, 2, []), (.iload 6, 2, []), (.iastore, 1, []), (.aload_n 0, 1, []), (.aload_n 1, 1, []), (.iload_n 2, 1, []), (.iload_n 3, 1, []), (.aload_n 0, 1, []), (.getfield 11, 3, [9, 4, 3]), (.iload 6, 2, []), (.aaload, 1, []), (.invokevirtual 85, 3, [1, 79, 4, 9, 1]), (.iconst 1, 1, []), (.istore 7, 2, []), (.iconst 0, 1, []), (.istore 8, 2, [])], 3, 511),
  ([(.iload 8, 2, []), (.iload 6, 2, []), (.if_icmp .ge 44, 3, [9, 255, 4, 511])], 0, 0),
  ([(.iload 7, 2, []), (.ifCond .eq 39, 3, [9, 255, 5, 383])], 0, 0),
  ([(.aload_n 0, 1, []), (.getfield 11, 3, [9, 4, 3]), (.iload 6, 2, []), (.aaload, 1, []), (.aload_n 0, 1, []), (.getfield 11, 3, [9, 4, 3]), (.iload 8, 2, []), (.aaload, 1, []), (.iconst 2, 1, []), (.iload_n 3, 1, []), (.imul, 1, []), (.invokestatic 89, 3, [1, 80, 3, 0]), (.ifCond .ne 7, 3, [7, 383, 6, 383])], 0, 0),
  ([(.iconst 1, 1, []), (.goto 4, 3, [8, 383])], 0, 0),
  ([(.iconst 0, 1, [])], 8, 383),
  ([(.istore 7, 2, []), (.iinc 8 1, 3, []), (.goto (-45), 3, [3, 511])], 0, 0),
  ([(.iload 5, 2, []), (.iload 7, 2, []), (.ifCond .eq 7, 3, [11, 95, 10, 95])], 0, 0),
  ([(.iconst 1, 1, []), (.goto 4, 3, [12, 95])], 0, 0),
  ([(.iconst 0, 1, [])], 12, 95),
  ([(.iadd, 1, []), (.istore 5, 2, []), (.iinc 6 1, 3, []), (.goto (-102), 3, [1, 127])], 0, 0),
  ([(.iload 5, 2, []), (.ireturn, 1, [0])], 0, 0)]
def z_Tries_unlikeRows : xMeth := (n_Tries_unlikeRows, prog_11_method_5_code, 9, some FieldType.int, [0, 6, 13, 42, 49, 54, 77, 81, 82, 90, 97, 101, 102, 111], B_Tries_unlikeRows, (0, 0))
def n_Tries_watch : MethodName := ⟨"RingCouncil$Tries", "watch", "(LRingCouncil$Elders;II[I)V"⟩
abbrev m_Tries_watch : Nat := 79
def B_Tries_watch : List xB := [
  ([(.aload_n 0, 1, []), (.getfield 29, 3, [9, 2, 3]), (.aload_n 1, 1, []), (.invokevirtual 36, 3, [1, 29, 1, 4, 1]), (.iconst 0, 1, []), (.istore 5, 2, [])], 1, 63),
  ([(.iload 5, 2, []), (.iload_n 3, 1, []), (.if_icmp .ge 62, 3, [3, 0, 2, 63])], 0, 0),
  ([(.aload_n 0, 1, []), (.getfield 20, 3, [9, 1, 3]), (.aload_n 1, 1, []), (.aload_n 0, 1, []), (.getfield 29, 3, [9, 2, 3]), (.invokevirtual 50, 3, [1, 15, 2, 2, 1]), (.aload 4, 2, []), (.iconst 2, 1, []), (.iload 5, 2, []), (.imul, 1, []), (.aload_n 0, 1, []), (.getfield 29, 3, [9, 2, 3]), (.getfield 69, 3, [4, 2, 3]), (.iload_n 2, 1, []), (.iaload, 1, []), (.iastore, 1, []), (.aload 4, 2, []), (.iconst 2, 1, []), (.iload 5, 2, []), (.imul, 1, []), (.iconst 1, 1, []), (.iadd, 1, []), (.aload_n 0, 1, []), (.getfield 29, 3, [9, 2, 3]), (.getfield 73, 3, [4, 1, 3]), (.aload_n 0, 1, []), (.getfield 20, 3, [9, 1, 3]), (.iload_n 2, 1, []), (.invokevirtual 66, 3, [1, 14, 1, 2, 0]), (.iaload, 1, []), (.iastore, 1, []), (.iinc 5 1, 3, []), (.goto (-62), 3, [1, 63])], 0, 0),
  ([(.return_, 1, [])], 0, 0)]
def z_Tries_watch : xMeth := (n_Tries_watch, prog_11_method_6_code, 6, none, [0, 11, 17, 76], B_Tries_watch, (0, 0))
def n_Tries_isSameRow : MethodName := ⟨"RingCouncil$Tries", "isSameRow", "([I[II)Z"⟩
abbrev m_Tries_isSameRow : Nat := 80
def B_Tries_isSameRow : List xB := [
  ([(.iconst 0, 1, []), (.istore_n 3, 1, [])], 1, 15),
  ([(.iload_n 3, 1, []), (.iload_n 2, 1, []), (.if_icmp .ge 20, 3, [5, 0, 2, 15])], 0, 0),
  ([(.aload_n 0, 1, []), (.iload_n 3, 1, []), (.iaload, 1, []), (.aload_n 1, 1, []), (.iload_n 3, 1, []), (.iaload, 1, []), (.if_icmp .eq 5, 3, [4, 15, 3, 0])], 0, 0),
  ([(.iconst 0, 1, []), (.ireturn, 1, [1])], 0, 0),
  ([(.iinc 3 1, 3, []), (.goto (-19), 3, [1, 15])], 0, 0),
  ([(.iconst 1, 1, []), (.ireturn, 1, [1])], 0, 0)]
def z_Tries_isSameRow : xMeth := (n_Tries_isSameRow, prog_11_method_7_code, 4, some FieldType.boolean, [0, 2, 7, 16, 18, 24], B_Tries_isSameRow, (0, 0))
def n_Whole_init : MethodName := ⟨"RingCouncil$Whole", "<init>", "(I)V"⟩
abbrev m_Whole_init : Nat := 81
def B_Whole_init : List xB := [
  ([(.aload_n 0, 1, []), (.invokespecial 1, 3, [0]), (.aload_n 0, 1, []), (.new 7, 3, [0, 3, 3, 3, 3, 3, 3, 3, 0]), (.dup, 1, []), (.iload_n 1, 1, []), (.invokespecial 9, 3, [1, 0, 1, 7, 154]), (.putfield 12, 3, [10, 0, 3]), (.aload_n 0, 1, []), (.new 18, 3, [4, 3, 3, 3, 0, 0]), (.dup, 1, []), (.iload_n 1, 1, []), (.invokespecial 20, 3, [1, 28, 1, 3, 27]), (.putfield 21, 3, [10, 1, 3]), (.aload_n 0, 1, []), (.new 25, 3, [5, 3, 0, 0]), (.dup, 1, []), (.iload_n 1, 1, []), (.invokespecial 27, 3, [1, 32, 1, 161, 1320]), (.putfield 28, 3, [10, 2, 3]), (.aload_n 0, 1, []), (.new 32, 3, [3, 3, 3, 0, 0]), (.dup, 1, []), (.invokespecial 34, 3, [2, 24, 0, 2, 16]), (.putfield 35, 3, [10, 3, 3]), (.return_, 1, [])], 0, 0)]
def z_Whole_init : xMeth := (n_Whole_init, prog_12_method_1_code, 2, none, [0], B_Whole_init, (177, 1537))
def n_Whole_copyFrom : MethodName := ⟨"RingCouncil$Whole", "copyFrom", "(LRingCouncil$Whole;)V"⟩
abbrev m_Whole_copyFrom : Nat := 82
def B_Whole_copyFrom : List xB := [
  ([(.aload_n 0, 1, []), (.getfield 12, 3, [10, 0, 3]), (.aload_n 1, 1, []), (.getfield 12, 3, [10, 0, 3]), (.invokevirtual 39, 3, [1, 1, 1, 0, 1]), (.aload_n 0, 1, []), (.getfield 21, 3, [10, 1, 3]), (.aload_n 1, 1, []), (.getfield 21, 3, [10, 1, 3]), (.invokevirtual 43, 3, [1, 30, 1, 4, 1]), (.aload_n 0, 1, []), (.getfield 28, 3, [10, 2, 3]), (.aload_n 1, 1, []), (.getfield 28, 3, [10, 2, 3]), (.invokevirtual 46, 3, [1, 35, 1, 5, 1]), (.aload_n 0, 1, []), (.getfield 35, 3, [10, 3, 3]), (.aload_n 1, 1, []), (.getfield 35, 3, [10, 3, 3]), (.invokevirtual 49, 3, [1, 27, 1, 3, 1]), (.aload_n 0, 1, []), (.aload_n 1, 1, []), (.getfield 52, 3, [10, 4, 0]), (.putfield 52, 3, [10, 4, 0]), (.return_, 1, [])], 0, 0)]
def z_Whole_copyFrom : xMeth := (n_Whole_copyFrom, prog_12_method_2_code, 2, none, [0], B_Whole_copyFrom, (0, 0))
def n_C_init : MethodName := ⟨"RingCouncil", "<init>", "(I)V"⟩
abbrev m_C_init : Nat := 83
def B_C_init : List xB := [
  ([(.aload_n 0, 1, []), (.invokespecial 1, 3, [0]), (.aload_n 0, 1, []), (.iload_n 1, 1, []), (.iconst 3, 1, []), (.bipush 9, 2, []), (.invokestatic 9, 3, [1, 115, 3, 0]), (.putfield 13, 3, [11, 0, 0]), (.aload_n 0, 1, []), (.iconst 4, 1, []), (.anewarray 17, 3, [4]), (.putfield 19, 3, [11, 1, 3]), (.iconst 0, 1, []), (.istore_n 2, 1, [])], 1, 5),
  ([(.iload_n 2, 1, []), (.iconst 4, 1, []), (.if_icmp .ge 22, 3, [3, 1, 2, 5])], 0, 0),
  ([(.aload_n 0, 1, []), (.getfield 19, 3, [11, 1, 3]), (.iload_n 2, 1, []), (.new 17, 3, [8, 3, 3, 3, 3, 3, 3, 3, 0, 0]), (.dup, 1, []), (.invokespecial 23, 3, [2, 68, 0, 7, 1236]), (.aastore, 1, []), (.iinc 2 1, 3, []), (.goto (-21), 3, [1, 5])], 0, 0),
  ([(.aload_n 0, 1, []), (.new 24, 3, [7, 3, 0, 0, 0, 3, 0, 0, 0, 0]), (.dup, 1, []), (.invokespecial 26, 3, [2, 45, 0, 1, 300]), (.putfield 27, 3, [11, 2, 3]), (.aload_n 0, 1, []), (.new 31, 3, [2, 0, 3, 3, 3, 3, 3, 3]), (.dup, 1, []), (.aload_n 0, 1, []), (.getfield 13, 3, [11, 0, 0]), (.aload_n 0, 1, []), (.getfield 19, 3, [11, 1, 3]), (.invokespecial 33, 3, [1, 12, 2, 5, 336]), (.putfield 36, 3, [11, 3, 3]), (.aload_n 0, 1, []), (.new 40, 3, [9, 0, 3, 3, 3, 3]), (.dup, 1, []), (.aload_n 0, 1, []), (.getfield 13, 3, [11, 0, 0]), (.aload_n 0, 1, []), (.getfield 36, 3, [11, 3, 3]), (.invokespecial 42, 3, [1, 74, 2, 19, 474]), (.putfield 45, 3, [11, 4, 3]), (.aload_n 0, 1, []), (.new 49, 3, [6, 3, 3, 3, 3, 3, 3, 3, 3, 3, 3, 0, 0, 0]), (.dup, 1, []), (.aload_n 0, 1, []), (.getfield 13, 3, [11, 0, 0]), (.aload_n 0, 1, []), (.getfield 36, 3, [11, 3, 3]), (.invokespecial 51, 3, [1, 36, 2, 45, 115444]), (.putfield 52, 3, [11, 5, 3]), (.aload_n 0, 1, []), (.new 56, 3, [0, 3, 3, 3, 3, 3, 3, 3, 0]), (.dup, 1, []), (.aload_n 0, 1, []), (.getfield 13, 3, [11, 0, 0]), (.invokespecial 58, 3, [1, 0, 1, 7, 154]), (.putfield 61, 3, [11, 6, 3]), (.aload_n 0, 1, []), (.new 65, 3, [3, 3, 3, 0, 0]), (.dup, 1, []), (.invokespecial 67, 3, [2, 24, 0, 2, 16]), (.putfield 68, 3, [11, 7, 3]), (.aload_n 0, 1, []), (.new 72, 3, [10, 3, 3, 3, 3, 0]), (.dup, 1, []), (.aload_n 0, 1, []), (.getfield 13, 3, [11, 0, 0]), (.invokespecial 74, 3, [1, 81, 1, 177, 1537]), (.putfield 75, 3, [11, 8, 3]), (.aload_n 0, 1, []), (.new 72, 3, [10, 3, 3, 3, 3, 0]), (.dup, 1, []), (.aload_n 0, 1, []), (.getfield 13, 3, [11, 0, 0]), (.invokespecial 74, 3, [1, 81, 1, 177, 1537]), (.putfield 79, 3, [11, 9, 3]), (.aload_n 0, 1, []), (.iconst (-1), 1, []), (.putfield 82, 3, [11, 10, 0]), (.aload_n 0, 1, []), (.iconst (-1), 1, []), (.putfield 85, 3, [11, 11, 0]), (.return_, 1, [])], 0, 0)]
def z_C_init : xMeth := (n_C_init, prog_1_method_1_code, 3, none, [0, 25, 30, 49], B_C_init, (474, 124838))
def n_C_elder : MethodName := ⟨"RingCouncil", "elder", "(III)Z"⟩
abbrev m_C_elder : Nat := 84
def B_C_elder : List xB := [
  ([(.aload_n 0, 1, []), (.iload_n 1, 1, []), (.invokevirtual 88, 3, [1, 110, 1, 11, 0]), (.ifCond .eq 22, 3, [3, 0, 1, 15])], 0, 0),
  ([(.iload_n 2, 1, []), (.iconst 0, 1, []), (.iconst 2, 1, []), (.invokestatic 92, 3, [1, 114, 3, 0]), (.ifCond .eq 13, 3, [3, 0, 2, 15])], 0, 0),
  ([(.iload_n 3, 1, []), (.iconst 0, 1, []), (.bipush 9, 2, []), (.invokestatic 92, 3, [1, 114, 3, 0]), (.ifCond .ne 5, 3, [4, 15, 3, 0])], 0, 0),
  ([(.iconst 0, 1, []), (.ireturn, 1, [1])], 0, 0),
  ([(.aload_n 0, 1, []), (.getfield 75, 3, [11, 8, 3]), (.getfield 96, 3, [10, 0, 3]), (.getfield 99, 3, [0, 0, 3]), (.iload_n 1, 1, []), (.iload_n 2, 1, []), (.iastore, 1, []), (.aload_n 0, 1, []), (.getfield 75, 3, [11, 8, 3]), (.getfield 96, 3, [10, 0, 3]), (.getfield 103, 3, [0, 1, 3]), (.iload_n 1, 1, []), (.iload_n 3, 1, []), (.iastore, 1, []), (.iconst 1, 1, []), (.ireturn, 1, [1])], 0, 0)]
def z_C_elder : xMeth := (n_C_elder, prog_1_method_2_code, 4, some FieldType.boolean, [0, 8, 17, 27, 29], B_C_elder, (0, 0))
def n_C_stuck : MethodName := ⟨"RingCouncil", "stuck", "(IZ)Z"⟩
abbrev m_C_stuck : Nat := 85
def B_C_stuck : List xB := [
  ([(.aload_n 0, 1, []), (.iload_n 1, 1, []), (.invokevirtual 88, 3, [1, 110, 1, 11, 0]), (.ifCond .ne 5, 3, [2, 7, 1, 0])], 0, 0),
  ([(.iconst 0, 1, []), (.ireturn, 1, [1])], 0, 0),
  ([(.aload_n 0, 1, []), (.getfield 75, 3, [11, 8, 3]), (.getfield 96, 3, [10, 0, 3]), (.getfield 106, 3, [0, 5, 3]), (.iload_n 1, 1, []), (.iload_n 2, 1, []), (.bastore, 1, []), (.iconst 1, 1, []), (.ireturn, 1, [1])], 0, 0)]
def z_C_stuck : xMeth := (n_C_stuck, prog_1_method_3_code, 3, some FieldType.boolean, [0, 8, 10], B_C_stuck, (0, 0))
def n_C_lies : MethodName := ⟨"RingCouncil", "lies", "(IIIZ)Z"⟩
abbrev m_C_lies : Nat := 86
def B_C_lies : List xB := [
  ([(.aload_n 0, 1, []), (.iload_n 1, 1, []), (.invokevirtual 88, 3, [1, 110, 1, 11, 0]), (.ifCond .eq 17, 3, [3, 0, 1, 31])], 0, 0),
  ([(.iload_n 2, 1, []), (.invokestatic 110, 3, [1, 113, 1, 0]), (.ifCond .eq 10, 3, [3, 0, 2, 31])], 0, 0),
  ([(.iload_n 3, 1, []), (.invokestatic 110, 3, [1, 113, 1, 0]), (.ifCond .ne 5, 3, [4, 31, 3, 0])], 0, 0),
  ([(.iconst 0, 1, []), (.ireturn, 1, [1])], 0, 0),
  ([(.aload_n 0, 1, []), (.getfield 75, 3, [11, 8, 3]), (.getfield 96, 3, [10, 0, 3]), (.getfield 113, 3, [0, 2, 3]), (.iload_n 1, 1, []), (.iload_n 2, 1, []), (.iastore, 1, []), (.aload_n 0, 1, []), (.getfield 75, 3, [11, 8, 3]), (.getfield 96, 3, [10, 0, 3]), (.getfield 116, 3, [0, 3, 3]), (.iload_n 1, 1, []), (.iload_n 3, 1, []), (.iastore, 1, []), (.aload_n 0, 1, []), (.getfield 75, 3, [11, 8, 3]), (.getfield 96, 3, [10, 0, 3]), (.getfield 119, 3, [0, 4, 3]), (.iload_n 1, 1, []), (.iload 4, 2, []), (.bastore, 1, []), (.iconst 1, 1, []), (.ireturn, 1, [1])], 0, 0)]
def z_C_lies : xMeth := (n_C_lies, prog_1_method_4_code, 5, some FieldType.boolean, [0, 8, 15, 22, 24], B_C_lies, (0, 0))
def n_C_bar : MethodName := ⟨"RingCouncil", "bar", "(IZ)Z"⟩
abbrev m_C_bar : Nat := 87
def B_C_bar : List xB := [
  ([(.iload_n 1, 1, []), (.iconst 0, 1, []), (.bipush 99, 2, []), (.invokestatic 92, 3, [1, 114, 3, 0]), (.ifCond .ne 5, 3, [2, 7, 1, 0])], 0, 0),
  ([(.iconst 0, 1, []), (.ireturn, 1, [1])], 0, 0),
  ([(.aload_n 0, 1, []), (.getfield 75, 3, [11, 8, 3]), (.getfield 96, 3, [10, 0, 3]), (.getfield 122, 3, [0, 6, 3]), (.iload_n 1, 1, []), (.iload_n 2, 1, []), (.bastore, 1, []), (.iconst 1, 1, []), (.ireturn, 1, [1])], 0, 0)]
def z_C_bar : xMeth := (n_C_bar, prog_1_method_5_code, 3, some FieldType.boolean, [0, 10, 12], B_C_bar, (0, 0))
def n_C_feed : MethodName := ⟨"RingCouncil", "feed", "(IIIII)I"⟩
abbrev m_C_feed : Nat := 88
def B_C_feed : List xB := [
  ([(.aload_n 0, 1, []), (.getfield 27, 3, [11, 2, 3]), (.getfield 125, 3, [7, 1, 0]), (.bipush 20, 2, []), (.iadd, 1, []), (.sipush 300, 3, []), (.if_icmp .le 5, 3, [2, 63, 1, 0])], 0, 0),
  ([(.iconst (-1), 1, []), (.ireturn, 1, [0])], 0, 0),
  ([(.aload_n 0, 1, []), (.getfield 27, 3, [11, 2, 3]), (.iload_n 1, 1, []), (.invokevirtual 128, 3, [1, 46, 1, 7, 1]), (.aload_n 0, 1, []), (.getfield 27, 3, [11, 2, 3]), (.iload_n 2, 1, []), (.invokevirtual 128, 3, [1, 46, 1, 7, 1]), (.aload_n 0, 1, []), (.getfield 27, 3, [11, 2, 3]), (.iload_n 3, 1, []), (.invokevirtual 128, 3, [1, 46, 1, 7, 1]), (.aload_n 0, 1, []), (.getfield 27, 3, [11, 2, 3]), (.iload 4, 2, []), (.invokevirtual 128, 3, [1, 46, 1, 7, 1]), (.aload_n 0, 1, []), (.getfield 27, 3, [11, 2, 3]), (.iload 5, 2, []), (.invokevirtual 128, 3, [1, 46, 1, 7, 1]), (.aload_n 0, 1, []), (.getfield 27, 3, [11, 2, 3]), (.getfield 125, 3, [7, 1, 0]), (.ireturn, 1, [0])], 0, 0)]
def z_C_feed : xMeth := (n_C_feed, prog_1_method_6_code, 6, some FieldType.int, [0, 16, 18], B_C_feed, (0, 0))
def n_C_end : MethodName := ⟨"RingCouncil", "end", "(I)I"⟩
abbrev m_C_end : Nat := 89
def B_C_end : List xB := [
  ([(.iload_n 1, 1, []), (.ifCond .lt 14, 3, [2, 0, 1, 3])], 0, 0),
  ([(.iload_n 1, 1, []), (.aload_n 0, 1, []), (.getfield 27, 3, [11, 2, 3]), (.getfield 125, 3, [7, 1, 0]), (.if_icmp .le 5, 3, [3, 3, 2, 0])], 0, 0),
  ([(.iconst (-1), 1, []), (.ireturn, 1, [0])], 0, 0),
  ([(.aload_n 0, 1, []), (.getfield 27, 3, [11, 2, 3]), (.iload_n 1, 1, []), (.putfield 125, 3, [7, 1, 0]), (.iload_n 1, 1, []), (.ireturn, 1, [0])], 0, 0)]
def z_C_end : xMeth := (n_C_end, prog_1_method_7_code, 2, some FieldType.int, [0, 4, 15, 17], B_C_end, (0, 0))
def n_C_text : MethodName := ⟨"RingCouncil", "text", "()I"⟩
abbrev m_C_text : Nat := 90
def B_C_text : List xB := [
  ([(.aload_n 0, 1, []), (.getfield 75, 3, [11, 8, 3]), (.getfield 131, 3, [10, 4, 0]), (.istore_n 1, 1, []), (.iload_n 1, 1, []), (.iconst 0, 1, []), (.iconst 3, 1, []), (.invokestatic 92, 3, [1, 114, 3, 0]), (.ifCond .ne 5, 3, [2, 3, 1, 0])], 0, 0),
  ([(.iconst (-1), 1, []), (.ireturn, 1, [0])], 0, 0),
  ([(.aload_n 0, 1, []), (.getfield 27, 3, [11, 2, 3]), (.aload_n 0, 1, []), (.getfield 19, 3, [11, 1, 3]), (.iload_n 1, 1, []), (.aaload, 1, []), (.invokevirtual 133, 3, [1, 47, 1, 7, 0]), (.istore_n 2, 1, []), (.aload_n 0, 1, []), (.aload_n 0, 1, []), (.getfield 27, 3, [11, 2, 3]), (.getfield 137, 3, [7, 2, 0]), (.putfield 82, 3, [11, 10, 0]), (.aload_n 0, 1, []), (.aload_n 0, 1, []), (.getfield 27, 3, [11, 2, 3]), (.getfield 140, 3, [7, 3, 0]), (.putfield 85, 3, [11, 11, 0]), (.aload_n 0, 1, []), (.getfield 27, 3, [11, 2, 3]), (.iconst 0, 1, []), (.putfield 125, 3, [7, 1, 0]), (.iload_n 2, 1, []), (.ifCond .ne 5, 3, [4, 3, 3, 0])], 0, 0),
  ([(.iconst (-1), 1, []), (.ireturn, 1, [0])], 0, 0),
  ([(.aload_n 0, 1, []), (.getfield 75, 3, [11, 8, 3]), (.iload_n 1, 1, []), (.iconst 1, 1, []), (.iadd, 1, []), (.putfield 131, 3, [10, 4, 0]), (.iload_n 1, 1, []), (.ireturn, 1, [0])], 0, 0)]
def z_C_text : xMeth := (n_C_text, prog_1_method_8_code, 3, some FieldType.int, [0, 17, 19, 67, 69], B_C_text, (0, 0))
def n_C_fault : MethodName := ⟨"RingCouncil", "fault", "(I)I"⟩
abbrev m_C_fault : Nat := 91
def B_C_fault : List xB := [
  ([(.iload_n 1, 1, []), (.ifCond .ne 8, 3, [2, 3, 1, 1])], 0, 0),
  ([(.aload_n 0, 1, []), (.getfield 82, 3, [11, 10, 0]), (.ireturn, 1, [0])], 0, 0),
  ([(.iload_n 1, 1, []), (.iconst 1, 1, []), (.if_icmp .ne 10, 3, [4, 0, 3, 1])], 0, 0),
  ([(.aload_n 0, 1, []), (.getfield 85, 3, [11, 11, 0]), (.goto 4, 3, [5, 0])], 0, 0),
  ([(.iconst (-1), 1, [])], 5, 0),
  ([(.ireturn, 1, [0])], 0, 0)]
def z_C_fault : xMeth := (n_C_fault, prog_1_method_9_code, 2, some FieldType.int, [0, 4, 9, 14, 21, 22], B_C_fault, (0, 0))
def n_C_by : MethodName := ⟨"RingCouncil", "by", "(I)Z"⟩
abbrev m_C_by : Nat := 92
def B_C_by : List xB := [
  ([(.iload_n 1, 1, []), (.iconst (-1), 1, []), (.aload_n 0, 1, []), (.getfield 75, 3, [11, 8, 3]), (.getfield 131, 3, [10, 4, 0]), (.iconst 1, 1, []), (.isub, 1, []), (.invokestatic 92, 3, [1, 114, 3, 0]), (.ifCond .ne 5, 3, [2, 3, 1, 0])], 0, 0),
  ([(.iconst 0, 1, []), (.ireturn, 1, [1])], 0, 0),
  ([(.aload_n 0, 1, []), (.getfield 75, 3, [11, 8, 3]), (.getfield 96, 3, [10, 0, 3]), (.iload_n 1, 1, []), (.putfield 143, 3, [0, 7, 0]), (.iconst 1, 1, []), (.ireturn, 1, [1])], 0, 0)]
def z_C_by : xMeth := (n_C_by, prog_1_method_10_code, 2, some FieldType.boolean, [0, 17, 19], B_C_by, (0, 0))
def n_C_start : MethodName := ⟨"RingCouncil", "start", "()I"⟩
abbrev m_C_start : Nat := 93
def B_C_start : List xB := [
  ([(.aload_n 0, 1, []), (.getfield 75, 3, [11, 8, 3]), (.getfield 146, 3, [10, 1, 3]), (.getfield 150, 3, [4, 4, 0]), (.istore_n 1, 1, []), (.aload_n 0, 1, []), (.getfield 75, 3, [11, 8, 3]), (.getfield 146, 3, [10, 1, 3]), (.aload_n 0, 1, []), (.getfield 75, 3, [11, 8, 3]), (.getfield 96, 3, [10, 0, 3]), (.invokevirtual 155, 3, [1, 29, 1, 4, 1]), (.aload_n 0, 1, []), (.getfield 75, 3, [11, 8, 3]), (.getfield 159, 3, [10, 2, 3]), (.iconst 0, 1, []), (.putfield 163, 3, [5, 2, 0]), (.iload_n 1, 1, []), (.ireturn, 1, [0])], 0, 0)]
def z_C_start : xMeth := (n_C_start, prog_1_method_11_code, 2, some FieldType.int, [0], B_C_start, (0, 0))
def n_C_hours : MethodName := ⟨"RingCouncil", "hours", "(I)I"⟩
abbrev m_C_hours : Nat := 94
def B_C_hours : List xB := [
  ([(.iload_n 1, 1, []), (.iconst 1, 1, []), (.bipush 99, 2, []), (.invokestatic 92, 3, [1, 114, 3, 0]), (.ifCond .eq 21, 3, [2, 0, 1, 3])], 0, 0),
  ([(.aload_n 0, 1, []), (.getfield 75, 3, [11, 8, 3]), (.getfield 146, 3, [10, 1, 3]), (.getfield 150, 3, [4, 4, 0]), (.iload_n 1, 1, []), (.iadd, 1, []), (.sipush 999, 3, []), (.if_icmp .le 5, 3, [3, 3, 2, 0])], 0, 0),
  ([(.iconst (-1), 1, []), (.ireturn, 1, [0])], 0, 0),
  ([(.iconst 0, 1, []), (.istore_n 2, 1, [])], 4, 7),
  ([(.iload_n 2, 1, []), (.iload_n 1, 1, []), (.if_icmp .ge 47, 3, [6, 1, 5, 7])], 0, 0),
  ([(.aload_n 0, 1, []), (.getfield 75, 3, [11, 8, 3]), (.getfield 159, 3, [10, 2, 3]), (.aload_n 0, 1, []), (.getfield 75, 3, [11, 8, 3]), (.getfield 146, 3, [10, 1, 3]), (.invokevirtual 168, 3, [1, 33, 1, 5, 1]), (.aload_n 0, 1, []), (.getfield 36, 3, [11, 3, 3]), (.aload_n 0, 1, []), (.getfield 75, 3, [11, 8, 3]), (.getfield 96, 3, [10, 0, 3]), (.aload_n 0, 1, []), (.getfield 75, 3, [11, 8, 3]), (.getfield 146, 3, [10, 1, 3]), (.invokevirtual 172, 3, [1, 15, 2, 2, 1]), (.iinc 2 1, 3, []), (.goto (-46), 3, [4, 7])], 0, 0),
  ([(.aload_n 0, 1, []), (.getfield 75, 3, [11, 8, 3]), (.getfield 146, 3, [10, 1, 3]), (.getfield 150, 3, [4, 4, 0]), (.ireturn, 1, [0])], 0, 0)]
def z_C_hours : xMeth := (n_C_hours, prog_1_method_12_code, 3, some FieldType.int, [0, 10, 28, 30, 32, 37, 81], B_C_hours, (0, 0))
def n_C_undo : MethodName := ⟨"RingCouncil", "undo", "()I"⟩
abbrev m_C_undo : Nat := 95
def B_C_undo : List xB := [
  ([(.aload_n 0, 1, []), (.getfield 75, 3, [11, 8, 3]), (.getfield 159, 3, [10, 2, 3]), (.aload_n 0, 1, []), (.getfield 75, 3, [11, 8, 3]), (.getfield 146, 3, [10, 1, 3]), (.invokevirtual 176, 3, [1, 34, 1, 5, 0]), (.ifCond .eq 16, 3, [2, 0, 1, 1])], 0, 0),
  ([(.aload_n 0, 1, []), (.getfield 75, 3, [11, 8, 3]), (.getfield 146, 3, [10, 1, 3]), (.getfield 150, 3, [4, 4, 0]), (.goto 4, 3, [3, 0])], 0, 0),
  ([(.iconst (-1), 1, [])], 3, 0),
  ([(.ireturn, 1, [0])], 0, 0)]
def z_C_undo : xMeth := (n_C_undo, prog_1_method_13_code, 1, some FieldType.int, [0, 20, 33, 34], B_C_undo, (0, 0))
def n_C_of : MethodName := ⟨"RingCouncil", "of", "(II)I"⟩
abbrev m_C_of : Nat := 96
def B_C_of : List xB := [
  ([(.aload_n 0, 1, []), (.iload_n 1, 1, []), (.invokevirtual 88, 3, [1, 110, 1, 11, 0]), (.ifCond .ne 6, 3, [2, 7, 1, 0])], 0, 0),
  ([(.bipush (-2), 2, []), (.ireturn, 1, [0])], 0, 0),
  ([(.iload_n 2, 1, []), (.tableswitch 153 0 6 #[44, 57, 70, 83, 106, 119, 132], 44, [13, 0, 3, 3, 4, 3, 5, 3, 6, 3, 7, 3, 8, 3, 9, 3])], 0, 0),
  ([(.aload_n 0, 1, []), (.getfield 75, 3, [11, 8, 3]), (.getfield 146, 3, [10, 1, 3]), (.getfield 180, 3, [4, 0, 3]), (.iload_n 1, 1, []), (.iaload, 1, []), (.ireturn, 1, [0])], 0, 0),
  ([(.aload_n 0, 1, []), (.getfield 75, 3, [11, 8, 3]), (.getfield 146, 3, [10, 1, 3]), (.getfield 183, 3, [4, 1, 3]), (.iload_n 1, 1, []), (.iaload, 1, []), (.ireturn, 1, [0])], 0, 0),
  ([(.aload_n 0, 1, []), (.getfield 75, 3, [11, 8, 3]), (.getfield 146, 3, [10, 1, 3]), (.getfield 186, 3, [4, 2, 3]), (.iload_n 1, 1, []), (.iaload, 1, []), (.ireturn, 1, [0])], 0, 0),
  ([(.aload_n 0, 1, []), (.getfield 36, 3, [11, 3, 3]), (.aload_n 0, 1, []), (.getfield 75, 3, [11, 8, 3]), (.getfield 96, 3, [10, 0, 3]), (.aload_n 0, 1, []), (.getfield 75, 3, [11, 8, 3]), (.getfield 146, 3, [10, 1, 3]), (.iload_n 1, 1, []), (.invokevirtual 189, 3, [1, 19, 3, 2, 0]), (.ireturn, 1, [0])], 0, 0),
  ([(.aload_n 0, 1, []), (.getfield 75, 3, [11, 8, 3]), (.getfield 96, 3, [10, 0, 3]), (.getfield 99, 3, [0, 0, 3]), (.iload_n 1, 1, []), (.iaload, 1, []), (.ireturn, 1, [0])], 0, 0),
  ([(.aload_n 0, 1, []), (.getfield 75, 3, [11, 8, 3]), (.getfield 96, 3, [10, 0, 3]), (.getfield 103, 3, [0, 1, 3]), (.iload_n 1, 1, []), (.iaload, 1, []), (.ireturn, 1, [0])], 0, 0),
  ([(.aload_n 0, 1, []), (.getfield 75, 3, [11, 8, 3]), (.getfield 96, 3, [10, 0, 3]), (.getfield 106, 3, [0, 5, 3]), (.iload_n 1, 1, []), (.baload, 1, []), (.ifCond .eq 7, 3, [11, 0, 10, 0])], 0, 0),
  ([(.iconst 1, 1, []), (.goto 4, 3, [12, 0])], 0, 0),
  ([(.iconst 0, 1, [])], 12, 0),
  ([(.ireturn, 1, [0])], 0, 0),
  ([(.bipush (-2), 2, []), (.ireturn, 1, [0])], 0, 0)]
def z_C_of : xMeth := (n_C_of, prog_1_method_14_code, 3, some FieldType.int, [0, 8, 11, 56, 69, 82, 95, 118, 131, 144, 159, 163, 164, 165], B_C_of, (0, 0))
def n_C_agree : MethodName := ⟨"RingCouncil", "agree", "()Z"⟩
abbrev m_C_agree : Nat := 97
def B_C_agree : List xB := [
  ([(.aload_n 0, 1, []), (.getfield 36, 3, [11, 3, 3]), (.aload_n 0, 1, []), (.getfield 75, 3, [11, 8, 3]), (.getfield 96, 3, [10, 0, 3]), (.aload_n 0, 1, []), (.getfield 75, 3, [11, 8, 3]), (.getfield 146, 3, [10, 1, 3]), (.invokevirtual 193, 3, [1, 20, 2, 2, 0]), (.ireturn, 1, [1])], 0, 0)]
def z_C_agree : xMeth := (n_C_agree, prog_1_method_15_code, 1, some FieldType.boolean, [0], B_C_agree, (0, 0))
def n_C_agrees : MethodName := ⟨"RingCouncil", "agrees", "(I)I"⟩
abbrev m_C_agrees : Nat := 98
def B_C_agrees : List xB := [
  ([(.iload_n 1, 1, []), (.iconst 0, 1, []), (.iconst 1, 1, []), (.invokestatic 92, 3, [1, 114, 3, 0]), (.ifCond .ne 5, 3, [2, 3, 1, 0])], 0, 0),
  ([(.iconst (-1), 1, []), (.ireturn, 1, [0])], 0, 0),
  ([(.aload_n 0, 1, []), (.getfield 45, 3, [11, 4, 3]), (.aload_n 0, 1, []), (.getfield 75, 3, [11, 8, 3]), (.getfield 96, 3, [10, 0, 3]), (.iload_n 1, 1, []), (.iconst 1, 1, []), (.if_icmp .ne 7, 3, [4, 0, 3, 0])], 0, 0),
  ([(.iconst 1, 1, []), (.goto 4, 3, [5, 0])], 0, 0),
  ([(.iconst 0, 1, [])], 5, 0),
  ([(.invokevirtual 197, 3, [1, 75, 2, 9, 0]), (.ireturn, 1, [0])], 0, 0)]
def z_C_agrees : xMeth := (n_C_agrees, prog_1_method_16_code, 2, some FieldType.int, [0, 9, 11, 27, 31, 32], B_C_agrees, (0, 0))
def n_C_holds : MethodName := ⟨"RingCouncil", "holds", "(II)I"⟩
abbrev m_C_holds : Nat := 99
def B_C_holds : List xB := [
  ([(.aload_n 0, 1, []), (.iload_n 1, 1, []), (.iload_n 2, 1, []), (.invokevirtual 201, 3, [1, 111, 2, 11, 0]), (.ifCond .ne 5, 3, [2, 7, 1, 0])], 0, 0),
  ([(.iconst (-1), 1, []), (.ireturn, 1, [0])], 0, 0),
  ([(.aload_n 0, 1, []), (.getfield 52, 3, [11, 5, 3]), (.aload_n 0, 1, []), (.getfield 75, 3, [11, 8, 3]), (.getfield 96, 3, [10, 0, 3]), (.iload_n 1, 1, []), (.iload_n 2, 1, []), (.aload_n 0, 1, []), (.getfield 68, 3, [11, 7, 3]), (.invokevirtual 205, 3, [1, 37, 4, 6, 0]), (.ifCond .ne 6, 3, [4, 3, 3, 0])], 0, 0),
  ([(.bipush (-2), 2, []), (.ireturn, 1, [0])], 0, 0),
  ([(.aload_n 0, 1, []), (.getfield 52, 3, [11, 5, 3]), (.aload_n 0, 1, []), (.getfield 75, 3, [11, 8, 3]), (.getfield 96, 3, [10, 0, 3]), (.iload_n 1, 1, []), (.invokevirtual 209, 3, [1, 43, 2, 6, 0]), (.iconst (-1), 1, []), (.if_icmp .ne 7, 3, [6, 0, 5, 0])], 0, 0),
  ([(.iconst 1, 1, []), (.goto 4, 3, [7, 0])], 0, 0),
  ([(.iconst 0, 1, [])], 7, 0),
  ([(.ireturn, 1, [0])], 0, 0)]
def z_C_holds : xMeth := (n_C_holds, prog_1_method_17_code, 3, some FieldType.int, [0, 9, 11, 34, 37, 56, 60, 61], B_C_holds, (0, 0))
def n_C_states : MethodName := ⟨"RingCouncil", "states", "(II)I"⟩
abbrev m_C_states : Nat := 100
def B_C_states : List xB := [
  ([(.aload_n 0, 1, []), (.iload_n 1, 1, []), (.iload_n 2, 1, []), (.invokevirtual 201, 3, [1, 111, 2, 11, 0]), (.ifCond .ne 5, 3, [2, 7, 1, 0])], 0, 0),
  ([(.iconst (-1), 1, []), (.ireturn, 1, [0])], 0, 0),
  ([(.aload_n 0, 1, []), (.getfield 52, 3, [11, 5, 3]), (.aload_n 0, 1, []), (.getfield 75, 3, [11, 8, 3]), (.getfield 96, 3, [10, 0, 3]), (.iload_n 1, 1, []), (.iload_n 2, 1, []), (.aload_n 0, 1, []), (.getfield 68, 3, [11, 7, 3]), (.invokevirtual 205, 3, [1, 37, 4, 6, 0]), (.ifCond .eq 16, 3, [4, 0, 3, 1])], 0, 0),
  ([(.aload_n 0, 1, []), (.getfield 52, 3, [11, 5, 3]), (.getfield 213, 3, [6, 0, 3]), (.getfield 217, 3, [1, 5, 0]), (.goto 5, 3, [5, 0])], 0, 0),
  ([(.bipush (-2), 2, [])], 5, 0),
  ([(.ireturn, 1, [0])], 0, 0)]
def z_C_states : xMeth := (n_C_states, prog_1_method_18_code, 3, some FieldType.int, [0, 9, 11, 34, 47, 49], B_C_states, (0, 0))
def n_C_bad : MethodName := ⟨"RingCouncil", "bad", "(IIIII)I"⟩
abbrev m_C_bad : Nat := 101
def B_C_bad : List xB := [
  ([(.aload_n 0, 1, []), (.iload_n 1, 1, []), (.iload_n 2, 1, []), (.invokevirtual 201, 3, [1, 111, 2, 11, 0]), (.ifCond .eq 24, 3, [3, 0, 1, 63])], 0, 0),
  ([(.iload_n 3, 1, []), (.iconst 0, 1, []), (.iload_n 1, 1, []), (.iconst 1, 1, []), (.isub, 1, []), (.invokestatic 92, 3, [1, 114, 3, 0]), (.ifCond .eq 13, 3, [3, 0, 2, 63])], 0, 0),
  ([(.iload 5, 2, []), (.iconst 0, 1, []), (.iconst 2, 1, []), (.invokestatic 92, 3, [1, 114, 3, 0]), (.ifCond .ne 6, 3, [4, 63, 3, 0])], 0, 0),
  ([(.bipush (-3), 2, []), (.ireturn, 1, [0])], 0, 0),
  ([(.iload 4, 2, []), (.iconst 0, 1, []), (.aload_n 0, 1, []), (.getfield 75, 3, [11, 8, 3]), (.getfield 96, 3, [10, 0, 3]), (.invokevirtual 220, 3, [1, 2, 0, 0, 0]), (.iconst 1, 1, []), (.isub, 1, []), (.invokestatic 92, 3, [1, 114, 3, 0]), (.ifCond .ne 6, 3, [6, 63, 5, 0])], 0, 0),
  ([(.bipush (-3), 2, []), (.ireturn, 1, [0])], 0, 0),
  ([(.aload_n 0, 1, []), (.getfield 52, 3, [11, 5, 3]), (.aload_n 0, 1, []), (.getfield 75, 3, [11, 8, 3]), (.getfield 96, 3, [10, 0, 3]), (.iload_n 1, 1, []), (.iload_n 2, 1, []), (.aload_n 0, 1, []), (.getfield 68, 3, [11, 7, 3]), (.invokevirtual 205, 3, [1, 37, 4, 6, 0]), (.ifCond .ne 6, 3, [8, 59, 7, 0])], 0, 0),
  ([(.bipush (-2), 2, []), (.ireturn, 1, [0])], 0, 0),
  ([(.aload_n 0, 1, []), (.getfield 52, 3, [11, 5, 3]), (.aload_n 0, 1, []), (.getfield 75, 3, [11, 8, 3]), (.getfield 96, 3, [10, 0, 3]), (.iload_n 1, 1, []), (.invokevirtual 209, 3, [1, 43, 2, 6, 0]), (.istore 6, 2, []), (.iload 6, 2, []), (.iconst (-1), 1, []), (.if_icmp .ne 8, 3, [10, 123, 9, 0])], 0, 0),
  ([(.bipush (-3), 2, []), (.goto 18, 3, [11, 0])], 0, 0),
  ([(.aload_n 0, 1, []), (.getfield 52, 3, [11, 5, 3]), (.iload_n 1, 1, []), (.iload 6, 2, []), (.iload_n 3, 1, []), (.iload 4, 2, []), (.iload 5, 2, []), (.invokevirtual 224, 3, [1, 44, 5, 6, 0])], 11, 0),
  ([(.ireturn, 1, [0])], 0, 0)]
def z_C_bad : xMeth := (n_C_bad, prog_1_method_19_code, 7, some FieldType.int, [0, 9, 20, 30, 33, 54, 57, 80, 83, 106, 111, 126], B_C_bad, (0, 0))
def n_C_told : MethodName := ⟨"RingCouncil", "told", "(III)I"⟩
abbrev m_C_told : Nat := 102
def B_C_told : List xB := [
  ([(.aload_n 0, 1, []), (.iload_n 1, 1, []), (.invokevirtual 88, 3, [1, 110, 1, 11, 0]), (.ifCond .eq 17, 3, [3, 0, 1, 15])], 0, 0),
  ([(.iload_n 2, 1, []), (.invokestatic 110, 3, [1, 113, 1, 0]), (.ifCond .eq 10, 3, [3, 0, 2, 15])], 0, 0),
  ([(.iload_n 3, 1, []), (.invokestatic 110, 3, [1, 113, 1, 0]), (.ifCond .ne 5, 3, [4, 15, 3, 0])], 0, 0),
  ([(.iconst (-1), 1, []), (.ireturn, 1, [0])], 0, 0),
  ([(.aload_n 0, 1, []), (.getfield 75, 3, [11, 8, 3]), (.getfield 228, 3, [10, 3, 3]), (.iload_n 1, 1, []), (.iload_n 2, 1, []), (.iload_n 3, 1, []), (.invokevirtual 231, 3, [1, 25, 3, 3, 0]), (.ifCond .eq 16, 3, [6, 0, 5, 1])], 0, 0),
  ([(.aload_n 0, 1, []), (.getfield 75, 3, [11, 8, 3]), (.getfield 228, 3, [10, 3, 3]), (.getfield 234, 3, [3, 3, 0]), (.goto 4, 3, [7, 0])], 0, 0),
  ([(.iconst (-1), 1, [])], 7, 0),
  ([(.ireturn, 1, [0])], 0, 0)]
def z_C_told : xMeth := (n_C_told, prog_1_method_20_code, 4, some FieldType.int, [0, 8, 15, 22, 24, 40, 53, 54], B_C_told, (0, 0))
def n_C_forget : MethodName := ⟨"RingCouncil", "forget", "()I"⟩
abbrev m_C_forget : Nat := 103
def B_C_forget : List xB := [
  ([(.aload_n 0, 1, []), (.getfield 75, 3, [11, 8, 3]), (.getfield 228, 3, [10, 3, 3]), (.getfield 234, 3, [3, 3, 0]), (.istore_n 1, 1, []), (.aload_n 0, 1, []), (.getfield 75, 3, [11, 8, 3]), (.getfield 228, 3, [10, 3, 3]), (.iconst 0, 1, []), (.putfield 234, 3, [3, 3, 0]), (.iload_n 1, 1, []), (.ireturn, 1, [0])], 0, 0)]
def z_C_forget : xMeth := (n_C_forget, prog_1_method_21_code, 2, some FieldType.int, [0], B_C_forget, (0, 0))
def n_C_suspects : MethodName := ⟨"RingCouncil", "suspects", "(I)I"⟩
abbrev m_C_suspects : Nat := 104
def B_C_suspects : List xB := [
  ([(.iload_n 1, 1, []), (.iconst 0, 1, []), (.iconst 2, 1, []), (.invokestatic 92, 3, [1, 114, 3, 0]), (.ifCond .eq 16, 3, [2, 0, 1, 3])], 0, 0),
  ([(.aload_n 0, 1, []), (.getfield 75, 3, [11, 8, 3]), (.getfield 228, 3, [10, 3, 3]), (.getfield 234, 3, [3, 3, 0]), (.ifCond .ne 5, 3, [3, 3, 2, 0])], 0, 0),
  ([(.iconst (-1), 1, []), (.ireturn, 1, [0])], 0, 0),
  ([(.aload_n 0, 1, []), (.getfield 61, 3, [11, 6, 3]), (.aload_n 0, 1, []), (.getfield 75, 3, [11, 8, 3]), (.getfield 96, 3, [10, 0, 3]), (.invokevirtual 235, 3, [1, 1, 1, 0, 1]), (.aload_n 0, 1, []), (.getfield 61, 3, [11, 6, 3]), (.invokevirtual 238, 3, [1, 4, 0, 0, 1]), (.aload_n 0, 1, []), (.iload_n 1, 1, []), (.invokevirtual 241, 3, [1, 112, 1, 11, 0]), (.ifCond .eq 9, 3, [5, 3, 4, 3])], 0, 0),
  ([(.sipush 512, 3, []), (.goto 4, 3, [6, 3])], 0, 0),
  ([(.iconst 0, 1, [])], 6, 3),
  ([(.istore_n 2, 1, []), (.iconst 0, 1, []), (.istore_n 3, 1, [])], 7, 15),
  ([(.iload_n 3, 1, []), (.aload_n 0, 1, []), (.getfield 13, 3, [11, 0, 0]), (.if_icmp .ge 72, 3, [14, 4, 8, 15])], 0, 0),
  ([(.iload_n 3, 1, []), (.aload_n 0, 1, []), (.getfield 75, 3, [11, 8, 3]), (.getfield 228, 3, [10, 3, 3]), (.getfield 244, 3, [3, 2, 0]), (.if_icmp .ne 6, 3, [10, 15, 9, 15])], 0, 0),
  ([(.goto 49, 3, [13, 15])], 0, 0),
  ([(.aload_n 0, 1, []), (.getfield 61, 3, [11, 6, 3]), (.getfield 99, 3, [0, 0, 3]), (.iload_n 3, 1, []), (.iaload, 1, []), (.istore 4, 2, []), (.aload_n 0, 1, []), (.getfield 61, 3, [11, 6, 3]), (.getfield 99, 3, [0, 0, 3]), (.iload_n 3, 1, []), (.iconst 1, 1, []), (.iastore, 1, []), (.aload_n 0, 1, []), (.iload_n 1, 1, []), (.invokevirtual 241, 3, [1, 112, 1, 11, 0]), (.ifCond .eq 9, 3, [12, 31, 11, 31])], 0, 0),
  ([(.iload_n 2, 1, []), (.iconst 1, 1, []), (.iload_n 3, 1, []), (.ishl, 1, []), (.ior, 1, []), (.istore_n 2, 1, [])], 12, 31),
  ([(.aload_n 0, 1, []), (.getfield 61, 3, [11, 6, 3]), (.getfield 99, 3, [0, 0, 3]), (.iload_n 3, 1, []), (.iload 4, 2, []), (.iastore, 1, [])], 13, 15),
  ([(.iinc 3 1, 3, []), (.goto (-74), 3, [7, 15])], 0, 0),
  ([(.iload_n 2, 1, []), (.ireturn, 1, [0])], 0, 0)]
def z_C_suspects : xMeth := (n_C_suspects, prog_1_method_22_code, 5, some FieldType.int, [0, 9, 22, 24, 53, 59, 60, 63, 71, 85, 88, 117, 123, 134, 140], B_C_suspects, (0, 0))
def n_C_slips : MethodName := ⟨"RingCouncil", "slips", "(IIII)I"⟩
abbrev m_C_slips : Nat := 105
def B_C_slips : List xB := [
  ([(.iload_n 1, 1, []), (.iconst 1, 1, []), (.bipush 20, 2, []), (.invokestatic 92, 3, [1, 114, 3, 0]), (.ifCond .eq 27, 3, [4, 0, 1, 31])], 0, 0),
  ([(.aload_n 0, 1, []), (.iload_n 2, 1, []), (.invokevirtual 88, 3, [1, 110, 1, 11, 0]), (.ifCond .eq 19, 3, [4, 0, 2, 31])], 0, 0),
  ([(.iload_n 3, 1, []), (.iconst 0, 1, []), (.bipush 9, 2, []), (.invokestatic 92, 3, [1, 114, 3, 0]), (.ifCond .eq 9, 3, [4, 0, 3, 31])], 0, 0),
  ([(.iload 4, 2, []), (.iconst (-1), 1, []), (.if_icmp .ge 5, 3, [5, 31, 4, 0])], 0, 0),
  ([(.iconst (-1), 1, []), (.ireturn, 1, [0])], 0, 0),
  ([(.aload_n 0, 1, []), (.getfield 45, 3, [11, 4, 3]), (.aload_n 0, 1, []), (.getfield 75, 3, [11, 8, 3]), (.getfield 96, 3, [10, 0, 3]), (.iload_n 1, 1, []), (.iload_n 2, 1, []), (.iload_n 3, 1, []), (.iload 4, 2, []), (.invokevirtual 247, 3, [1, 76, 5, 9, 0]), (.ireturn, 1, [0])], 0, 0)]
def z_C_slips : xMeth := (n_C_slips, prog_1_method_23_code, 5, some FieldType.int, [0, 10, 18, 28, 34, 36], B_C_slips, (0, 0))
def n_C_learns : MethodName := ⟨"RingCouncil", "learns", "(III)I"⟩
abbrev m_C_learns : Nat := 106
def B_C_learns : List xB := [
  ([(.aload_n 0, 1, []), (.iload_n 1, 1, []), (.invokevirtual 88, 3, [1, 110, 1, 11, 0]), (.ifCond .eq 21, 3, [3, 0, 1, 15])], 0, 0),
  ([(.iload_n 2, 1, []), (.iconst 0, 1, []), (.bipush 20, 2, []), (.invokestatic 92, 3, [1, 114, 3, 0]), (.ifCond .eq 11, 3, [3, 0, 2, 15])], 0, 0),
  ([(.aload_n 0, 1, []), (.iload_n 3, 1, []), (.invokevirtual 88, 3, [1, 110, 1, 11, 0]), (.ifCond .ne 5, 3, [4, 15, 3, 0])], 0, 0),
  ([(.iconst (-1), 1, []), (.ireturn, 1, [0])], 0, 0),
  ([(.aload_n 0, 1, []), (.getfield 61, 3, [11, 6, 3]), (.aload_n 0, 1, []), (.getfield 75, 3, [11, 8, 3]), (.getfield 96, 3, [10, 0, 3]), (.invokevirtual 235, 3, [1, 1, 1, 0, 1]), (.aload_n 0, 1, []), (.getfield 45, 3, [11, 4, 3]), (.aload_n 0, 1, []), (.getfield 61, 3, [11, 6, 3]), (.iload_n 1, 1, []), (.iload_n 2, 1, []), (.iload_n 3, 1, []), (.invokevirtual 251, 3, [1, 78, 4, 9, 0]), (.ireturn, 1, [0])], 0, 0)]
def z_C_learns : xMeth := (n_C_learns, prog_1_method_24_code, 4, some FieldType.int, [0, 8, 18, 26, 28], B_C_learns, (0, 0))
def n_C_image : MethodName := ⟨"RingCouncil", "image", "()I"⟩
abbrev m_C_image : Nat := 107
def B_C_image : List xB := [
  ([(.aload_n 0, 1, []), (.getfield 79, 3, [11, 9, 3]), (.aload_n 0, 1, []), (.getfield 75, 3, [11, 8, 3]), (.invokevirtual 255, 3, [1, 82, 1, 10, 1]), (.aload_n 0, 1, []), (.getfield 75, 3, [11, 8, 3]), (.getfield 146, 3, [10, 1, 3]), (.getfield 150, 3, [4, 4, 0]), (.ireturn, 1, [0])], 0, 0)]
def z_C_image : xMeth := (n_C_image, prog_1_method_25_code, 1, some FieldType.int, [0], B_C_image, (0, 0))
def n_C_back : MethodName := ⟨"RingCouncil", "back", "()I"⟩
abbrev m_C_back : Nat := 108
def B_C_back : List xB := [
  ([(.aload_n 0, 1, []), (.getfield 75, 3, [11, 8, 3]), (.aload_n 0, 1, []), (.getfield 79, 3, [11, 9, 3]), (.invokevirtual 255, 3, [1, 82, 1, 10, 1]), (.aload_n 0, 1, []), (.getfield 75, 3, [11, 8, 3]), (.getfield 146, 3, [10, 1, 3]), (.getfield 150, 3, [4, 4, 0]), (.ireturn, 1, [0])], 0, 0)]
def z_C_back : xMeth := (n_C_back, prog_1_method_26_code, 1, some FieldType.int, [0], B_C_back, (0, 0))
def n_C_about : MethodName := ⟨"RingCouncil", "about", "(I)I"⟩
abbrev m_C_about : Nat := 109
def B_C_about : List xB := [
  ([(.iload_n 1, 1, []), (.tableswitch 170 0 9 #[55, 60, 71, 82, 90, 101, 112, 123, 151, 159], 55, [14, 0, 1, 1, 2, 1, 3, 1, 4, 1, 5, 1, 6, 1, 7, 1, 8, 1, 12, 1, 13, 1])], 0, 0),
  ([(.aload_n 0, 1, []), (.getfield 13, 3, [11, 0, 0]), (.ireturn, 1, [0])], 0, 0),
  ([(.aload_n 0, 1, []), (.getfield 75, 3, [11, 8, 3]), (.getfield 146, 3, [10, 1, 3]), (.getfield 150, 3, [4, 4, 0]), (.ireturn, 1, [0])], 0, 0),
  ([(.aload_n 0, 1, []), (.getfield 75, 3, [11, 8, 3]), (.getfield 146, 3, [10, 1, 3]), (.getfield 258, 3, [4, 3, 0]), (.ireturn, 1, [0])], 0, 0),
  ([(.aload_n 0, 1, []), (.getfield 75, 3, [11, 8, 3]), (.getfield 131, 3, [10, 4, 0]), (.ireturn, 1, [0])], 0, 0),
  ([(.aload_n 0, 1, []), (.getfield 75, 3, [11, 8, 3]), (.getfield 96, 3, [10, 0, 3]), (.getfield 143, 3, [0, 7, 0]), (.ireturn, 1, [0])], 0, 0),
  ([(.aload_n 0, 1, []), (.getfield 75, 3, [11, 8, 3]), (.getfield 159, 3, [10, 2, 3]), (.getfield 163, 3, [5, 2, 0]), (.ireturn, 1, [0])], 0, 0),
  ([(.aload_n 0, 1, []), (.getfield 75, 3, [11, 8, 3]), (.getfield 228, 3, [10, 3, 3]), (.getfield 234, 3, [3, 3, 0]), (.ireturn, 1, [0])], 0, 0),
  ([(.aload_n 0, 1, []), (.getfield 75, 3, [11, 8, 3]), (.getfield 228, 3, [10, 3, 3]), (.getfield 234, 3, [3, 3, 0]), (.ifCond .ne 7, 3, [10, 1, 9, 0])], 0, 0),
  ([(.iconst (-1), 1, []), (.goto 13, 3, [11, 0])], 0, 0),
  ([(.aload_n 0, 1, []), (.getfield 75, 3, [11, 8, 3]), (.getfield 228, 3, [10, 3, 3]), (.getfield 244, 3, [3, 2, 0])], 11, 0),
  ([(.ireturn, 1, [0])], 0, 0),
  ([(.aload_n 0, 1, []), (.getfield 27, 3, [11, 2, 3]), (.getfield 125, 3, [7, 1, 0]), (.ireturn, 1, [0])], 0, 0),
  ([(.aload_n 0, 1, []), (.getfield 75, 3, [11, 8, 3]), (.getfield 96, 3, [10, 0, 3]), (.invokevirtual 261, 3, [1, 3, 0, 0, 0]), (.ireturn, 1, [0])], 0, 0),
  ([(.bipush (-2), 2, []), (.ireturn, 1, [0])], 0, 0)]
def z_C_about : xMeth := (n_C_about, prog_1_method_27_code, 2, some FieldType.int, [0, 56, 61, 72, 83, 91, 102, 113, 124, 137, 141, 151, 152, 160, 171], B_C_about, (0, 0))
def n_C_isRoom : MethodName := ⟨"RingCouncil", "isRoom", "(I)Z"⟩
abbrev m_C_isRoom : Nat := 110
def B_C_isRoom : List xB := [
  ([(.iload_n 1, 1, []), (.ifCond .lt 15, 3, [3, 0, 1, 3])], 0, 0),
  ([(.iload_n 1, 1, []), (.aload_n 0, 1, []), (.getfield 13, 3, [11, 0, 0]), (.if_icmp .ge 7, 3, [3, 0, 2, 0])], 0, 0),
  ([(.iconst 1, 1, []), (.goto 4, 3, [4, 0])], 0, 0),
  ([(.iconst 0, 1, [])], 4, 0),
  ([(.ireturn, 1, [1])], 0, 0)]
def z_C_isRoom : xMeth := (n_C_isRoom, prog_1_method_28_code, 2, some FieldType.boolean, [0, 4, 12, 16, 17], B_C_isRoom, (0, 0))
def n_C_isRunAsked : MethodName := ⟨"RingCouncil", "isRunAsked", "(II)Z"⟩
abbrev m_C_isRunAsked : Nat := 111
def B_C_isRunAsked : List xB := [
  ([(.iload_n 1, 1, []), (.iconst 0, 1, []), (.bipush 6, 2, []), (.invokestatic 92, 3, [1, 114, 3, 0]), (.ifCond .eq 30, 3, [4, 0, 1, 5])], 0, 0),
  ([(.iload_n 2, 1, []), (.iconst 0, 1, []), (.iconst 2, 1, []), (.invokestatic 92, 3, [1, 114, 3, 0]), (.ifCond .eq 21, 3, [4, 0, 2, 1])], 0, 0),
  ([(.aload_n 0, 1, []), (.getfield 75, 3, [11, 8, 3]), (.getfield 96, 3, [10, 0, 3]), (.invokevirtual 220, 3, [1, 2, 0, 0, 0]), (.iconst 2, 1, []), (.if_icmp .gt 7, 3, [4, 0, 3, 0])], 0, 0),
  ([(.iconst 1, 1, []), (.goto 4, 3, [5, 0])], 0, 0),
  ([(.iconst 0, 1, [])], 5, 0),
  ([(.ireturn, 1, [1])], 0, 0)]
def z_C_isRunAsked : xMeth := (n_C_isRunAsked, prog_1_method_29_code, 3, some FieldType.boolean, [0, 10, 19, 33, 37, 38], B_C_isRunAsked, (0, 0))
def n_C_canBeHeard : MethodName := ⟨"RingCouncil", "canBeHeard", "(I)Z"⟩
abbrev m_C_canBeHeard : Nat := 112
def B_C_canBeHeard : List xB := [
  ([(.aload_n 0, 1, []), (.getfield 52, 3, [11, 5, 3]), (.aload_n 0, 1, []), (.getfield 61, 3, [11, 6, 3]), (.aload_n 0, 1, []), (.getfield 75, 3, [11, 8, 3]), (.getfield 228, 3, [10, 3, 3]), (.getfield 234, 3, [3, 3, 0]), (.iload_n 1, 1, []), (.aload_n 0, 1, []), (.getfield 75, 3, [11, 8, 3]), (.getfield 228, 3, [10, 3, 3]), (.invokevirtual 205, 3, [1, 37, 4, 6, 0]), (.ifCond .eq 16, 3, [2, 0, 1, 1])], 0, 0),
  ([(.aload_n 0, 1, []), (.getfield 52, 3, [11, 5, 3]), (.getfield 213, 3, [6, 0, 3]), (.getfield 217, 3, [1, 5, 0]), (.ifCond .le 7, 3, [3, 0, 2, 0])], 0, 0),
  ([(.iconst 1, 1, []), (.goto 4, 3, [4, 0])], 0, 0),
  ([(.iconst 0, 1, [])], 4, 0),
  ([(.ireturn, 1, [1])], 0, 0)]
def z_C_canBeHeard : xMeth := (n_C_canBeHeard, prog_1_method_30_code, 2, some FieldType.boolean, [0, 32, 45, 49, 50], B_C_canBeHeard, (0, 0))
def n_C_isNoteOrNone : MethodName := ⟨"RingCouncil", "isNoteOrNone", "(I)Z"⟩
abbrev m_C_isNoteOrNone : Nat := 113
def B_C_isNoteOrNone : List xB := [
  ([(.iload_n 0, 1, []), (.iconst (-1), 1, []), (.bipush 99, 2, []), (.invokestatic 92, 3, [1, 114, 3, 0]), (.ireturn, 1, [1])], 0, 0)]
def z_C_isNoteOrNone : xMeth := (n_C_isNoteOrNone, prog_1_method_31_code, 1, some FieldType.boolean, [0], B_C_isNoteOrNone, (0, 0))
def n_C_isWithin : MethodName := ⟨"RingCouncil", "isWithin", "(III)Z"⟩
abbrev m_C_isWithin : Nat := 114
def B_C_isWithin : List xB := [
  ([(.iload_n 0, 1, []), (.iload_n 1, 1, []), (.if_icmp .lt 12, 3, [3, 0, 1, 5])], 0, 0),
  ([(.iload_n 0, 1, []), (.iload_n 2, 1, []), (.if_icmp .gt 7, 3, [3, 0, 2, 0])], 0, 0),
  ([(.iconst 1, 1, []), (.goto 4, 3, [4, 0])], 0, 0),
  ([(.iconst 0, 1, [])], 4, 0),
  ([(.ireturn, 1, [1])], 0, 0)]
def z_C_isWithin : xMeth := (n_C_isWithin, prog_1_method_32_code, 3, some FieldType.boolean, [0, 5, 10, 14, 15], B_C_isWithin, (0, 0))
def n_C_bounded : MethodName := ⟨"RingCouncil", "bounded", "(III)I"⟩
abbrev m_C_bounded : Nat := 115
def B_C_bounded : List xB := [
  ([(.iload_n 0, 1, []), (.iload_n 1, 1, []), (.if_icmp .ge 5, 3, [2, 5, 1, 2])], 0, 0),
  ([(.iload_n 1, 1, []), (.ireturn, 1, [0])], 0, 0),
  ([(.iload_n 0, 1, []), (.iload_n 2, 1, []), (.if_icmp .le 7, 3, [4, 1, 3, 4])], 0, 0),
  ([(.iload_n 2, 1, []), (.goto 4, 3, [5, 0])], 0, 0),
  ([(.iload_n 0, 1, [])], 5, 0),
  ([(.ireturn, 1, [0])], 0, 0)]
def z_C_bounded : xMeth := (n_C_bounded, prog_1_method_33_code, 3, some FieldType.int, [0, 5, 7, 12, 16, 17], B_C_bounded, (0, 0))
def n_M_init : MethodName := ⟨"RingCouncilModel", "<init>", "(I)V"⟩
abbrev m_M_init : Nat := 116
def B_M_init : List xB := [
  ([(.aload_n 0, 1, []), (.invokespecial 1, 3, [0]), (.aload_n 0, 1, []), (.sipush 1420, 3, []), (.newarray .int, 2, []), (.putfield 7, 3, [12, 0, 3]), (.aload_n 0, 1, []), (.sipush 1420, 3, []), (.newarray .int, 2, []), (.putfield 13, 3, [12, 1, 3]), (.aload_n 0, 1, []), (.sipush 2580, 3, []), (.newarray .int, 2, []), (.putfield 16, 3, [12, 3, 3]), (.aload_n 0, 1, []), (.sipush 300, 3, []), (.newarray .int, 2, []), (.putfield 19, 3, [12, 4, 3]), (.aload_n 0, 1, []), (.iconst (-1), 1, []), (.putfield 22, 3, [12, 6, 0]), (.aload_n 0, 1, []), (.iconst (-1), 1, []), (.putfield 26, 3, [12, 7, 0]), (.aload_n 0, 1, []), (.sipush 160, 3, []), (.newarray .int, 2, []), (.putfield 29, 3, [12, 17, 3]), (.aload_n 0, 1, []), (.bipush 8, 2, []), (.newarray .int, 2, []), (.putfield 32, 3, [12, 22, 3]), (.aload_n 0, 1, []), (.sipush 330, 3, []), (.newarray .long, 2, []), (.putfield 35, 3, [12, 23, 3]), (.aload_n 0, 1, []), (.sipush 330, 3, []), (.newarray .boolean, 2, []), (.putfield 39, 3, [12, 24, 3]), (.aload_n 0, 1, []), (.bipush 9, 2, []), (.newarray .int, 2, []), (.putfield 43, 3, [12, 25, 3]), (.aload_n 0, 1, []), (.bipush 9, 2, []), (.newarray .int, 2, []), (.putfield 46, 3, [12, 26, 3]), (.aload_n 0, 1, []), (.bipush 60, 2, []), (.newarray .int, 2, []), (.putfield 49, 3, [12, 27, 3]), (.aload_n 0, 1, []), (.ldc 52, 2, [540000]), (.newarray .int, 2, []), (.putfield 53, 3, [12, 28, 3]), (.aload_n 0, 1, []), (.bipush 9, 2, []), (.newarray .int, 2, []), (.putfield 56, 3, [12, 29, 3]), (.aload_n 0, 1, []), (.sipush 18000, 3, []), (.newarray .int, 2, []), (.putfield 59, 3, [12, 30, 3]), (.aload_n 0, 1, []), (.sipush 18000, 3, []), (.newarray .int, 2, []), (.putfield 62, 3, [12, 31, 3]), (.aload_n 0, 1, []), (.sipush 2000, 3, []), (.newarray .int, 2, []), (.putfield 65, 3, [12, 32, 3]), (.aload_n 0, 1, []), (.sipush 4096, 3, []), (.newarray .int, 2, []), (.putfield 68, 3, [12, 33, 3]), (.aload_n 0, 1, []), (.iconst 2, 1, []), (.newarray .int, 2, []), (.putfield 71, 3, [12, 34, 3]), (.aload_n 0, 1, []), (.bipush 30, 2, []), (.newarray .int, 2, []), (.putfield 74, 3, [12, 37, 3]), (.aload_n 0, 1, []), (.bipush 30, 2, []), (.newarray .int, 2, []), (.putfield 77, 3, [12, 38, 3]), (.aload_n 0, 1, []), (.sipush 400, 3, []), (.newarray .int, 2, []), (.putfield 80, 3, [12, 39, 3]), (.aload_n 0, 1, []), (.iload_n 1, 1, []), (.iconst 3, 1, []), (.if_icmp .ge 7, 3, [2, 3, 1, 1])], 0, 0),
  ([(.iconst 3, 1, []), (.goto 15, 3, [5, 1])], 0, 0),
  ([(.iload_n 1, 1, []), (.bipush 9, 2, []), (.if_icmp .le 8, 3, [4, 3, 3, 1])], 0, 0),
  ([(.bipush 9, 2, []), (.goto 4, 3, [5, 1])], 0, 0),
  ([(.iload_n 1, 1, [])], 5, 1),
  ([(.putfield 83, 3, [12, 2, 0]), (.aload_n 0, 1, []), (.getfield 7, 3, [12, 0, 3]), (.iconst 1, 1, []), (.iconst (-1), 1, []), (.iastore, 1, []), (.aload_n 0, 1, []), (.getfield 7, 3, [12, 0, 3]), (.iconst 4, 1, []), (.iconst (-1), 1, []), (.iastore, 1, []), (.iconst 0, 1, []), (.istore_n 2, 1, [])], 6, 5),
  ([(.iload_n 2, 1, []), (.bipush 9, 2, []), (.if_icmp .ge 35, 3, [8, 1, 7, 5])], 0, 0),
  ([(.aload_n 0, 1, []), (.getfield 7, 3, [12, 0, 3]), (.bipush 40, 2, []), (.iconst 3, 1, []), (.iload_n 2, 1, []), (.imul, 1, []), (.iadd, 1, []), (.iconst (-1), 1, []), (.iastore, 1, []), (.aload_n 0, 1, []), (.getfield 7, 3, [12, 0, 3]), (.bipush 40, 2, []), (.iconst 3, 1, []), (.iload_n 2, 1, []), (.imul, 1, []), (.iadd, 1, []), (.iconst 1, 1, []), (.iadd, 1, []), (.iconst (-1), 1, []), (.iastore, 1, []), (.iinc 2 1, 3, []), (.goto (-35), 3, [6, 5])], 0, 0),
  ([(.aload_n 0, 1, []), (.aload_n 0, 1, []), (.getfield 7, 3, [12, 0, 3]), (.sipush 190, 3, []), (.invokevirtual 86, 3, [1, 123, 2, 12, 1]), (.aload_n 0, 1, []), (.getfield 7, 3, [12, 0, 3]), (.aload_n 0, 1, []), (.getfield 13, 3, [12, 1, 3]), (.invokestatic 90, 3, [1, 117, 2, 1]), (.return_, 1, [])], 0, 0)]
def z_M_init : xMeth := (n_M_init, prog_14_method_1_code, 3, none, [0, 199, 203, 209, 214, 215, 234, 240, 272], B_M_init, (21, 589193))
def n_M_copy : MethodName := ⟨"RingCouncilModel", "copy", "([I[I)V"⟩
abbrev m_M_copy : Nat := 117
def B_M_copy : List xB := [
  ([(.iconst 0, 1, []), (.istore_n 2, 1, [])], 1, 7),
  ([(.iload_n 2, 1, []), (.sipush 1420, 3, []), (.if_icmp .ge 15, 3, [3, 0, 2, 7])], 0, 0),
  ([(.aload_n 1, 1, []), (.iload_n 2, 1, []), (.aload_n 0, 1, []), (.iload_n 2, 1, []), (.iaload, 1, []), (.iastore, 1, []), (.iinc 2 1, 3, []), (.goto (-16), 3, [1, 7])], 0, 0),
  ([(.return_, 1, [])], 0, 0)]
def z_M_copy : xMeth := (n_M_copy, prog_14_method_2_code, 3, none, [0, 2, 9, 21], B_M_copy, (0, 0))
def n_M_isIn : MethodName := ⟨"RingCouncilModel", "isIn", "(III)Z"⟩
abbrev m_M_isIn : Nat := 118
def B_M_isIn : List xB := [
  ([(.iload_n 0, 1, []), (.iload_n 1, 1, []), (.if_icmp .lt 12, 3, [3, 0, 1, 5])], 0, 0),
  ([(.iload_n 0, 1, []), (.iload_n 2, 1, []), (.if_icmp .gt 7, 3, [3, 0, 2, 0])], 0, 0),
  ([(.iconst 1, 1, []), (.goto 4, 3, [4, 0])], 0, 0),
  ([(.iconst 0, 1, [])], 4, 0),
  ([(.ireturn, 1, [1])], 0, 0)]
def z_M_isIn : xMeth := (n_M_isIn, prog_14_method_3_code, 3, some FieldType.boolean, [0, 5, 10, 14, 15], B_M_isIn, (0, 0))
def n_M_held : MethodName := ⟨"RingCouncilModel", "held", "(JII)I"⟩
abbrev m_M_held : Nat := 119
def B_M_held : List xB := [
  ([(.lload_n 0, 1, []), (.iload_n 2, 1, []), (.i2l, 1, []), (.lcmp, 1, []), (.ifCond .ge 7, 3, [2, 9, 1, 4])], 0, 0),
  ([(.iload_n 2, 1, []), (.goto 16, 3, [5, 0])], 0, 0),
  ([(.lload_n 0, 1, []), (.iload_n 3, 1, []), (.i2l, 1, []), (.lcmp, 1, []), (.ifCond .le 7, 3, [4, 1, 3, 8])], 0, 0),
  ([(.iload_n 3, 1, []), (.goto 5, 3, [5, 0])], 0, 0),
  ([(.lload_n 0, 1, []), (.l2i, 1, [])], 5, 0),
  ([(.ireturn, 1, [0])], 0, 0)]
def z_M_held : xMeth := (n_M_held, prog_14_method_4_code, 4, some FieldType.int, [0, 7, 11, 18, 22, 24], B_M_held, (0, 0))
def n_M_isRoom : MethodName := ⟨"RingCouncilModel", "isRoom", "(I)Z"⟩
abbrev m_M_isRoom : Nat := 120
def B_M_isRoom : List xB := [
  ([(.iload_n 1, 1, []), (.iconst 0, 1, []), (.aload_n 0, 1, []), (.getfield 83, 3, [12, 2, 0]), (.iconst 1, 1, []), (.isub, 1, []), (.invokestatic 94, 3, [1, 118, 3, 0]), (.ireturn, 1, [1])], 0, 0)]
def z_M_isRoom : xMeth := (n_M_isRoom, prog_14_method_5_code, 2, some FieldType.boolean, [0], B_M_isRoom, (0, 0))
def n_M_leftOf : MethodName := ⟨"RingCouncilModel", "leftOf", "(I)I"⟩
abbrev m_M_leftOf : Nat := 121
def B_M_leftOf : List xB := [
  ([(.iload_n 1, 1, []), (.ifCond .ne 12, 3, [2, 2, 1, 1])], 0, 0),
  ([(.aload_n 0, 1, []), (.getfield 83, 3, [12, 2, 0]), (.iconst 1, 1, []), (.isub, 1, []), (.goto 6, 3, [3, 0])], 0, 0),
  ([(.iload_n 1, 1, []), (.iconst 1, 1, []), (.isub, 1, [])], 3, 0),
  ([(.ireturn, 1, [0])], 0, 0)]
def z_M_leftOf : xMeth := (n_M_leftOf, prog_14_method_6_code, 2, some FieldType.int, [0, 4, 13, 16], B_M_leftOf, (0, 0))
def n_M_rightOf : MethodName := ⟨"RingCouncilModel", "rightOf", "(I)I"⟩
abbrev m_M_rightOf : Nat := 122
def B_M_rightOf : List xB := [
  ([(.iload_n 1, 1, []), (.aload_n 0, 1, []), (.getfield 83, 3, [12, 2, 0]), (.iconst 1, 1, []), (.isub, 1, []), (.if_icmp .ne 7, 3, [2, 2, 1, 0])], 0, 0),
  ([(.iconst 0, 1, []), (.goto 6, 3, [3, 0])], 0, 0),
  ([(.iload_n 1, 1, []), (.iconst 1, 1, []), (.iadd, 1, [])], 3, 0),
  ([(.ireturn, 1, [0])], 0, 0)]
def z_M_rightOf : xMeth := (n_M_rightOf, prog_14_method_7_code, 2, some FieldType.int, [0, 10, 14, 17], B_M_rightOf, (0, 0))
def n_M_begin : MethodName := ⟨"RingCouncilModel", "begin", "([II)V"⟩
abbrev m_M_begin : Nat := 123
def B_M_begin : List xB := [
  ([(.aload_n 1, 1, []), (.iload_n 2, 1, []), (.iconst 0, 1, []), (.iadd, 1, []), (.iconst 0, 1, []), (.iastore, 1, []), (.aload_n 1, 1, []), (.iload_n 2, 1, []), (.iconst 1, 1, []), (.iadd, 1, []), (.iconst 0, 1, []), (.iastore, 1, []), (.iconst 0, 1, []), (.istore_n 3, 1, [])], 1, 15),
  ([(.iload_n 3, 1, []), (.bipush 9, 2, []), (.if_icmp .ge 43, 3, [3, 0, 2, 15])], 0, 0),
  ([(.aload_n 1, 1, []), (.iload_n 2, 1, []), (.iconst 2, 1, []), (.iadd, 1, []), (.iload_n 3, 1, []), (.iadd, 1, []), (.aload_n 0, 1, []), (.getfield 7, 3, [12, 0, 3]), (.bipush 20, 2, []), (.iload_n 3, 1, []), (.iadd, 1, []), (.iaload, 1, []), (.iastore, 1, []), (.aload_n 1, 1, []), (.iload_n 2, 1, []), (.bipush 11, 2, []), (.iadd, 1, []), (.iload_n 3, 1, []), (.iadd, 1, []), (.iconst (-1), 1, []), (.iastore, 1, []), (.aload_n 1, 1, []), (.iload_n 2, 1, []), (.bipush 20, 2, []), (.iadd, 1, []), (.iload_n 3, 1, []), (.iadd, 1, []), (.iconst (-1), 1, []), (.iastore, 1, []), (.iinc 3 1, 3, []), (.goto (-43), 3, [1, 15])], 0, 0),
  ([(.return_, 1, [])], 0, 0)]
def z_M_begin : xMeth := (n_M_begin, prog_14_method_8_code, 4, none, [0, 14, 20, 60], B_M_begin, (0, 0))
def n_M_elder : MethodName := ⟨"RingCouncilModel", "elder", "(III)Z"⟩
abbrev m_M_elder : Nat := 124
def B_M_elder : List xB := [
  ([(.aload_n 0, 1, []), (.iload_n 1, 1, []), (.invokevirtual 98, 3, [1, 120, 1, 12, 0]), (.ifCond .eq 22, 3, [3, 0, 1, 15])], 0, 0),
  ([(.iload_n 2, 1, []), (.iconst 0, 1, []), (.iconst 2, 1, []), (.invokestatic 94, 3, [1, 118, 3, 0]), (.ifCond .eq 13, 3, [3, 0, 2, 15])], 0, 0),
  ([(.iload_n 3, 1, []), (.iconst 0, 1, []), (.bipush 9, 2, []), (.invokestatic 94, 3, [1, 118, 3, 0]), (.ifCond .ne 5, 3, [4, 15, 3, 0])], 0, 0),
  ([(.iconst 0, 1, []), (.ireturn, 1, [1])], 0, 0),
  ([(.aload_n 0, 1, []), (.getfield 7, 3, [12, 0, 3]), (.bipush 10, 2, []), (.iload_n 1, 1, []), (.iadd, 1, []), (.iload_n 2, 1, []), (.iastore, 1, []), (.aload_n 0, 1, []), (.getfield 7, 3, [12, 0, 3]), (.bipush 20, 2, []), (.iload_n 1, 1, []), (.iadd, 1, []), (.iload_n 3, 1, []), (.iastore, 1, []), (.iconst 1, 1, []), (.ireturn, 1, [1])], 0, 0)]
def z_M_elder : xMeth := (n_M_elder, prog_14_method_9_code, 4, some FieldType.boolean, [0, 8, 17, 27, 29], B_M_elder, (0, 0))
def n_M_stuck : MethodName := ⟨"RingCouncilModel", "stuck", "(IZ)Z"⟩
abbrev m_M_stuck : Nat := 125
def B_M_stuck : List xB := [
  ([(.aload_n 0, 1, []), (.iload_n 1, 1, []), (.invokevirtual 98, 3, [1, 120, 1, 12, 0]), (.ifCond .ne 5, 3, [2, 7, 1, 0])], 0, 0),
  ([(.iconst 0, 1, []), (.ireturn, 1, [1])], 0, 0),
  ([(.aload_n 0, 1, []), (.getfield 7, 3, [12, 0, 3]), (.bipush 30, 2, []), (.iload_n 1, 1, []), (.iadd, 1, []), (.iload_n 2, 1, []), (.ifCond .eq 7, 3, [4, 0, 3, 0])], 0, 0),
  ([(.iconst 1, 1, []), (.goto 4, 3, [5, 0])], 0, 0),
  ([(.iconst 0, 1, [])], 5, 0),
  ([(.iastore, 1, []), (.iconst 1, 1, []), (.ireturn, 1, [1])], 0, 0)]
def z_M_stuck : xMeth := (n_M_stuck, prog_14_method_10_code, 3, some FieldType.boolean, [0, 8, 10, 22, 26, 27], B_M_stuck, (0, 0))
def n_M_lies : MethodName := ⟨"RingCouncilModel", "lies", "(IIIZ)Z"⟩
abbrev m_M_lies : Nat := 126
def B_M_lies : List xB := [
  ([(.aload_n 0, 1, []), (.iload_n 1, 1, []), (.invokevirtual 98, 3, [1, 120, 1, 12, 0]), (.ifCond .eq 23, 3, [3, 0, 1, 31])], 0, 0),
  ([(.iload_n 2, 1, []), (.iconst (-1), 1, []), (.bipush 99, 2, []), (.invokestatic 94, 3, [1, 118, 3, 0]), (.ifCond .eq 13, 3, [3, 0, 2, 31])], 0, 0),
  ([(.iload_n 3, 1, []), (.iconst (-1), 1, []), (.bipush 99, 2, []), (.invokestatic 94, 3, [1, 118, 3, 0]), (.ifCond .ne 5, 3, [4, 31, 3, 0])], 0, 0),
  ([(.iconst 0, 1, []), (.ireturn, 1, [1])], 0, 0),
  ([(.aload_n 0, 1, []), (.getfield 7, 3, [12, 0, 3]), (.bipush 40, 2, []), (.iconst 3, 1, []), (.iload_n 1, 1, []), (.imul, 1, []), (.iadd, 1, []), (.iload_n 2, 1, []), (.iastore, 1, []), (.aload_n 0, 1, []), (.getfield 7, 3, [12, 0, 3]), (.bipush 40, 2, []), (.iconst 3, 1, []), (.iload_n 1, 1, []), (.imul, 1, []), (.iadd, 1, []), (.iconst 1, 1, []), (.iadd, 1, []), (.iload_n 3, 1, []), (.iastore, 1, []), (.aload_n 0, 1, []), (.getfield 7, 3, [12, 0, 3]), (.bipush 40, 2, []), (.iconst 3, 1, []), (.iload_n 1, 1, []), (.imul, 1, []), (.iadd, 1, []), (.iconst 2, 1, []), (.iadd, 1, []), (.iload 4, 2, []), (.ifCond .eq 7, 3, [6, 0, 5, 0])], 0, 0),
  ([(.iconst 1, 1, []), (.goto 4, 3, [7, 0])], 0, 0),
  ([(.iconst 0, 1, [])], 7, 0),
  ([(.iastore, 1, []), (.iconst 1, 1, []), (.ireturn, 1, [1])], 0, 0)]
def z_M_lies : xMeth := (n_M_lies, prog_14_method_11_code, 5, some FieldType.boolean, [0, 8, 18, 28, 30, 73, 77, 78], B_M_lies, (0, 0))
def n_M_bar : MethodName := ⟨"RingCouncilModel", "bar", "(IZ)Z"⟩
abbrev m_M_bar : Nat := 127
def B_M_bar : List xB := [
  ([(.iload_n 1, 1, []), (.iconst 0, 1, []), (.bipush 99, 2, []), (.invokestatic 94, 3, [1, 118, 3, 0]), (.ifCond .ne 5, 3, [2, 7, 1, 0])], 0, 0),
  ([(.iconst 0, 1, []), (.ireturn, 1, [1])], 0, 0),
  ([(.aload_n 0, 1, []), (.getfield 7, 3, [12, 0, 3]), (.bipush 70, 2, []), (.iload_n 1, 1, []), (.iadd, 1, []), (.iload_n 2, 1, []), (.ifCond .eq 7, 3, [4, 0, 3, 0])], 0, 0),
  ([(.iconst 1, 1, []), (.goto 4, 3, [5, 0])], 0, 0),
  ([(.iconst 0, 1, [])], 5, 0),
  ([(.iastore, 1, []), (.iconst 1, 1, []), (.ireturn, 1, [1])], 0, 0)]
def z_M_bar : xMeth := (n_M_bar, prog_14_method_12_code, 3, some FieldType.boolean, [0, 10, 12, 24, 28, 29], B_M_bar, (0, 0))
def n_M_four : MethodName := ⟨"RingCouncilModel", "four", "(I)V"⟩
abbrev m_M_four : Nat := 128
def B_M_four : List xB := [
  ([(.bipush 24, 2, []), (.istore_n 2, 1, [])], 1, 7),
  ([(.iload_n 2, 1, []), (.ifCond .lt 35, 3, [3, 0, 2, 7])], 0, 0),
  ([(.aload_n 0, 1, []), (.getfield 19, 3, [12, 4, 3]), (.aload_n 0, 1, []), (.getfield 102, 3, [12, 5, 0]), (.iload_n 1, 1, []), (.iload_n 2, 1, []), (.ishr, 1, []), (.sipush 255, 3, []), (.iand, 1, []), (.iastore, 1, []), (.aload_n 0, 1, []), (.dup, 1, []), (.getfield 102, 3, [12, 5, 0]), (.iconst 1, 1, []), (.iadd, 1, []), (.putfield 102, 3, [12, 5, 0]), (.iinc 2 (-8), 3, []), (.goto (-33), 3, [1, 7])], 0, 0),
  ([(.return_, 1, [])], 0, 0)]
def z_M_four : xMeth := (n_M_four, prog_14_method_13_code, 3, none, [0, 3, 7, 39], B_M_four, (0, 0))
def n_M_feed : MethodName := ⟨"RingCouncilModel", "feed", "(IIIII)I"⟩
abbrev m_M_feed : Nat := 129
def B_M_feed : List xB := [
  ([(.aload_n 0, 1, []), (.getfield 102, 3, [12, 5, 0]), (.bipush 20, 2, []), (.iadd, 1, []), (.sipush 300, 3, []), (.if_icmp .le 5, 3, [2, 63, 1, 0])], 0, 0),
  ([(.iconst (-1), 1, []), (.ireturn, 1, [0])], 0, 0),
  ([(.aload_n 0, 1, []), (.iload_n 1, 1, []), (.invokevirtual 105, 3, [1, 128, 1, 12, 1]), (.aload_n 0, 1, []), (.iload_n 2, 1, []), (.invokevirtual 105, 3, [1, 128, 1, 12, 1]), (.aload_n 0, 1, []), (.iload_n 3, 1, []), (.invokevirtual 105, 3, [1, 128, 1, 12, 1]), (.aload_n 0, 1, []), (.iload 4, 2, []), (.invokevirtual 105, 3, [1, 128, 1, 12, 1]), (.aload_n 0, 1, []), (.iload 5, 2, []), (.invokevirtual 105, 3, [1, 128, 1, 12, 1]), (.aload_n 0, 1, []), (.getfield 102, 3, [12, 5, 0]), (.ireturn, 1, [0])], 0, 0)]
def z_M_feed : xMeth := (n_M_feed, prog_14_method_14_code, 6, some FieldType.int, [0, 13, 15], B_M_feed, (0, 0))
def n_M_end : MethodName := ⟨"RingCouncilModel", "end", "(I)I"⟩
abbrev m_M_end : Nat := 130
def B_M_end : List xB := [
  ([(.iload_n 1, 1, []), (.iconst 0, 1, []), (.aload_n 0, 1, []), (.getfield 102, 3, [12, 5, 0]), (.invokestatic 94, 3, [1, 118, 3, 0]), (.ifCond .ne 5, 3, [2, 3, 1, 0])], 0, 0),
  ([(.iconst (-1), 1, []), (.ireturn, 1, [0])], 0, 0),
  ([(.aload_n 0, 1, []), (.iload_n 1, 1, []), (.putfield 102, 3, [12, 5, 0]), (.iload_n 1, 1, []), (.ireturn, 1, [0])], 0, 0)]
def z_M_end : xMeth := (n_M_end, prog_14_method_15_code, 2, some FieldType.int, [0, 12, 14], B_M_end, (0, 0))
def n_M_byteAt : MethodName := ⟨"RingCouncilModel", "byteAt", "(I)I"⟩
abbrev m_M_byteAt : Nat := 131
def B_M_byteAt : List xB := [
  ([(.iload_n 1, 1, []), (.aload_n 0, 1, []), (.getfield 102, 3, [12, 5, 0]), (.if_icmp .ge 12, 3, [2, 0, 1, 3])], 0, 0),
  ([(.aload_n 0, 1, []), (.getfield 19, 3, [12, 4, 3]), (.iload_n 1, 1, []), (.iaload, 1, []), (.goto 4, 3, [3, 0])], 0, 0),
  ([(.iconst (-1), 1, [])], 3, 0),
  ([(.ireturn, 1, [0])], 0, 0)]
def z_M_byteAt : xMeth := (n_M_byteAt, prog_14_method_16_code, 2, some FieldType.int, [0, 8, 17, 18], B_M_byteAt, (0, 0))
def n_M_isLetter : MethodName := ⟨"RingCouncilModel", "isLetter", "(I)Z"⟩
abbrev m_M_isLetter : Nat := 132
def B_M_isLetter : List xB := [
  ([(.iload_n 0, 1, []), (.bipush 97, 2, []), (.bipush 122, 2, []), (.invokestatic 94, 3, [1, 118, 3, 0]), (.ifCond .ne 14, 3, [2, 0, 1, 1])], 0, 0),
  ([(.iload_n 0, 1, []), (.bipush 65, 2, []), (.bipush 90, 2, []), (.invokestatic 94, 3, [1, 118, 3, 0]), (.ifCond .eq 7, 3, [3, 0, 2, 0])], 0, 0),
  ([(.iconst 1, 1, []), (.goto 4, 3, [4, 0])], 0, 0),
  ([(.iconst 0, 1, [])], 4, 0),
  ([(.ireturn, 1, [1])], 0, 0)]
def z_M_isLetter : xMeth := (n_M_isLetter, prog_14_method_17_code, 1, some FieldType.boolean, [0, 11, 22, 26, 27], B_M_isLetter, (0, 0))
def n_M_isDigit : MethodName := ⟨"RingCouncilModel", "isDigit", "(I)Z"⟩
abbrev m_M_isDigit : Nat := 133
def B_M_isDigit : List xB := [
  ([(.iload_n 0, 1, []), (.bipush 48, 2, []), (.bipush 57, 2, []), (.invokestatic 94, 3, [1, 118, 3, 0]), (.ireturn, 1, [1])], 0, 0)]
def z_M_isDigit : xMeth := (n_M_isDigit, prog_14_method_18_code, 1, some FieldType.boolean, [0], B_M_isDigit, (0, 0))
def n_M_nextToken : MethodName := ⟨"RingCouncilModel", "nextToken", "()V"⟩
abbrev m_M_nextToken : Nat := 134
def B_M_nextToken : List xB := [
  ([(.aload_n 0, 1, []), (.aload_n 0, 1, []), (.getfield 109, 3, [12, 8, 0]), (.invokevirtual 112, 3, [1, 131, 1, 12, 0]), (.bipush 32, 2, []), (.if_icmp .eq 16, 3, [2, 1, 1, 1])], 0, 0),
  ([(.aload_n 0, 1, []), (.aload_n 0, 1, []), (.getfield 109, 3, [12, 8, 0]), (.invokevirtual 112, 3, [1, 131, 1, 12, 0]), (.bipush 10, 2, []), (.if_icmp .ne 16, 3, [3, 1, 2, 1])], 0, 0),
  ([(.aload_n 0, 1, []), (.dup, 1, []), (.getfield 109, 3, [12, 8, 0]), (.iconst 1, 1, []), (.iadd, 1, []), (.putfield 109, 3, [12, 8, 0]), (.goto (-36), 3, [0, 1])], 0, 0),
  ([(.aload_n 0, 1, []), (.aload_n 0, 1, []), (.getfield 109, 3, [12, 8, 0]), (.putfield 116, 3, [12, 9, 0]), (.aload_n 0, 1, []), (.aload_n 0, 1, []), (.getfield 109, 3, [12, 8, 0]), (.invokevirtual 112, 3, [1, 131, 1, 12, 0]), (.istore_n 1, 1, []), (.iload_n 1, 1, []), (.ifCond .ge 11, 3, [5, 3, 4, 1])], 0, 0),
  ([(.aload_n 0, 1, []), (.iconst 0, 1, []), (.putfield 119, 3, [12, 10, 0]), (.goto 343, 3, [45, 0])], 0, 0),
  ([(.iload_n 1, 1, []), (.invokestatic 122, 3, [1, 133, 1, 0]), (.ifCond .eq 72, 3, [11, 3, 6, 1])], 0, 0),
  ([(.aload_n 0, 1, []), (.iconst 1, 1, []), (.putfield 119, 3, [12, 10, 0]), (.aload_n 0, 1, []), (.iconst 0, 1, []), (.putfield 125, 3, [12, 11, 0])], 7, 1),
  ([(.aload_n 0, 1, []), (.aload_n 0, 1, []), (.getfield 109, 3, [12, 8, 0]), (.invokevirtual 112, 3, [1, 131, 1, 12, 0]), (.invokestatic 122, 3, [1, 133, 1, 0]), (.ifCond .eq 312, 3, [45, 0, 8, 1])], 0, 0),
  ([(.aload_n 0, 1, []), (.getfield 125, 3, [12, 11, 0]), (.ldc 128, 2, [100000]), (.if_icmp .ge 26, 3, [10, 1, 9, 1])], 0, 0),
  ([(.aload_n 0, 1, []), (.bipush 10, 2, []), (.aload_n 0, 1, []), (.getfield 125, 3, [12, 11, 0]), (.imul, 1, []), (.aload_n 0, 1, []), (.aload_n 0, 1, []), (.getfield 109, 3, [12, 8, 0]), (.invokevirtual 112, 3, [1, 131, 1, 12, 0]), (.iadd, 1, []), (.bipush 48, 2, []), (.isub, 1, []), (.putfield 125, 3, [12, 11, 0])], 10, 1),
  ([(.aload_n 0, 1, []), (.dup, 1, []), (.getfield 109, 3, [12, 8, 0]), (.iconst 1, 1, []), (.iadd, 1, []), (.putfield 109, 3, [12, 8, 0]), (.goto (-56), 3, [7, 1])], 0, 0),
  ([(.iload_n 1, 1, []), (.invokestatic 129, 3, [1, 132, 1, 0]), (.ifCond .eq 97, 3, [19, 3, 12, 1])], 0, 0),
  ([(.aload_n 0, 1, []), (.iconst 2, 1, []), (.putfield 119, 3, [12, 10, 0]), (.aload_n 0, 1, []), (.lconst 0, 1, []), (.putfield 132, 3, [12, 12, 2])], 13, 1),
  ([(.aload_n 0, 1, []), (.aload_n 0, 1, []), (.getfield 109, 3, [12, 8, 0]), (.invokevirtual 112, 3, [1, 131, 1, 12, 0]), (.invokestatic 129, 3, [1, 132, 1, 0]), (.ifCond .eq 51, 3, [17, 1, 14, 1])], 0, 0),
  ([(.aload_n 0, 1, []), (.getfield 109, 3, [12, 8, 0]), (.aload_n 0, 1, []), (.getfield 116, 3, [12, 9, 0]), (.isub, 1, []), (.bipush 7, 2, []), (.if_icmp .ge 24, 3, [16, 1, 15, 1])], 0, 0),
  ([(.aload_n 0, 1, []), (.aload_n 0, 1, []), (.getfield 132, 3, [12, 12, 2]), (.bipush 8, 2, []), (.lshl, 1, []), (.aload_n 0, 1, []), (.aload_n 0, 1, []), (.getfield 109, 3, [12, 8, 0]), (.invokevirtual 112, 3, [1, 131, 1, 12, 0]), (.i2l, 1, []), (.lor, 1, []), (.putfield 132, 3, [12, 12, 2])], 16, 1),
  ([(.aload_n 0, 1, []), (.dup, 1, []), (.getfield 109, 3, [12, 8, 0]), (.iconst 1, 1, []), (.iadd, 1, []), (.putfield 109, 3, [12, 8, 0]), (.goto (-59), 3, [13, 1])], 0, 0),
  ([(.aload_n 0, 1, []), (.getfield 109, 3, [12, 8, 0]), (.aload_n 0, 1, []), (.getfield 116, 3, [12, 9, 0]), (.isub, 1, []), (.bipush 7, 2, []), (.if_icmp .le 174, 3, [45, 0, 18, 1])], 0, 0),
  ([(.aload_n 0, 1, []), (.lconst 0, 1, []), (.putfield 132, 3, [12, 12, 2]), (.goto 166, 3, [45, 0])], 0, 0),
  ([(.aload_n 0, 1, []), (.dup, 1, []), (.getfield 109, 3, [12, 8, 0]), (.iconst 1, 1, []), (.iadd, 1, []), (.putfield 109, 3, [12, 8, 0]), (.iload_n 1, 1, []), (.bipush 60, 2, []), (.if_icmp .eq 81, 3, [33, 3, 20, 3])], 0, 0),
  ([(.iload_n 1, 1, []), (.bipush 62, 2, []), (.if_icmp .eq 75, 3, [33, 3, 21, 3])], 0, 0),
  ([(.iload_n 1, 1, []), (.bipush 61, 2, []), (.if_icmp .eq 69, 3, [33, 3, 22, 3])], 0, 0),
  ([(.iload_n 1, 1, []), (.bipush 35, 2, []), (.if_icmp .eq 63, 3, [33, 3, 23, 3])], 0, 0),
  ([(.iload_n 1, 1, []), (.bipush 43, 2, []), (.if_icmp .eq 57, 3, [33, 3, 24, 3])], 0, 0),
  ([(.iload_n 1, 1, []), (.bipush 45, 2, []), (.if_icmp .eq 51, 3, [33, 3, 25, 3])], 0, 0),
  ([(.iload_n 1, 1, []), (.bipush 42, 2, []), (.if_icmp .eq 45, 3, [33, 3, 26, 3])], 0, 0),
  ([(.iload_n 1, 1, []), (.bipush 47, 2, []), (.if_icmp .eq 39, 3, [33, 3, 27, 3])], 0, 0),
  ([(.iload_n 1, 1, []), (.bipush 40, 2, []), (.if_icmp .eq 33, 3, [33, 3, 28, 3])], 0, 0),
  ([(.iload_n 1, 1, []), (.bipush 41, 2, []), (.if_icmp .eq 27, 3, [33, 3, 29, 3])], 0, 0),
  ([(.iload_n 1, 1, []), (.bipush 59, 2, []), (.if_icmp .eq 21, 3, [33, 3, 30, 3])], 0, 0),
  ([(.iload_n 1, 1, []), (.bipush 44, 2, []), (.if_icmp .eq 15, 3, [33, 3, 31, 3])], 0, 0),
  ([(.iload_n 1, 1, []), (.bipush 63, 2, []), (.if_icmp .eq 9, 3, [33, 3, 32, 3])], 0, 0),
  ([(.iload_n 1, 1, []), (.bipush 58, 2, []), (.if_icmp .ne 7, 3, [34, 3, 33, 3])], 0, 0),
  ([(.iconst 1, 1, []), (.goto 4, 3, [35, 3])], 0, 0),
  ([(.iconst 0, 1, [])], 35, 3),
  ([(.istore_n 2, 1, []), (.aload_n 0, 1, []), (.iload_n 2, 1, []), (.ifCond .eq 7, 3, [37, 3, 36, 3])], 0, 0),
  ([(.iload_n 1, 1, []), (.goto 4, 3, [38, 3])], 0, 0),
  ([(.iconst 3, 1, [])], 38, 3),
  ([(.putfield 119, 3, [12, 10, 0]), (.iload_n 1, 1, []), (.bipush 60, 2, []), (.if_icmp .eq 9, 3, [40, 3, 39, 3])], 0, 0),
  ([(.iload_n 1, 1, []), (.bipush 62, 2, []), (.if_icmp .ne 41, 3, [45, 0, 40, 3])], 0, 0),
  ([(.aload_n 0, 1, []), (.aload_n 0, 1, []), (.getfield 109, 3, [12, 8, 0]), (.invokevirtual 112, 3, [1, 131, 1, 12, 0]), (.bipush 61, 2, []), (.if_icmp .ne 28, 3, [45, 0, 41, 3])], 0, 0),
  ([(.aload_n 0, 1, []), (.dup, 1, []), (.getfield 109, 3, [12, 8, 0]), (.iconst 1, 1, []), (.iadd, 1, []), (.putfield 109, 3, [12, 8, 0]), (.aload_n 0, 1, []), (.iload_n 1, 1, []), (.bipush 60, 2, []), (.if_icmp .ne 7, 3, [43, 0, 42, 0])], 0, 0),
  ([(.iconst 4, 1, []), (.goto 4, 3, [44, 0])], 0, 0),
  ([(.iconst 5, 1, [])], 44, 0),
  ([(.putfield 119, 3, [12, 10, 0])], 45, 0),
  ([(.return_, 1, [])], 0, 0)]
def z_M_nextToken : xMeth := (n_M_nextToken, prog_14_method_19_code, 3, none, [0, 13, 26, 39, 60, 68, 75, 85, 99, 108, 131, 144, 151, 161, 175, 189, 210, 223, 237, 245, 261, 267, 273, 279, 285, 291, 297, 303, 309, 315, 321, 327, 333, 339, 343, 344, 350, 354, 355, 364, 370, 383, 400, 404, 405, 408], B_M_nextToken, (0, 0))
def n_M_w3 : MethodName := ⟨"RingCouncilModel", "w3", "(III)J"⟩
abbrev m_M_w3 : Nat := 135
def B_M_w3 : List xB := [
  ([(.iload_n 0, 1, []), (.i2l, 1, []), (.bipush 8, 2, []), (.lshl, 1, []), (.iload_n 1, 1, []), (.i2l, 1, []), (.lor, 1, []), (.bipush 8, 2, []), (.lshl, 1, []), (.iload_n 2, 1, []), (.i2l, 1, []), (.lor, 1, []), (.lreturn, 1, [])], 0, 0)]
def z_M_w3 : xMeth := (n_M_w3, prog_14_method_20_code, 3, some FieldType.long, [0], B_M_w3, (0, 0))
def n_M_w5 : MethodName := ⟨"RingCouncilModel", "w5", "(IIIII)J"⟩
abbrev m_M_w5 : Nat := 136
def B_M_w5 : List xB := [
  ([(.iload_n 0, 1, []), (.iload_n 1, 1, []), (.iload_n 2, 1, []), (.invokestatic 136, 3, [1, 135, 3, 2]), (.bipush 8, 2, []), (.lshl, 1, []), (.iload_n 3, 1, []), (.i2l, 1, []), (.lor, 1, []), (.bipush 8, 2, []), (.lshl, 1, []), (.iload 4, 2, []), (.i2l, 1, []), (.lor, 1, []), (.lreturn, 1, [])], 0, 0)]
def z_M_w5 : xMeth := (n_M_w5, prog_14_method_21_code, 5, some FieldType.long, [0], B_M_w5, (0, 0))
def n_M_w4 : MethodName := ⟨"RingCouncilModel", "w4", "(IIII)J"⟩
abbrev m_M_w4 : Nat := 137
def B_M_w4 : List xB := [
  ([(.iload_n 0, 1, []), (.iload_n 1, 1, []), (.iload_n 2, 1, []), (.invokestatic 136, 3, [1, 135, 3, 2]), (.bipush 8, 2, []), (.lshl, 1, []), (.iload_n 3, 1, []), (.i2l, 1, []), (.lor, 1, []), (.lreturn, 1, [])], 0, 0)]
def z_M_w4 : xMeth := (n_M_w4, prog_14_method_22_code, 4, some FieldType.long, [0], B_M_w4, (0, 0))
def n_M_isWord : MethodName := ⟨"RingCouncilModel", "isWord", "(J)Z"⟩
abbrev m_M_isWord : Nat := 138
def B_M_isWord : List xB := [
  ([(.aload_n 0, 1, []), (.getfield 119, 3, [12, 10, 0]), (.iconst 2, 1, []), (.if_icmp .ne 16, 3, [3, 0, 1, 3])], 0, 0),
  ([(.aload_n 0, 1, []), (.getfield 132, 3, [12, 12, 2]), (.lload_n 1, 1, []), (.lcmp, 1, []), (.ifCond .ne 7, 3, [3, 0, 2, 0])], 0, 0),
  ([(.iconst 1, 1, []), (.goto 4, 3, [4, 0])], 0, 0),
  ([(.iconst 0, 1, [])], 4, 0),
  ([(.ireturn, 1, [1])], 0, 0)]
def z_M_isWord : xMeth := (n_M_isWord, prog_14_method_24_code, 3, some FieldType.boolean, [0, 8, 17, 21, 22], B_M_isWord, (0, 0))
def n_M_emit : MethodName := ⟨"RingCouncilModel", "emit", "(II)V"⟩
abbrev m_M_emit : Nat := 139
def B_M_emit : List xB := [
  ([(.aload_n 0, 1, []), (.getfield 16, 3, [12, 3, 3]), (.aload_n 0, 1, []), (.getfield 144, 3, [12, 13, 0]), (.bipush 40, 2, []), (.iadd, 1, []), (.iconst 2, 1, []), (.aload_n 0, 1, []), (.getfield 147, 3, [12, 15, 0]), (.imul, 1, []), (.iadd, 1, []), (.iload_n 1, 1, []), (.iastore, 1, []), (.aload_n 0, 1, []), (.getfield 16, 3, [12, 3, 3]), (.aload_n 0, 1, []), (.getfield 144, 3, [12, 13, 0]), (.bipush 40, 2, []), (.iadd, 1, []), (.iconst 2, 1, []), (.aload_n 0, 1, []), (.getfield 147, 3, [12, 15, 0]), (.imul, 1, []), (.iadd, 1, []), (.iconst 1, 1, []), (.iadd, 1, []), (.iload_n 2, 1, []), (.iastore, 1, []), (.aload_n 0, 1, []), (.dup, 1, []), (.getfield 147, 3, [12, 15, 0]), (.iconst 1, 1, []), (.iadd, 1, []), (.putfield 147, 3, [12, 15, 0]), (.return_, 1, [])], 0, 0)]
def z_M_emit : xMeth := (n_M_emit, prog_14_method_25_code, 3, none, [0], B_M_emit, (0, 0))
def n_M_push : MethodName := ⟨"RingCouncilModel", "push", "(I)V"⟩
abbrev m_M_push : Nat := 140
def B_M_push : List xB := [
  ([(.aload_n 0, 1, []), (.getfield 29, 3, [12, 17, 3]), (.aload_n 0, 1, []), (.getfield 150, 3, [12, 18, 0]), (.iload_n 1, 1, []), (.iastore, 1, []), (.aload_n 0, 1, []), (.dup, 1, []), (.getfield 150, 3, [12, 18, 0]), (.iconst 1, 1, []), (.iadd, 1, []), (.putfield 150, 3, [12, 18, 0]), (.return_, 1, [])], 0, 0)]
def z_M_push : xMeth := (n_M_push, prog_14_method_26_code, 2, none, [0], B_M_push, (0, 0))
def n_M_rank : MethodName := ⟨"RingCouncilModel", "rank", "(I)I"⟩
abbrev m_M_rank : Nat := 141
def B_M_rank : List xB := [
  ([(.iload_n 0, 1, []), (.bipush 40, 2, []), (.if_icmp .lt 7, 3, [2, 1, 1, 0])], 0, 0),
  ([(.iconst 0, 1, []), (.goto 64, 3, [15, 0])], 0, 0),
  ([(.iload_n 0, 1, []), (.bipush 22, 2, []), (.if_icmp .ne 7, 3, [4, 1, 3, 0])], 0, 0),
  ([(.iconst 1, 1, []), (.goto 54, 3, [15, 0])], 0, 0),
  ([(.iload_n 0, 1, []), (.bipush 21, 2, []), (.if_icmp .ne 7, 3, [6, 1, 5, 0])], 0, 0),
  ([(.iconst 2, 1, []), (.goto 44, 3, [15, 0])], 0, 0),
  ([(.iload_n 0, 1, []), (.bipush 20, 2, []), (.if_icmp .ne 7, 3, [8, 1, 7, 0])], 0, 0),
  ([(.iconst 3, 1, []), (.goto 34, 3, [15, 0])], 0, 0),
  ([(.iload_n 0, 1, []), (.bipush 10, 2, []), (.if_icmp .lt 7, 3, [10, 1, 9, 0])], 0, 0),
  ([(.iconst 4, 1, []), (.goto 24, 3, [15, 0])], 0, 0),
  ([(.iload_n 0, 1, []), (.iconst 2, 1, []), (.if_icmp .ne 8, 3, [12, 1, 11, 0])], 0, 0),
  ([(.bipush 7, 2, []), (.goto 14, 3, [15, 0])], 0, 0),
  ([(.iload_n 0, 1, []), (.iconst 5, 1, []), (.if_icmp .lt 8, 3, [14, 0, 13, 0])], 0, 0),
  ([(.bipush 6, 2, []), (.goto 4, 3, [15, 0])], 0, 0),
  ([(.iconst 5, 1, [])], 15, 0),
  ([(.ireturn, 1, [0])], 0, 0)]
def z_M_rank : xMeth := (n_M_rank, prog_14_method_27_code, 1, some FieldType.int, [0, 6, 10, 16, 20, 26, 30, 36, 40, 46, 50, 55, 60, 65, 70, 71], B_M_rank, (0, 0))
def n_M_settle : MethodName := ⟨"RingCouncilModel", "settle", "(I)V"⟩
abbrev m_M_settle : Nat := 142
def B_M_settle : List xB := [
  ([(.aload_n 0, 1, []), (.getfield 150, 3, [12, 18, 0]), (.ifCond .le 85, 3, [5, 0, 1, 3])], 0, 0),
  ([(.aload_n 0, 1, []), (.getfield 29, 3, [12, 17, 3]), (.aload_n 0, 1, []), (.getfield 150, 3, [12, 18, 0]), (.iconst 1, 1, []), (.isub, 1, []), (.iaload, 1, []), (.invokestatic 153, 3, [1, 141, 1, 0]), (.iload_n 1, 1, []), (.if_icmp .lt 67, 3, [5, 0, 2, 3])], 0, 0),
  ([(.aload_n 0, 1, []), (.dup, 1, []), (.getfield 150, 3, [12, 18, 0]), (.iconst 1, 1, []), (.isub, 1, []), (.putfield 150, 3, [12, 18, 0]), (.aload_n 0, 1, []), (.aload_n 0, 1, []), (.getfield 29, 3, [12, 17, 3]), (.aload_n 0, 1, []), (.getfield 150, 3, [12, 18, 0]), (.iaload, 1, []), (.iconst 0, 1, []), (.invokevirtual 156, 3, [1, 139, 2, 12, 1]), (.aload_n 0, 1, []), (.getfield 29, 3, [12, 17, 3]), (.aload_n 0, 1, []), (.getfield 150, 3, [12, 18, 0]), (.iaload, 1, []), (.iconst 2, 1, []), (.if_icmp .eq 17, 3, [4, 3, 3, 3])], 0, 0),
  ([(.aload_n 0, 1, []), (.getfield 29, 3, [12, 17, 3]), (.aload_n 0, 1, []), (.getfield 150, 3, [12, 18, 0]), (.iaload, 1, []), (.bipush 20, 2, []), (.if_icmp .ne (-73), 3, [0, 3, 4, 3])], 0, 0),
  ([(.aload_n 0, 1, []), (.dup, 1, []), (.getfield 160, 3, [12, 19, 0]), (.iconst 1, 1, []), (.isub, 1, []), (.putfield 160, 3, [12, 19, 0]), (.goto (-86), 3, [0, 3])], 0, 0),
  ([(.return_, 1, [])], 0, 0)]
def z_M_settle : xMeth := (n_M_settle, prog_14_method_28_code, 2, none, [0, 7, 25, 62, 76, 89], B_M_settle, (0, 0))
def n_M_whole : MethodName := ⟨"RingCouncilModel", "whole", "()V"⟩
abbrev m_M_whole : Nat := 143
def B_M_whole : List xB := [
  ([(.aload_n 0, 1, []), (.iconst 1, 1, []), (.putfield 163, 3, [12, 20, 1]), (.aload_n 0, 1, []), (.bipush 7, 2, []), (.invokevirtual 167, 3, [1, 142, 1, 12, 1]), (.return_, 1, [])], 0, 0)]
def z_M_whole : xMeth := (n_M_whole, prog_14_method_29_code, 1, none, [0], B_M_whole, (0, 0))
def n_M_marker : MethodName := ⟨"RingCouncilModel", "marker", "()I"⟩
abbrev m_M_marker : Nat := 144
def B_M_marker : List xB := [
  ([(.aload_n 0, 1, []), (.getfield 150, 3, [12, 18, 0]), (.iconst 1, 1, []), (.isub, 1, []), (.istore_n 1, 1, [])], 1, 3),
  ([(.iload_n 1, 1, []), (.ifCond .lt 20, 3, [4, 2, 2, 3])], 0, 0),
  ([(.aload_n 0, 1, []), (.getfield 29, 3, [12, 17, 3]), (.iload_n 1, 1, []), (.iaload, 1, []), (.bipush 40, 2, []), (.if_icmp .ge 9, 3, [4, 2, 3, 3])], 0, 0),
  ([(.iinc 1 (-1), 3, []), (.goto (-18), 3, [1, 3])], 0, 0),
  ([(.iload_n 1, 1, []), (.ireturn, 1, [0])], 0, 0)]
def z_M_marker : xMeth := (n_M_marker, prog_14_method_30_code, 2, some FieldType.int, [0, 7, 11, 22, 28], B_M_marker, (0, 0))
def n_M_kindOpen : MethodName := ⟨"RingCouncilModel", "kindOpen", "(Z)I"⟩
abbrev m_M_kindOpen : Nat := 145
def B_M_kindOpen : List xB := [
  ([(.aload_n 0, 1, []), (.invokevirtual 170, 3, [1, 144, 0, 12, 0]), (.istore_n 2, 1, []), (.iload_n 2, 1, []), (.ifCond .lt 12, 3, [2, 2, 1, 5])], 0, 0),
  ([(.aload_n 0, 1, []), (.getfield 29, 3, [12, 17, 3]), (.iload_n 2, 1, []), (.iaload, 1, []), (.goto 14, 3, [5, 0])], 0, 0),
  ([(.iload_n 1, 1, []), (.ifCond .eq 8, 3, [4, 0, 3, 0])], 0, 0),
  ([(.bipush 41, 2, []), (.goto 5, 3, [5, 0])], 0, 0),
  ([(.bipush 40, 2, [])], 5, 0),
  ([(.ireturn, 1, [0])], 0, 0)]
def z_M_kindOpen : xMeth := (n_M_kindOpen, prog_14_method_31_code, 3, some FieldType.int, [0, 9, 18, 22, 27, 29], B_M_kindOpen, (0, 0))
def n_M_isCompared : MethodName := ⟨"RingCouncilModel", "isCompared", "()Z"⟩
abbrev m_M_isCompared : Nat := 146
def B_M_isCompared : List xB := [
  ([(.aload_n 0, 1, []), (.getfield 150, 3, [12, 18, 0]), (.iconst 1, 1, []), (.isub, 1, []), (.istore_n 1, 1, [])], 1, 3),
  ([(.iload_n 1, 1, []), (.ifCond .lt 22, 3, [4, 3, 2, 3])], 0, 0),
  ([(.aload_n 0, 1, []), (.getfield 29, 3, [12, 17, 3]), (.iload_n 1, 1, []), (.iaload, 1, []), (.invokestatic 153, 3, [1, 141, 1, 0]), (.iconst 4, 1, []), (.if_icmp .le 9, 3, [4, 3, 3, 3])], 0, 0),
  ([(.iinc 1 (-1), 3, []), (.goto (-20), 3, [1, 3])], 0, 0),
  ([(.iload_n 1, 1, []), (.ifCond .lt 20, 3, [7, 0, 5, 3])], 0, 0),
  ([(.aload_n 0, 1, []), (.getfield 29, 3, [12, 17, 3]), (.iload_n 1, 1, []), (.iaload, 1, []), (.invokestatic 153, 3, [1, 141, 1, 0]), (.iconst 4, 1, []), (.if_icmp .ne 7, 3, [7, 0, 6, 0])], 0, 0),
  ([(.iconst 1, 1, []), (.goto 4, 3, [8, 0])], 0, 0),
  ([(.iconst 0, 1, [])], 8, 0),
  ([(.ireturn, 1, [1])], 0, 0)]
def z_M_isCompared : xMeth := (n_M_isCompared, prog_14_method_32_code, 2, some FieldType.boolean, [0, 7, 11, 24, 30, 34, 47, 51, 52], B_M_isCompared, (0, 0))
def n_M_isAskAhead : MethodName := ⟨"RingCouncilModel", "isAskAhead", "(Z)Z"⟩
abbrev m_M_isAskAhead : Nat := 147
def B_M_isAskAhead : List xB := [
  ([(.aload_n 0, 1, []), (.iload_n 1, 1, []), (.invokevirtual 174, 3, [1, 145, 1, 12, 0]), (.bipush 41, 2, []), (.if_icmp .ne 52, 3, [5, 0, 1, 1])], 0, 0),
  ([(.aload_n 0, 1, []), (.getfield 150, 3, [12, 18, 0]), (.ifCond .eq 41, 3, [4, 0, 2, 1])], 0, 0),
  ([(.aload_n 0, 1, []), (.getfield 29, 3, [12, 17, 3]), (.aload_n 0, 1, []), (.getfield 150, 3, [12, 18, 0]), (.iconst 1, 1, []), (.isub, 1, []), (.iaload, 1, []), (.bipush 41, 2, []), (.if_icmp .eq 25, 3, [4, 0, 3, 1])], 0, 0),
  ([(.aload_n 0, 1, []), (.getfield 29, 3, [12, 17, 3]), (.aload_n 0, 1, []), (.getfield 150, 3, [12, 18, 0]), (.iconst 1, 1, []), (.isub, 1, []), (.iaload, 1, []), (.invokestatic 153, 3, [1, 141, 1, 0]), (.iconst 1, 1, []), (.iconst 3, 1, []), (.invokestatic 94, 3, [1, 118, 3, 0]), (.ifCond .eq 7, 3, [5, 0, 4, 0])], 0, 0),
  ([(.iconst 1, 1, []), (.goto 4, 3, [6, 0])], 0, 0),
  ([(.iconst 0, 1, [])], 6, 0),
  ([(.ireturn, 1, [1])], 0, 0)]
def z_M_isAskAhead : xMeth := (n_M_isAskAhead, prog_14_method_33_code, 2, some FieldType.boolean, [0, 10, 17, 33, 55, 59, 60], B_M_isAskAhead, (0, 0))
def n_M_opensBy : MethodName := ⟨"RingCouncilModel", "opensBy", "(I)I"⟩
abbrev m_M_opensBy : Nat := 148
def B_M_opensBy : List xB := [
  ([(.aload_n 0, 1, []), (.getfield 160, 3, [12, 19, 0]), (.bipush 8, 2, []), (.if_icmp .ne 5, 3, [2, 3, 1, 0])], 0, 0),
  ([(.iconst 3, 1, []), (.ireturn, 1, [0])], 0, 0),
  ([(.aload_n 0, 1, []), (.dup, 1, []), (.getfield 160, 3, [12, 19, 0]), (.iconst 1, 1, []), (.iadd, 1, []), (.putfield 160, 3, [12, 19, 0]), (.aload_n 0, 1, []), (.iload_n 1, 1, []), (.invokevirtual 178, 3, [1, 140, 1, 12, 1]), (.aload_n 0, 1, []), (.invokevirtual 181, 3, [1, 134, 0, 12, 1]), (.iconst 0, 1, []), (.ireturn, 1, [0])], 0, 0)]
def z_M_opensBy : xMeth := (n_M_opensBy, prog_14_method_34_code, 2, some FieldType.int, [0, 9, 11], B_M_opensBy, (0, 0))
def n_M_beginOne : MethodName := ⟨"RingCouncilModel", "beginOne", "(Z)I"⟩
abbrev m_M_beginOne : Nat := 149
def B_M_beginOne : List xB := [
  ([(.aload_n 0, 1, []), (.getfield 119, 3, [12, 10, 0]), (.iconst 1, 1, []), (.if_icmp .ne 15, 3, [3, 3, 1, 3])], 0, 0),
  ([(.aload_n 0, 1, []), (.getfield 125, 3, [12, 11, 0]), (.sipush 9999, 3, []), (.if_icmp .le 5, 3, [3, 3, 2, 0])], 0, 0),
  ([(.iconst 2, 1, []), (.ireturn, 1, [0])], 0, 0),
  ([(.aload_n 0, 1, []), (.invokevirtual 184, 3, [1, 155, 0, 12, 0]), (.istore_n 2, 1, []), (.aload_n 0, 1, []), (.getfield 119, 3, [12, 10, 0]), (.iconst 1, 1, []), (.if_icmp .eq 7, 3, [5, 5, 4, 7])], 0, 0),
  ([(.iload_n 2, 1, []), (.ifCond .lt 46, 3, [12, 3, 5, 5])], 0, 0),
  ([(.aload_n 0, 1, []), (.aload_n 0, 1, []), (.getfield 119, 3, [12, 10, 0]), (.iconst 1, 1, []), (.if_icmp .ne 7, 3, [7, 5, 6, 5])], 0, 0),
  ([(.iconst 0, 1, []), (.goto 4, 3, [8, 5])], 0, 0),
  ([(.iconst 1, 1, [])], 8, 5),
  ([(.aload_n 0, 1, []), (.getfield 119, 3, [12, 10, 0]), (.iconst 1, 1, []), (.if_icmp .ne 10, 3, [10, 5, 9, 1])], 0, 0),
  ([(.aload_n 0, 1, []), (.getfield 125, 3, [12, 11, 0]), (.goto 4, 3, [11, 1])], 0, 0),
  ([(.iload_n 2, 1, [])], 11, 1),
  ([(.invokevirtual 156, 3, [1, 139, 2, 12, 1]), (.aload_n 0, 1, []), (.invokevirtual 181, 3, [1, 134, 0, 12, 1]), (.aload_n 0, 1, []), (.invokevirtual 187, 3, [1, 143, 0, 12, 1]), (.iconst 0, 1, []), (.ireturn, 1, [0])], 0, 0),
  ([(.aload_n 0, 1, []), (.getfield 119, 3, [12, 10, 0]), (.bipush 40, 2, []), (.if_icmp .ne 10, 3, [14, 3, 13, 1])], 0, 0),
  ([(.aload_n 0, 1, []), (.bipush 40, 2, []), (.invokevirtual 189, 3, [1, 148, 1, 12, 0]), (.ireturn, 1, [0])], 0, 0),
  ([(.aload_n 0, 1, []), (.getfield 119, 3, [12, 10, 0]), (.bipush 45, 2, []), (.if_icmp .ne 9, 3, [16, 3, 15, 1])], 0, 0),
  ([(.aload_n 0, 1, []), (.iconst 2, 1, []), (.invokevirtual 189, 3, [1, 148, 1, 12, 0]), (.ireturn, 1, [0])], 0, 0),
  ([(.aload_n 0, 1, []), (.getfield 119, 3, [12, 10, 0]), (.iconst 2, 1, []), (.if_icmp .ne 21, 3, [19, 3, 17, 3])], 0, 0),
  ([(.aload_n 0, 1, []), (.getfield 132, 3, [12, 12, 2]), (.ldc2_w 192, 3, [26982]), (.lcmp, 1, []), (.ifCond .ne 10, 3, [19, 3, 18, 1])], 0, 0),
  ([(.aload_n 0, 1, []), (.bipush 41, 2, []), (.invokevirtual 189, 3, [1, 148, 1, 12, 0]), (.ireturn, 1, [0])], 0, 0),
  ([(.aload_n 0, 1, []), (.bipush 110, 2, []), (.bipush 111, 2, []), (.bipush 116, 2, []), (.invokestatic 136, 3, [1, 135, 3, 2]), (.invokevirtual 194, 3, [1, 138, 1, 12, 0]), (.ifCond .eq 20, 3, [22, 0, 20, 3])], 0, 0),
  ([(.aload_n 0, 1, []), (.iload_n 1, 1, []), (.invokevirtual 198, 3, [1, 147, 1, 12, 0]), (.ifCond .eq 12, 3, [22, 0, 21, 1])], 0, 0),
  ([(.aload_n 0, 1, []), (.bipush 20, 2, []), (.invokevirtual 189, 3, [1, 148, 1, 12, 0]), (.goto 4, 3, [23, 0])], 0, 0),
  ([(.iconst 1, 1, [])], 23, 0),
  ([(.ireturn, 1, [0])], 0, 0)]
def z_M_beginOne : xMeth := (n_M_beginOne, prog_14_method_35_code, 3, some FieldType.int, [0, 8, 18, 20, 33, 37, 46, 50, 51, 59, 66, 67, 80, 89, 96, 105, 111, 119, 130, 137, 153, 161, 170, 171], B_M_beginOne, (0, 0))
def n_M_compareOf : MethodName := ⟨"RingCouncilModel", "compareOf", "()I"⟩
abbrev m_M_compareOf : Nat := 150
def B_M_compareOf : List xB := [
  ([(.aload_n 0, 1, []), (.getfield 119, 3, [12, 10, 0]), (.bipush 60, 2, []), (.if_icmp .ne 8, 3, [2, 1, 1, 0])], 0, 0),
  ([(.bipush 10, 2, []), (.goto 72, 3, [13, 0])], 0, 0),
  ([(.aload_n 0, 1, []), (.getfield 119, 3, [12, 10, 0]), (.iconst 4, 1, []), (.if_icmp .ne 8, 3, [4, 1, 3, 0])], 0, 0),
  ([(.bipush 11, 2, []), (.goto 59, 3, [13, 0])], 0, 0),
  ([(.aload_n 0, 1, []), (.getfield 119, 3, [12, 10, 0]), (.bipush 62, 2, []), (.if_icmp .ne 8, 3, [6, 1, 5, 0])], 0, 0),
  ([(.bipush 12, 2, []), (.goto 45, 3, [13, 0])], 0, 0),
  ([(.aload_n 0, 1, []), (.getfield 119, 3, [12, 10, 0]), (.iconst 5, 1, []), (.if_icmp .ne 8, 3, [8, 1, 7, 0])], 0, 0),
  ([(.bipush 13, 2, []), (.goto 32, 3, [13, 0])], 0, 0),
  ([(.aload_n 0, 1, []), (.getfield 119, 3, [12, 10, 0]), (.bipush 61, 2, []), (.if_icmp .ne 8, 3, [10, 1, 9, 0])], 0, 0),
  ([(.bipush 14, 2, []), (.goto 18, 3, [13, 0])], 0, 0),
  ([(.aload_n 0, 1, []), (.getfield 119, 3, [12, 10, 0]), (.bipush 35, 2, []), (.if_icmp .ne 8, 3, [12, 0, 11, 0])], 0, 0),
  ([(.bipush 15, 2, []), (.goto 4, 3, [13, 0])], 0, 0),
  ([(.iconst (-1), 1, [])], 13, 0),
  ([(.ireturn, 1, [0])], 0, 0)]
def z_M_compareOf : xMeth := (n_M_compareOf, prog_14_method_36_code, 1, some FieldType.int, [0, 9, 14, 22, 27, 36, 41, 49, 54, 63, 68, 77, 82, 83], B_M_compareOf, (0, 0))
def n_M_betweenOf : MethodName := ⟨"RingCouncilModel", "betweenOf", "(Z)I"⟩
abbrev m_M_betweenOf : Nat := 151
def B_M_betweenOf : List xB := [
  ([(.aload_n 0, 1, []), (.getfield 119, 3, [12, 10, 0]), (.bipush 43, 2, []), (.if_icmp .ne 5, 3, [2, 3, 1, 0])], 0, 0),
  ([(.iconst 3, 1, []), (.ireturn, 1, [0])], 0, 0),
  ([(.aload_n 0, 1, []), (.getfield 119, 3, [12, 10, 0]), (.bipush 45, 2, []), (.if_icmp .ne 5, 3, [4, 3, 3, 0])], 0, 0),
  ([(.iconst 4, 1, []), (.ireturn, 1, [0])], 0, 0),
  ([(.aload_n 0, 1, []), (.getfield 119, 3, [12, 10, 0]), (.bipush 42, 2, []), (.if_icmp .ne 5, 3, [6, 3, 5, 0])], 0, 0),
  ([(.iconst 5, 1, []), (.ireturn, 1, [0])], 0, 0),
  ([(.aload_n 0, 1, []), (.getfield 119, 3, [12, 10, 0]), (.bipush 47, 2, []), (.if_icmp .ne 6, 3, [8, 3, 7, 0])], 0, 0),
  ([(.bipush 6, 2, []), (.ireturn, 1, [0])], 0, 0),
  ([(.aload_n 0, 1, []), (.iload_n 1, 1, []), (.invokevirtual 174, 3, [1, 145, 1, 12, 0]), (.bipush 41, 2, []), (.if_icmp .eq 5, 3, [10, 1, 9, 0])], 0, 0),
  ([(.iconst (-1), 1, []), (.ireturn, 1, [0])], 0, 0),
  ([(.aload_n 0, 1, []), (.invokevirtual 202, 3, [1, 146, 0, 12, 0]), (.ifCond .ne 8, 3, [12, 1, 11, 1])], 0, 0),
  ([(.aload_n 0, 1, []), (.invokevirtual 206, 3, [1, 150, 0, 12, 0]), (.ireturn, 1, [0])], 0, 0),
  ([(.aload_n 0, 1, []), (.bipush 97, 2, []), (.bipush 110, 2, []), (.bipush 100, 2, []), (.invokestatic 136, 3, [1, 135, 3, 2]), (.invokevirtual 194, 3, [1, 138, 1, 12, 0]), (.ifCond .eq 8, 3, [14, 1, 13, 0])], 0, 0),
  ([(.bipush 21, 2, []), (.goto 28, 3, [18, 0])], 0, 0),
  ([(.aload_n 0, 1, []), (.getfield 119, 3, [12, 10, 0]), (.iconst 2, 1, []), (.if_icmp .ne 19, 3, [17, 0, 15, 1])], 0, 0),
  ([(.aload_n 0, 1, []), (.getfield 132, 3, [12, 12, 2]), (.ldc2_w 209, 3, [28530]), (.lcmp, 1, []), (.ifCond .ne 8, 3, [17, 0, 16, 0])], 0, 0),
  ([(.bipush 22, 2, []), (.goto 4, 3, [18, 0])], 0, 0),
  ([(.iconst (-1), 1, [])], 18, 0),
  ([(.ireturn, 1, [0])], 0, 0)]
def z_M_betweenOf : xMeth := (n_M_betweenOf, prog_14_method_37_code, 2, some FieldType.int, [0, 9, 11, 20, 22, 31, 33, 42, 45, 55, 57, 64, 69, 85, 90, 98, 109, 114, 115], B_M_betweenOf, (0, 0))
def n_M_behindOne : MethodName := ⟨"RingCouncilModel", "behindOne", "(Z)Z"⟩
abbrev m_M_behindOne : Nat := 152
def B_M_behindOne : List xB := [
  ([(.aload_n 0, 1, []), (.iload_n 1, 1, []), (.invokevirtual 211, 3, [1, 151, 1, 12, 0]), (.istore_n 2, 1, []), (.aload_n 0, 1, []), (.invokevirtual 170, 3, [1, 144, 0, 12, 0]), (.istore_n 3, 1, []), (.iload_n 3, 1, []), (.ifCond .ge 7, 3, [2, 13, 1, 13])], 0, 0),
  ([(.iconst (-1), 1, []), (.goto 9, 3, [3, 13])], 0, 0),
  ([(.aload_n 0, 1, []), (.getfield 29, 3, [12, 17, 3]), (.iload_n 3, 1, []), (.iaload, 1, [])], 3, 13),
  ([(.istore 4, 2, []), (.iload_n 2, 1, []), (.ifCond .lt 24, 3, [5, 25, 4, 5])], 0, 0),
  ([(.aload_n 0, 1, []), (.iload_n 2, 1, []), (.invokestatic 153, 3, [1, 141, 1, 0]), (.invokevirtual 167, 3, [1, 142, 1, 12, 1]), (.aload_n 0, 1, []), (.iload_n 2, 1, []), (.invokevirtual 178, 3, [1, 140, 1, 12, 1]), (.aload_n 0, 1, []), (.iconst 0, 1, []), (.putfield 163, 3, [12, 20, 1]), (.goto 152, 3, [19, 1])], 0, 0),
  ([(.aload_n 0, 1, []), (.getfield 119, 3, [12, 10, 0]), (.bipush 41, 2, []), (.if_icmp .ne 10, 3, [7, 25, 6, 25])], 0, 0),
  ([(.iload 4, 2, []), (.bipush 40, 2, []), (.if_icmp .eq 26, 3, [9, 17, 7, 25])], 0, 0),
  ([(.aload_n 0, 1, []), (.bipush 101, 2, []), (.bipush 110, 2, []), (.bipush 100, 2, []), (.invokestatic 136, 3, [1, 135, 3, 2]), (.invokevirtual 194, 3, [1, 138, 1, 12, 0]), (.ifCond .eq 56, 3, [12, 25, 8, 25])], 0, 0),
  ([(.iload 4, 2, []), (.bipush 43, 2, []), (.if_icmp .ne 49, 3, [12, 25, 9, 17])], 0, 0),
  ([(.aload_n 0, 1, []), (.iconst 1, 1, []), (.invokevirtual 167, 3, [1, 142, 1, 12, 1]), (.aload_n 0, 1, []), (.dup, 1, []), (.getfield 150, 3, [12, 18, 0]), (.iconst 1, 1, []), (.isub, 1, []), (.putfield 150, 3, [12, 18, 0]), (.aload_n 0, 1, []), (.dup, 1, []), (.getfield 160, 3, [12, 19, 0]), (.iconst 1, 1, []), (.isub, 1, []), (.putfield 160, 3, [12, 19, 0]), (.iload 4, 2, []), (.bipush 43, 2, []), (.if_icmp .ne 10, 3, [11, 1, 10, 1])], 0, 0),
  ([(.aload_n 0, 1, []), (.bipush 23, 2, []), (.iconst 0, 1, []), (.invokevirtual 156, 3, [1, 139, 2, 12, 1])], 11, 1),
  ([(.aload_n 0, 1, []), (.invokevirtual 187, 3, [1, 143, 0, 12, 1]), (.goto 67, 3, [19, 1])], 0, 0),
  ([(.aload_n 0, 1, []), (.getfield 119, 3, [12, 10, 0]), (.bipush 63, 2, []), (.if_icmp .ne 17, 3, [15, 25, 13, 25])], 0, 0),
  ([(.iload 4, 2, []), (.bipush 41, 2, []), (.if_icmp .ne 10, 3, [15, 25, 14, 25])], 0, 0),
  ([(.aload_n 0, 1, []), (.invokevirtual 202, 3, [1, 146, 0, 12, 0]), (.ifCond .ne 19, 3, [17, 25, 15, 25])], 0, 0),
  ([(.aload_n 0, 1, []), (.getfield 119, 3, [12, 10, 0]), (.bipush 58, 2, []), (.if_icmp .ne 33, 3, [18, 0, 16, 25])], 0, 0),
  ([(.iload 4, 2, []), (.bipush 42, 2, []), (.if_icmp .ne 26, 3, [18, 0, 17, 25])], 0, 0),
  ([(.aload_n 0, 1, []), (.iconst 1, 1, []), (.invokevirtual 167, 3, [1, 142, 1, 12, 1]), (.aload_n 0, 1, []), (.getfield 29, 3, [12, 17, 3]), (.iload_n 3, 1, []), (.iload 4, 2, []), (.iconst 1, 1, []), (.iadd, 1, []), (.iastore, 1, []), (.aload_n 0, 1, []), (.iconst 0, 1, []), (.putfield 163, 3, [12, 20, 1]), (.goto 5, 3, [19, 1])], 0, 0),
  ([(.iconst 0, 1, []), (.ireturn, 1, [1])], 0, 0),
  ([(.aload_n 0, 1, []), (.invokevirtual 181, 3, [1, 134, 0, 12, 1]), (.iconst 1, 1, []), (.ireturn, 1, [1])], 0, 0)]
def z_M_behindOne : xMeth := (n_M_behindOne, prog_14_method_38_code, 5, some FieldType.boolean, [0, 15, 19, 25, 31, 52, 61, 68, 84, 91, 123, 130, 137, 146, 153, 160, 169, 176, 199, 201], B_M_behindOne, (0, 0))
def n_M_parsed : MethodName := ⟨"RingCouncilModel", "parsed", "(Z)I"⟩
abbrev m_M_parsed : Nat := 153
def B_M_parsed : List xB := [
  ([(.aload_n 0, 1, []), (.iconst 0, 1, []), (.putfield 150, 3, [12, 18, 0]), (.aload_n 0, 1, []), (.iconst 0, 1, []), (.putfield 163, 3, [12, 20, 1]), (.iconst 1, 1, []), (.istore_n 2, 1, [])], 1, 7),
  ([(.iload_n 2, 1, []), (.ifCond .eq 34, 3, [7, 3, 2, 7])], 0, 0),
  ([(.aload_n 0, 1, []), (.getfield 163, 3, [12, 20, 1]), (.ifCond .eq 12, 3, [4, 7, 3, 3])], 0, 0),
  ([(.aload_n 0, 1, []), (.iload_n 1, 1, []), (.invokevirtual 214, 3, [1, 152, 1, 12, 0]), (.istore_n 2, 1, []), (.goto (-17), 3, [1, 7])], 0, 0),
  ([(.aload_n 0, 1, []), (.iload_n 1, 1, []), (.invokevirtual 217, 3, [1, 149, 1, 12, 0]), (.istore_n 3, 1, []), (.iload_n 3, 1, []), (.ifCond .eq 5, 3, [6, 7, 5, 8])], 0, 0),
  ([(.iload_n 3, 1, []), (.ireturn, 1, [0])], 0, 0),
  ([(.goto (-32), 3, [1, 7])], 0, 0),
  ([(.aload_n 0, 1, []), (.invokevirtual 170, 3, [1, 144, 0, 12, 0]), (.ifCond .ge 14, 3, [10, 0, 8, 3])], 0, 0),
  ([(.iload_n 1, 1, []), (.ifCond .eq 12, 3, [11, 1, 9, 1])], 0, 0),
  ([(.aload_n 0, 1, []), (.invokevirtual 202, 3, [1, 146, 0, 12, 0]), (.ifCond .ne 5, 3, [11, 1, 10, 0])], 0, 0),
  ([(.iconst 1, 1, []), (.ireturn, 1, [0])], 0, 0),
  ([(.aload_n 0, 1, []), (.iconst 1, 1, []), (.invokevirtual 167, 3, [1, 142, 1, 12, 1]), (.iconst 0, 1, []), (.ireturn, 1, [0])], 0, 0)]
def z_M_parsed : xMeth := (n_M_parsed, prog_14_method_39_code, 4, some FieldType.int, [0, 12, 16, 23, 32, 42, 44, 47, 54, 58, 65, 67], B_M_parsed, (0, 0))
def n_M_isGotRight : MethodName := ⟨"RingCouncilModel", "isGotRight", "()Z"⟩
abbrev m_M_isGotRight : Nat := 154
def B_M_isGotRight : List xB := [
  ([(.aload_n 0, 1, []), (.getfield 109, 3, [12, 8, 0]), (.aload_n 0, 1, []), (.getfield 116, 3, [12, 9, 0]), (.isub, 1, []), (.bipush 8, 2, []), (.if_icmp .ne 61, 3, [5, 0, 1, 1])], 0, 0),
  ([(.aload_n 0, 1, []), (.aload_n 0, 1, []), (.getfield 116, 3, [12, 9, 0]), (.invokevirtual 112, 3, [1, 131, 1, 12, 0]), (.bipush 103, 2, []), (.if_icmp .ne 48, 3, [5, 0, 2, 1])], 0, 0),
  ([(.aload_n 0, 1, []), (.aload_n 0, 1, []), (.getfield 116, 3, [12, 9, 0]), (.iconst 1, 1, []), (.iadd, 1, []), (.invokevirtual 112, 3, [1, 131, 1, 12, 0]), (.bipush 111, 2, []), (.if_icmp .ne 33, 3, [5, 0, 3, 1])], 0, 0),
  ([(.aload_n 0, 1, []), (.aload_n 0, 1, []), (.getfield 116, 3, [12, 9, 0]), (.iconst 2, 1, []), (.iadd, 1, []), (.invokevirtual 112, 3, [1, 131, 1, 12, 0]), (.bipush 116, 2, []), (.if_icmp .ne 18, 3, [5, 0, 4, 1])], 0, 0),
  ([(.aload_n 0, 1, []), (.aload_n 0, 1, []), (.getfield 116, 3, [12, 9, 0]), (.iconst 3, 1, []), (.iadd, 1, []), (.invokevirtual 112, 3, [1, 131, 1, 12, 0]), (.bipush 114, 2, []), (.if_icmp .eq 5, 3, [6, 1, 5, 0])], 0, 0),
  ([(.iconst 0, 1, []), (.ireturn, 1, [1])], 0, 0),
  ([(.aload_n 0, 1, []), (.aload_n 0, 1, []), (.getfield 116, 3, [12, 9, 0]), (.iconst 4, 1, []), (.iadd, 1, []), (.invokevirtual 112, 3, [1, 131, 1, 12, 0]), (.bipush 105, 2, []), (.if_icmp .ne 54, 3, [11, 0, 7, 1])], 0, 0),
  ([(.aload_n 0, 1, []), (.aload_n 0, 1, []), (.getfield 116, 3, [12, 9, 0]), (.iconst 5, 1, []), (.iadd, 1, []), (.invokevirtual 112, 3, [1, 131, 1, 12, 0]), (.bipush 103, 2, []), (.if_icmp .ne 39, 3, [11, 0, 8, 1])], 0, 0),
  ([(.aload_n 0, 1, []), (.aload_n 0, 1, []), (.getfield 116, 3, [12, 9, 0]), (.bipush 6, 2, []), (.iadd, 1, []), (.invokevirtual 112, 3, [1, 131, 1, 12, 0]), (.bipush 104, 2, []), (.if_icmp .ne 23, 3, [11, 0, 9, 1])], 0, 0),
  ([(.aload_n 0, 1, []), (.aload_n 0, 1, []), (.getfield 116, 3, [12, 9, 0]), (.bipush 7, 2, []), (.iadd, 1, []), (.invokevirtual 112, 3, [1, 131, 1, 12, 0]), (.bipush 116, 2, []), (.if_icmp .ne 7, 3, [11, 0, 10, 0])], 0, 0),
  ([(.iconst 1, 1, []), (.goto 4, 3, [12, 0])], 0, 0),
  ([(.iconst 0, 1, [])], 12, 0),
  ([(.ireturn, 1, [1])], 0, 0)]
def z_M_isGotRight : xMeth := (n_M_isGotRight, prog_14_method_40_code, 1, some FieldType.boolean, [0, 14, 27, 42, 57, 72, 74, 89, 104, 120, 136, 140, 141], B_M_isGotRight, (0, 0))
def n_M_nameOf : MethodName := ⟨"RingCouncilModel", "nameOf", "()I"⟩
abbrev m_M_nameOf : Nat := 155
def B_M_nameOf : List xB := [
  ([(.aload_n 0, 1, []), (.getfield 119, 3, [12, 10, 0]), (.iconst 2, 1, []), (.if_icmp .eq 5, 3, [2, 1, 1, 0])], 0, 0),
  ([(.iconst (-1), 1, []), (.ireturn, 1, [0])], 0, 0),
  ([(.aload_n 0, 1, []), (.getfield 132, 3, [12, 12, 2]), (.ldc2_w 220, 3, [28005]), (.lcmp, 1, []), (.ifCond .ne 5, 3, [4, 1, 3, 0])], 0, 0),
  ([(.iconst 0, 1, []), (.ireturn, 1, [0])], 0, 0),
  ([(.aload_n 0, 1, []), (.getfield 132, 3, [12, 12, 2]), (.bipush 107, 2, []), (.bipush 101, 2, []), (.bipush 112, 2, []), (.bipush 116, 2, []), (.invokestatic 222, 3, [1, 137, 4, 2]), (.lcmp, 1, []), (.ifCond .ne 5, 3, [6, 1, 5, 0])], 0, 0),
  ([(.iconst 1, 1, []), (.ireturn, 1, [0])], 0, 0),
  ([(.aload_n 0, 1, []), (.getfield 132, 3, [12, 12, 2]), (.bipush 103, 2, []), (.bipush 111, 2, []), (.bipush 116, 2, []), (.invokestatic 136, 3, [1, 135, 3, 2]), (.bipush 32, 2, []), (.lshl, 1, []), (.bipush 108, 2, []), (.bipush 101, 2, []), (.bipush 102, 2, []), (.bipush 116, 2, []), (.invokestatic 222, 3, [1, 137, 4, 2]), (.lor, 1, []), (.lcmp, 1, []), (.ifCond .ne 5, 3, [8, 1, 7, 0])], 0, 0),
  ([(.iconst 2, 1, []), (.ireturn, 1, [0])], 0, 0),
  ([(.aload_n 0, 1, []), (.invokevirtual 226, 3, [1, 154, 0, 12, 0]), (.ifCond .eq 5, 3, [10, 1, 9, 0])], 0, 0),
  ([(.iconst 3, 1, []), (.ireturn, 1, [0])], 0, 0),
  ([(.aload_n 0, 1, []), (.getfield 132, 3, [12, 12, 2]), (.bipush 98, 2, []), (.bipush 101, 2, []), (.bipush 108, 2, []), (.bipush 108, 2, []), (.invokestatic 222, 3, [1, 137, 4, 2]), (.lcmp, 1, []), (.ifCond .ne 5, 3, [12, 1, 11, 0])], 0, 0),
  ([(.iconst 4, 1, []), (.ireturn, 1, [0])], 0, 0),
  ([(.aload_n 0, 1, []), (.getfield 132, 3, [12, 12, 2]), (.bipush 104, 2, []), (.bipush 111, 2, []), (.bipush 117, 2, []), (.bipush 114, 2, []), (.invokestatic 222, 3, [1, 137, 4, 2]), (.lcmp, 1, []), (.ifCond .ne 5, 3, [14, 1, 13, 0])], 0, 0),
  ([(.iconst 5, 1, []), (.ireturn, 1, [0])], 0, 0),
  ([(.aload_n 0, 1, []), (.getfield 132, 3, [12, 12, 2]), (.bipush 102, 2, []), (.bipush 105, 2, []), (.bipush 114, 2, []), (.bipush 115, 2, []), (.bipush 116, 2, []), (.invokestatic 140, 3, [1, 136, 5, 2]), (.lcmp, 1, []), (.ifCond .ne 8, 3, [16, 1, 15, 0])], 0, 0),
  ([(.bipush 6, 2, []), (.goto 30, 3, [19, 0])], 0, 0),
  ([(.aload_n 0, 1, []), (.getfield 132, 3, [12, 12, 2]), (.bipush 114, 2, []), (.bipush 111, 2, []), (.bipush 111, 2, []), (.bipush 109, 2, []), (.bipush 115, 2, []), (.invokestatic 140, 3, [1, 136, 5, 2]), (.lcmp, 1, []), (.ifCond .ne 8, 3, [18, 0, 17, 0])], 0, 0),
  ([(.bipush 7, 2, []), (.goto 4, 3, [19, 0])], 0, 0),
  ([(.iconst (-1), 1, [])], 19, 0),
  ([(.ireturn, 1, [0])], 0, 0)]
def z_M_nameOf : xMeth := (n_M_nameOf, prog_14_method_41_code, 1, some FieldType.int, [0, 8, 10, 21, 23, 42, 44, 76, 78, 85, 87, 106, 108, 127, 129, 150, 155, 176, 181, 182], B_M_nameOf, (0, 0))
def n_M_sortOf : MethodName := ⟨"RingCouncilModel", "sortOf", "()I"⟩
abbrev m_M_sortOf : Nat := 156
def B_M_sortOf : List xB := [
  ([(.aload_n 0, 1, []), (.bipush 107, 2, []), (.bipush 101, 2, []), (.bipush 101, 2, []), (.bipush 112, 2, []), (.invokestatic 222, 3, [1, 137, 4, 2]), (.invokevirtual 194, 3, [1, 138, 1, 12, 0]), (.ifCond .eq 5, 3, [2, 1, 1, 0])], 0, 0),
  ([(.iconst 0, 1, []), (.ireturn, 1, [0])], 0, 0),
  ([(.aload_n 0, 1, []), (.bipush 108, 2, []), (.bipush 101, 2, []), (.bipush 102, 2, []), (.bipush 116, 2, []), (.invokestatic 222, 3, [1, 137, 4, 2]), (.invokevirtual 194, 3, [1, 138, 1, 12, 0]), (.ifCond .eq 5, 3, [4, 1, 3, 0])], 0, 0),
  ([(.iconst 1, 1, []), (.ireturn, 1, [0])], 0, 0),
  ([(.aload_n 0, 1, []), (.bipush 114, 2, []), (.bipush 105, 2, []), (.bipush 103, 2, []), (.bipush 104, 2, []), (.bipush 116, 2, []), (.invokestatic 140, 3, [1, 136, 5, 2]), (.invokevirtual 194, 3, [1, 138, 1, 12, 0]), (.ifCond .eq 5, 3, [6, 1, 5, 0])], 0, 0),
  ([(.iconst 2, 1, []), (.ireturn, 1, [0])], 0, 0),
  ([(.aload_n 0, 1, []), (.bipush 119, 2, []), (.bipush 111, 2, []), (.bipush 114, 2, []), (.bipush 100, 2, []), (.invokestatic 222, 3, [1, 137, 4, 2]), (.invokevirtual 194, 3, [1, 138, 1, 12, 0]), (.ifCond .eq 7, 3, [8, 1, 7, 0])], 0, 0),
  ([(.iconst 3, 1, []), (.goto 26, 3, [11, 0])], 0, 0),
  ([(.aload_n 0, 1, []), (.bipush 114, 2, []), (.bipush 111, 2, []), (.bipush 112, 2, []), (.bipush 101, 2, []), (.invokestatic 222, 3, [1, 137, 4, 2]), (.invokevirtual 194, 3, [1, 138, 1, 12, 0]), (.ifCond .eq 7, 3, [10, 0, 9, 0])], 0, 0),
  ([(.iconst 4, 1, []), (.goto 4, 3, [11, 0])], 0, 0),
  ([(.iconst (-1), 1, [])], 11, 0),
  ([(.ireturn, 1, [0])], 0, 0)]
def z_M_sortOf : xMeth := (n_M_sortOf, prog_14_method_42_code, 1, some FieldType.int, [0, 18, 20, 38, 40, 60, 62, 80, 84, 102, 106, 107], B_M_sortOf, (0, 0))
def n_M_clause : MethodName := ⟨"RingCouncilModel", "clause", "()I"⟩
abbrev m_M_clause : Nat := 157
def B_M_clause : List xB := [
  ([(.aload_n 0, 1, []), (.invokevirtual 229, 3, [1, 156, 0, 12, 0]), (.istore_n 1, 1, []), (.iload_n 1, 1, []), (.ifCond .ge 5, 3, [2, 3, 1, 0])], 0, 0),
  ([(.iconst 1, 1, []), (.ireturn, 1, [0])], 0, 0),
  ([(.iload_n 1, 1, []), (.iconst 4, 1, []), (.if_icmp .ge 17, 3, [5, 3, 3, 3])], 0, 0),
  ([(.aload_n 0, 1, []), (.getfield 232, 3, [12, 21, 0]), (.iload_n 1, 1, []), (.ishr, 1, []), (.iconst 1, 1, []), (.iand, 1, []), (.iconst 1, 1, []), (.if_icmp .ne 5, 3, [5, 3, 4, 0])], 0, 0),
  ([(.iconst 4, 1, []), (.ireturn, 1, [0])], 0, 0),
  ([(.aload_n 0, 1, []), (.getfield 16, 3, [12, 3, 3]), (.aload_n 0, 1, []), (.getfield 144, 3, [12, 13, 0]), (.iaload, 1, []), (.istore_n 2, 1, []), (.iload_n 2, 1, []), (.bipush 12, 2, []), (.if_icmp .ne 5, 3, [7, 7, 6, 0])], 0, 0),
  ([(.iconst 5, 1, []), (.ireturn, 1, [0])], 0, 0),
  ([(.iload_n 1, 1, []), (.iconst 4, 1, []), (.if_icmp .ge 15, 3, [9, 7, 8, 7])], 0, 0),
  ([(.aload_n 0, 1, []), (.dup, 1, []), (.getfield 232, 3, [12, 21, 0]), (.iconst 1, 1, []), (.iload_n 1, 1, []), (.ishl, 1, []), (.ior, 1, []), (.putfield 232, 3, [12, 21, 0])], 9, 7),
  ([(.aload_n 0, 1, []), (.invokevirtual 181, 3, [1, 134, 0, 12, 1]), (.aload_n 0, 1, []), (.getfield 144, 3, [12, 13, 0]), (.iconst 1, 1, []), (.iadd, 1, []), (.iconst 3, 1, []), (.iload_n 2, 1, []), (.imul, 1, []), (.iadd, 1, []), (.istore_n 3, 1, []), (.aload_n 0, 1, []), (.getfield 16, 3, [12, 3, 3]), (.iload_n 3, 1, []), (.iload_n 1, 1, []), (.iastore, 1, []), (.aload_n 0, 1, []), (.getfield 16, 3, [12, 3, 3]), (.iload_n 3, 1, []), (.iconst 1, 1, []), (.iadd, 1, []), (.aload_n 0, 1, []), (.getfield 147, 3, [12, 15, 0]), (.iastore, 1, []), (.aload_n 0, 1, []), (.iload_n 1, 1, []), (.iconst 4, 1, []), (.if_icmp .ne 7, 3, [11, 9, 10, 9])], 0, 0),
  ([(.iconst 1, 1, []), (.goto 4, 3, [12, 9])], 0, 0),
  ([(.iconst 0, 1, [])], 12, 9),
  ([(.invokevirtual 235, 3, [1, 153, 1, 12, 0]), (.istore 4, 2, []), (.iload 4, 2, []), (.ifCond .eq 6, 3, [14, 9, 13, 16])], 0, 0),
  ([(.iload 4, 2, []), (.ireturn, 1, [0])], 0, 0),
  ([(.aload_n 0, 1, []), (.getfield 16, 3, [12, 3, 3]), (.iload_n 3, 1, []), (.iconst 2, 1, []), (.iadd, 1, []), (.aload_n 0, 1, []), (.getfield 147, 3, [12, 15, 0]), (.iastore, 1, []), (.aload_n 0, 1, []), (.getfield 16, 3, [12, 3, 3]), (.aload_n 0, 1, []), (.getfield 144, 3, [12, 13, 0]), (.dup2, 1, []), (.iaload, 1, []), (.iconst 1, 1, []), (.iadd, 1, []), (.iastore, 1, []), (.aload_n 0, 1, []), (.getfield 119, 3, [12, 10, 0]), (.bipush 59, 2, []), (.if_icmp .eq 5, 3, [16, 1, 15, 0])], 0, 0),
  ([(.iconst 1, 1, []), (.ireturn, 1, [0])], 0, 0),
  ([(.aload_n 0, 1, []), (.invokevirtual 181, 3, [1, 134, 0, 12, 1]), (.iconst 0, 1, []), (.ireturn, 1, [0])], 0, 0)]
def z_M_clause : xMeth := (n_M_clause, prog_14_method_43_code, 5, some FieldType.int, [0, 9, 11, 16, 28, 30, 46, 48, 53, 65, 105, 109, 110, 120, 123, 157, 159], B_M_clause, (0, 0))
def n_M_readText : MethodName := ⟨"RingCouncilModel", "readText", "()I"⟩
abbrev m_M_readText : Nat := 158
def B_M_readText : List xB := [
  ([(.aload_n 0, 1, []), (.sipush 645, 3, []), (.aload_n 0, 1, []), (.getfield 7, 3, [12, 0, 3]), (.iconst 0, 1, []), (.iaload, 1, []), (.imul, 1, []), (.putfield 144, 3, [12, 13, 0]), (.aload_n 0, 1, []), (.getfield 16, 3, [12, 3, 3]), (.aload_n 0, 1, []), (.getfield 144, 3, [12, 13, 0]), (.iconst 0, 1, []), (.iastore, 1, []), (.aload_n 0, 1, []), (.iconst 0, 1, []), (.putfield 147, 3, [12, 15, 0]), (.aload_n 0, 1, []), (.iconst 0, 1, []), (.putfield 160, 3, [12, 19, 0]), (.aload_n 0, 1, []), (.iconst 0, 1, []), (.putfield 232, 3, [12, 21, 0]), (.aload_n 0, 1, []), (.iconst 0, 1, []), (.putfield 109, 3, [12, 8, 0]), (.aload_n 0, 1, []), (.invokevirtual 181, 3, [1, 134, 0, 12, 1])], 1, 1),
  ([(.aload_n 0, 1, []), (.getfield 119, 3, [12, 10, 0]), (.ifCond .eq 17, 3, [5, 0, 2, 1])], 0, 0),
  ([(.aload_n 0, 1, []), (.invokevirtual 238, 3, [1, 157, 0, 12, 0]), (.istore_n 1, 1, []), (.iload_n 1, 1, []), (.ifCond .eq 5, 3, [4, 1, 3, 2])], 0, 0),
  ([(.iload_n 1, 1, []), (.ireturn, 1, [0])], 0, 0),
  ([(.goto (-18), 3, [1, 1])], 0, 0),
  ([(.iconst 0, 1, []), (.ireturn, 1, [0])], 0, 0)]
def z_M_readText : xMeth := (n_M_readText, prog_14_method_44_code, 2, some FieldType.int, [0, 48, 55, 64, 66, 69], B_M_readText, (0, 0))
def n_M_text : MethodName := ⟨"RingCouncilModel", "text", "()I"⟩
abbrev m_M_text : Nat := 159
def B_M_text : List xB := [
  ([(.aload_n 0, 1, []), (.getfield 7, 3, [12, 0, 3]), (.iconst 0, 1, []), (.iaload, 1, []), (.iconst 4, 1, []), (.if_icmp .ne 5, 3, [2, 1, 1, 0])], 0, 0),
  ([(.iconst (-1), 1, []), (.ireturn, 1, [0])], 0, 0),
  ([(.aload_n 0, 1, []), (.aload_n 0, 1, []), (.invokevirtual 241, 3, [1, 158, 0, 12, 0]), (.putfield 22, 3, [12, 6, 0]), (.aload_n 0, 1, []), (.aload_n 0, 1, []), (.getfield 22, 3, [12, 6, 0]), (.ifCond .ne 7, 3, [4, 1, 3, 1])], 0, 0),
  ([(.iconst (-1), 1, []), (.goto 7, 3, [5, 1])], 0, 0),
  ([(.aload_n 0, 1, []), (.getfield 116, 3, [12, 9, 0])], 5, 1),
  ([(.putfield 26, 3, [12, 7, 0]), (.aload_n 0, 1, []), (.iconst 0, 1, []), (.putfield 102, 3, [12, 5, 0]), (.aload_n 0, 1, []), (.getfield 22, 3, [12, 6, 0]), (.ifCond .eq 5, 3, [7, 1, 6, 0])], 0, 0),
  ([(.iconst (-1), 1, []), (.ireturn, 1, [0])], 0, 0),
  ([(.aload_n 0, 1, []), (.getfield 7, 3, [12, 0, 3]), (.iconst 0, 1, []), (.dup2, 1, []), (.iaload, 1, []), (.iconst 1, 1, []), (.iadd, 1, []), (.iastore, 1, []), (.aload_n 0, 1, []), (.getfield 7, 3, [12, 0, 3]), (.iconst 0, 1, []), (.iaload, 1, []), (.iconst 1, 1, []), (.isub, 1, []), (.ireturn, 1, [0])], 0, 0)]
def z_M_text : xMeth := (n_M_text, prog_14_method_45_code, 1, some FieldType.int, [0, 10, 12, 28, 32, 36, 51, 53], B_M_text, (0, 0))
def n_M_fault : MethodName := ⟨"RingCouncilModel", "fault", "(I)I"⟩
abbrev m_M_fault : Nat := 160
def B_M_fault : List xB := [
  ([(.iload_n 1, 1, []), (.ifCond .ne 10, 3, [2, 3, 1, 1])], 0, 0),
  ([(.aload_n 0, 1, []), (.getfield 22, 3, [12, 6, 0]), (.goto 16, 3, [5, 0])], 0, 0),
  ([(.iload_n 1, 1, []), (.iconst 1, 1, []), (.if_icmp .ne 10, 3, [4, 0, 3, 1])], 0, 0),
  ([(.aload_n 0, 1, []), (.getfield 26, 3, [12, 7, 0]), (.goto 4, 3, [5, 0])], 0, 0),
  ([(.iconst (-1), 1, [])], 5, 0),
  ([(.ireturn, 1, [0])], 0, 0)]
def z_M_fault : xMeth := (n_M_fault, prog_14_method_46_code, 2, some FieldType.int, [0, 4, 11, 16, 23, 24], B_M_fault, (0, 0))
def n_M_by : MethodName := ⟨"RingCouncilModel", "by", "(I)Z"⟩
abbrev m_M_by : Nat := 161
def B_M_by : List xB := [
  ([(.iload_n 1, 1, []), (.iconst (-1), 1, []), (.aload_n 0, 1, []), (.getfield 7, 3, [12, 0, 3]), (.iconst 0, 1, []), (.iaload, 1, []), (.iconst 1, 1, []), (.isub, 1, []), (.invokestatic 94, 3, [1, 118, 3, 0]), (.ifCond .ne 5, 3, [2, 3, 1, 0])], 0, 0),
  ([(.iconst 0, 1, []), (.ireturn, 1, [1])], 0, 0),
  ([(.aload_n 0, 1, []), (.getfield 7, 3, [12, 0, 3]), (.iconst 1, 1, []), (.iload_n 1, 1, []), (.iastore, 1, []), (.iconst 1, 1, []), (.ireturn, 1, [1])], 0, 0)]
def z_M_by : xMeth := (n_M_by, prog_14_method_47_code, 2, some FieldType.boolean, [0, 16, 18], B_M_by, (0, 0))
def n_M_clip : MethodName := ⟨"RingCouncilModel", "clip", "(J)J"⟩
abbrev m_M_clip : Nat := 162
def B_M_clip : List xB := [
  ([(.lload_n 0, 1, []), (.ldc2_w 244, 3, [1000000]), (.lcmp, 1, []), (.ifCond .le 9, 3, [2, 1, 1, 0])], 0, 0),
  ([(.ldc2_w 244, 3, [1000000]), (.goto 18, 3, [5, 0])], 0, 0),
  ([(.lload_n 0, 1, []), (.ldc2_w 246, 3, [18446744073708551616]), (.lcmp, 1, []), (.ifCond .ge 9, 3, [4, 1, 3, 0])], 0, 0),
  ([(.ldc2_w 246, 3, [18446744073708551616]), (.goto 4, 3, [5, 0])], 0, 0),
  ([(.lload_n 0, 1, [])], 5, 0),
  ([(.lreturn, 1, [])], 0, 0)]
def z_M_clip : xMeth := (n_M_clip, prog_14_method_48_code, 2, some FieldType.long, [0, 8, 14, 22, 28, 29], B_M_clip, (0, 0))
def n_M_two : MethodName := ⟨"RingCouncilModel", "two", "(IJJ)J"⟩
abbrev m_M_two : Nat := 163
def B_M_two : List xB := [
  ([(.iload_n 0, 1, []), (.tableswitch 48 3 5 #[27, 34, 41], 27, [4, 10, 1, 10, 2, 10, 3, 10])], 0, 0),
  ([(.lload_n 1, 1, []), (.lload_n 3, 1, []), (.ladd, 1, []), (.invokestatic 248, 3, [1, 162, 1, 2]), (.lreturn, 1, [])], 0, 0),
  ([(.lload_n 1, 1, []), (.lload_n 3, 1, []), (.lsub, 1, []), (.invokestatic 248, 3, [1, 162, 1, 2]), (.lreturn, 1, [])], 0, 0),
  ([(.lload_n 1, 1, []), (.lload_n 3, 1, []), (.lmul, 1, []), (.invokestatic 248, 3, [1, 162, 1, 2]), (.lreturn, 1, [])], 0, 0),
  ([(.lload_n 3, 1, []), (.lconst 0, 1, []), (.lcmp, 1, []), (.ifCond .ne 7, 3, [6, 10, 5, 0])], 0, 0),
  ([(.lconst 0, 1, []), (.goto 9, 3, [7, 0])], 0, 0),
  ([(.lload_n 1, 1, []), (.lload_n 3, 1, []), (.ldiv, 1, []), (.invokestatic 248, 3, [1, 162, 1, 2])], 7, 0),
  ([(.lreturn, 1, [])], 0, 0)]
def z_M_two : xMeth := (n_M_two, prog_14_method_49_code, 5, some FieldType.long, [0, 28, 35, 42, 49, 55, 59, 65], B_M_two, (0, 0))
def n_M_isAsked : MethodName := ⟨"RingCouncilModel", "isAsked", "(IJJ)Z"⟩
abbrev m_M_isAsked : Nat := 164
def B_M_isAsked : List xB := [
  ([(.iload_n 0, 1, []), (.bipush 10, 2, []), (.if_icmp .ne 17, 3, [4, 11, 1, 10])], 0, 0),
  ([(.lload_n 1, 1, []), (.lload_n 3, 1, []), (.lcmp, 1, []), (.ifCond .ge 7, 3, [3, 0, 2, 0])], 0, 0),
  ([(.iconst 1, 1, []), (.goto 98, 3, [23, 0])], 0, 0),
  ([(.iconst 0, 1, []), (.goto 94, 3, [23, 0])], 0, 0),
  ([(.iload_n 0, 1, []), (.bipush 11, 2, []), (.if_icmp .ne 17, 3, [8, 11, 5, 10])], 0, 0),
  ([(.lload_n 1, 1, []), (.lload_n 3, 1, []), (.lcmp, 1, []), (.ifCond .gt 7, 3, [7, 0, 6, 0])], 0, 0),
  ([(.iconst 1, 1, []), (.goto 78, 3, [23, 0])], 0, 0),
  ([(.iconst 0, 1, []), (.goto 74, 3, [23, 0])], 0, 0),
  ([(.iload_n 0, 1, []), (.bipush 12, 2, []), (.if_icmp .ne 17, 3, [12, 11, 9, 10])], 0, 0),
  ([(.lload_n 1, 1, []), (.lload_n 3, 1, []), (.lcmp, 1, []), (.ifCond .le 7, 3, [11, 0, 10, 0])], 0, 0),
  ([(.iconst 1, 1, []), (.goto 58, 3, [23, 0])], 0, 0),
  ([(.iconst 0, 1, []), (.goto 54, 3, [23, 0])], 0, 0),
  ([(.iload_n 0, 1, []), (.bipush 13, 2, []), (.if_icmp .ne 17, 3, [16, 11, 13, 10])], 0, 0),
  ([(.lload_n 1, 1, []), (.lload_n 3, 1, []), (.lcmp, 1, []), (.ifCond .lt 7, 3, [15, 0, 14, 0])], 0, 0),
  ([(.iconst 1, 1, []), (.goto 38, 3, [23, 0])], 0, 0),
  ([(.iconst 0, 1, []), (.goto 34, 3, [23, 0])], 0, 0),
  ([(.iload_n 0, 1, []), (.bipush 14, 2, []), (.if_icmp .ne 17, 3, [20, 10, 17, 10])], 0, 0),
  ([(.lload_n 1, 1, []), (.lload_n 3, 1, []), (.lcmp, 1, []), (.ifCond .ne 7, 3, [19, 0, 18, 0])], 0, 0),
  ([(.iconst 1, 1, []), (.goto 18, 3, [23, 0])], 0, 0),
  ([(.iconst 0, 1, []), (.goto 14, 3, [23, 0])], 0, 0),
  ([(.lload_n 1, 1, []), (.lload_n 3, 1, []), (.lcmp, 1, []), (.ifCond .eq 7, 3, [22, 0, 21, 0])], 0, 0),
  ([(.iconst 1, 1, []), (.goto 4, 3, [23, 0])], 0, 0),
  ([(.iconst 0, 1, [])], 23, 0),
  ([(.ireturn, 1, [1])], 0, 0)]
def z_M_isAsked : xMeth := (n_M_isAsked, prog_14_method_50_code, 5, some FieldType.boolean, [0, 6, 12, 16, 20, 26, 32, 36, 40, 46, 52, 56, 60, 66, 72, 76, 80, 86, 92, 96, 100, 106, 110, 111], B_M_isAsked, (0, 0))
def n_M_work : MethodName := ⟨"RingCouncilModel", "work", "(I)V"⟩
abbrev m_M_work : Nat := 165
def B_M_work : List xB := [
  ([(.sipush 645, 3, []), (.aload_n 0, 1, []), (.getfield 7, 3, [12, 0, 3]), (.iconst 1, 1, []), (.iaload, 1, []), (.imul, 1, []), (.iconst 1, 1, []), (.iadd, 1, []), (.iconst 3, 1, []), (.iload_n 1, 1, []), (.imul, 1, []), (.iadd, 1, []), (.istore_n 2, 1, []), (.sipush 645, 3, []), (.aload_n 0, 1, []), (.getfield 7, 3, [12, 0, 3]), (.iconst 1, 1, []), (.iaload, 1, []), (.imul, 1, []), (.bipush 40, 2, []), (.iadd, 1, []), (.istore_n 3, 1, []), (.iconst 0, 1, []), (.istore 4, 2, []), (.iconst 0, 1, []), (.istore 5, 2, []), (.aload_n 0, 1, []), (.getfield 16, 3, [12, 3, 3]), (.iload_n 2, 1, []), (.iconst 1, 1, []), (.iadd, 1, []), (.iaload, 1, []), (.istore 6, 2, [])], 1, 125),
  ([(.iload 6, 2, []), (.aload_n 0, 1, []), (.getfield 16, 3, [12, 3, 3]), (.iload_n 2, 1, []), (.iconst 2, 1, []), (.iadd, 1, []), (.iaload, 1, []), (.if_icmp .ge 356, 3, [34, 0, 2, 125])], 0, 0),
  ([(.aload_n 0, 1, []), (.getfield 16, 3, [12, 3, 3]), (.iload_n 3, 1, []), (.iconst 2, 1, []), (.iload 6, 2, []), (.imul, 1, []), (.iadd, 1, []), (.iaload, 1, []), (.istore 7, 2, []), (.aload_n 0, 1, []), (.getfield 16, 3, [12, 3, 3]), (.iload_n 3, 1, []), (.iconst 2, 1, []), (.iload 6, 2, []), (.imul, 1, []), (.iadd, 1, []), (.iconst 1, 1, []), (.iadd, 1, []), (.iaload, 1, []), (.istore 8, 2, []), (.iload 7, 2, []), (.iconst 1, 1, []), (.if_icmp .gt 35, 3, [7, 253, 3, 509])], 0, 0),
  ([(.aload_n 0, 1, []), (.getfield 35, 3, [12, 23, 3]), (.iload 4, 2, []), (.iload 7, 2, []), (.ifCond .ne 9, 3, [5, 381, 4, 381])], 0, 0),
  ([(.iload 8, 2, []), (.i2l, 1, []), (.goto 11, 3, [6, 125])], 0, 0),
  ([(.aload_n 0, 1, []), (.getfield 32, 3, [12, 22, 3]), (.iload 8, 2, []), (.iaload, 1, []), (.i2l, 1, [])], 6, 125),
  ([(.lastore, 1, []), (.iinc 4 1, 3, []), (.goto 284, 3, [33, 125])], 0, 0),
  ([(.iload 7, 2, []), (.iconst 2, 1, []), (.if_icmp .ne 25, 3, [9, 253, 8, 125])], 0, 0),
  ([(.aload_n 0, 1, []), (.getfield 35, 3, [12, 23, 3]), (.iload 4, 2, []), (.iconst 1, 1, []), (.isub, 1, []), (.aload_n 0, 1, []), (.getfield 35, 3, [12, 23, 3]), (.iload 4, 2, []), (.iconst 1, 1, []), (.isub, 1, []), (.laload, 1, []), (.lneg, 1, []), (.lastore, 1, []), (.goto 256, 3, [33, 125])], 0, 0),
  ([(.iload 7, 2, []), (.bipush 10, 2, []), (.if_icmp .ge 39, 3, [11, 253, 10, 253])], 0, 0),
  ([(.iinc 4 (-1), 3, []), (.aload_n 0, 1, []), (.getfield 35, 3, [12, 23, 3]), (.iload 4, 2, []), (.iconst 1, 1, []), (.isub, 1, []), (.iload 7, 2, []), (.aload_n 0, 1, []), (.getfield 35, 3, [12, 23, 3]), (.iload 4, 2, []), (.iconst 1, 1, []), (.isub, 1, []), (.laload, 1, []), (.aload_n 0, 1, []), (.getfield 35, 3, [12, 23, 3]), (.iload 4, 2, []), (.laload, 1, []), (.invokestatic 252, 3, [1, 163, 3, 2]), (.lastore, 1, []), (.goto 213, 3, [33, 125])], 0, 0),
  ([(.iload 7, 2, []), (.bipush 20, 2, []), (.if_icmp .ge 40, 3, [13, 253, 12, 253])], 0, 0),
  ([(.iinc 4 (-2), 3, []), (.aload_n 0, 1, []), (.getfield 39, 3, [12, 24, 3]), (.iload 5, 2, []), (.iload 7, 2, []), (.aload_n 0, 1, []), (.getfield 35, 3, [12, 23, 3]), (.iload 4, 2, []), (.laload, 1, []), (.aload_n 0, 1, []), (.getfield 35, 3, [12, 23, 3]), (.iload 4, 2, []), (.iconst 1, 1, []), (.iadd, 1, []), (.laload, 1, []), (.invokestatic 256, 3, [1, 164, 3, 0]), (.bastore, 1, []), (.iinc 5 1, 3, []), (.goto 169, 3, [33, 125])], 0, 0),
  ([(.iload 7, 2, []), (.bipush 20, 2, []), (.if_icmp .ne 32, 3, [18, 253, 14, 125])], 0, 0),
  ([(.aload_n 0, 1, []), (.getfield 39, 3, [12, 24, 3]), (.iload 5, 2, []), (.iconst 1, 1, []), (.isub, 1, []), (.aload_n 0, 1, []), (.getfield 39, 3, [12, 24, 3]), (.iload 5, 2, []), (.iconst 1, 1, []), (.isub, 1, []), (.baload, 1, []), (.ifCond .ne 7, 3, [16, 125, 15, 125])], 0, 0),
  ([(.iconst 1, 1, []), (.goto 4, 3, [17, 125])], 0, 0),
  ([(.iconst 0, 1, [])], 17, 125),
  ([(.bastore, 1, []), (.goto 133, 3, [33, 125])], 0, 0),
  ([(.iload 7, 2, []), (.bipush 23, 2, []), (.if_icmp .ne 50, 3, [23, 253, 19, 125])], 0, 0),
  ([(.iinc 4 (-1), 3, []), (.iinc 5 (-1), 3, []), (.aload_n 0, 1, []), (.getfield 35, 3, [12, 23, 3]), (.iload 4, 2, []), (.iconst 1, 1, []), (.isub, 1, []), (.aload_n 0, 1, []), (.getfield 39, 3, [12, 24, 3]), (.iload 5, 2, []), (.baload, 1, []), (.ifCond .eq 15, 3, [21, 125, 20, 125])], 0, 0),
  ([(.aload_n 0, 1, []), (.getfield 35, 3, [12, 23, 3]), (.iload 4, 2, []), (.iconst 1, 1, []), (.isub, 1, []), (.laload, 1, []), (.goto 10, 3, [22, 125])], 0, 0),
  ([(.aload_n 0, 1, []), (.getfield 35, 3, [12, 23, 3]), (.iload 4, 2, []), (.laload, 1, [])], 22, 125),
  ([(.lastore, 1, []), (.goto 79, 3, [33, 125])], 0, 0),
  ([(.iinc 5 (-1), 3, []), (.aload_n 0, 1, []), (.getfield 39, 3, [12, 24, 3]), (.iload 5, 2, []), (.iconst 1, 1, []), (.isub, 1, []), (.iload 7, 2, []), (.bipush 21, 2, []), (.if_icmp .ne 33, 3, [28, 125, 24, 125])], 0, 0),
  ([(.aload_n 0, 1, []), (.getfield 39, 3, [12, 24, 3]), (.iload 5, 2, []), (.iconst 1, 1, []), (.isub, 1, []), (.baload, 1, []), (.ifCond .eq 17, 3, [27, 125, 25, 125])], 0, 0),
  ([(.aload_n 0, 1, []), (.getfield 39, 3, [12, 24, 3]), (.iload 5, 2, []), (.baload, 1, []), (.ifCond .eq 7, 3, [27, 125, 26, 125])], 0, 0),
  ([(.iconst 1, 1, []), (.goto 34, 3, [32, 125])], 0, 0),
  ([(.iconst 0, 1, []), (.goto 30, 3, [32, 125])], 0, 0),
  ([(.aload_n 0, 1, []), (.getfield 39, 3, [12, 24, 3]), (.iload 5, 2, []), (.iconst 1, 1, []), (.isub, 1, []), (.baload, 1, []), (.ifCond .ne 13, 3, [30, 125, 29, 125])], 0, 0),
  ([(.aload_n 0, 1, []), (.getfield 39, 3, [12, 24, 3]), (.iload 5, 2, []), (.baload, 1, []), (.ifCond .eq 7, 3, [31, 125, 30, 125])], 0, 0),
  ([(.iconst 1, 1, []), (.goto 4, 3, [32, 125])], 0, 0),
  ([(.iconst 0, 1, [])], 32, 125),
  ([(.bastore, 1, [])], 33, 125),
  ([(.iinc 6 1, 3, []), (.goto (-363), 3, [1, 125])], 0, 0),
  ([(.return_, 1, [])], 0, 0)]
def z_M_work : xMeth := (n_M_work, prog_14_method_51_code, 9, none, [0, 47, 60, 94, 105, 111, 119, 126, 132, 154, 161, 197, 204, 241, 248, 268, 272, 273, 277, 284, 308, 320, 327, 331, 349, 361, 371, 375, 379, 391, 401, 405, 406, 407, 413], B_M_work, (0, 0))
def n_M_clauses : MethodName := ⟨"RingCouncilModel", "clauses", "()I"⟩
abbrev m_M_clauses : Nat := 166
def B_M_clauses : List xB := [
  ([(.aload_n 0, 1, []), (.getfield 7, 3, [12, 0, 3]), (.iconst 1, 1, []), (.iaload, 1, []), (.ifCond .ge 7, 3, [2, 1, 1, 0])], 0, 0),
  ([(.iconst 0, 1, []), (.goto 18, 3, [3, 0])], 0, 0),
  ([(.aload_n 0, 1, []), (.getfield 16, 3, [12, 3, 3]), (.sipush 645, 3, []), (.aload_n 0, 1, []), (.getfield 7, 3, [12, 0, 3]), (.iconst 1, 1, []), (.iaload, 1, []), (.imul, 1, []), (.iaload, 1, [])], 3, 0),
  ([(.ireturn, 1, [0])], 0, 0)]
def z_M_clauses : xMeth := (n_M_clauses, prog_14_method_52_code, 1, some FieldType.int, [0, 9, 13, 28], B_M_clauses, (0, 0))
def n_M_sortAt : MethodName := ⟨"RingCouncilModel", "sortAt", "(I)I"⟩
abbrev m_M_sortAt : Nat := 167
def B_M_sortAt : List xB := [
  ([(.aload_n 0, 1, []), (.getfield 16, 3, [12, 3, 3]), (.sipush 645, 3, []), (.aload_n 0, 1, []), (.getfield 7, 3, [12, 0, 3]), (.iconst 1, 1, []), (.iaload, 1, []), (.imul, 1, []), (.iconst 1, 1, []), (.iadd, 1, []), (.iconst 3, 1, []), (.iload_n 1, 1, []), (.imul, 1, []), (.iadd, 1, []), (.iaload, 1, []), (.ireturn, 1, [0])], 0, 0)]
def z_M_sortAt : xMeth := (n_M_sortAt, prog_14_method_53_code, 2, some FieldType.int, [0], B_M_sortAt, (0, 0))
def n_M_sumOf : MethodName := ⟨"RingCouncilModel", "sumOf", "(IIII)I"⟩
abbrev m_M_sumOf : Nat := 168
def B_M_sumOf : List xB := [
  ([(.iconst 0, 1, []), (.istore 5, 2, [])], 1, 63),
  ([(.iload 5, 2, []), (.aload_n 0, 1, []), (.invokevirtual 260, 3, [1, 166, 0, 12, 0]), (.if_icmp .ge 40, 3, [6, 16, 2, 63])], 0, 0),
  ([(.aload_n 0, 1, []), (.iload 5, 2, []), (.invokevirtual 263, 3, [1, 167, 1, 12, 0]), (.iload_n 1, 1, []), (.if_icmp .eq 6, 3, [4, 45, 3, 63])], 0, 0),
  ([(.goto 21, 3, [5, 63])], 0, 0),
  ([(.aload_n 0, 1, []), (.iload 5, 2, []), (.invokevirtual 266, 3, [1, 165, 1, 12, 1]), (.aload_n 0, 1, []), (.getfield 35, 3, [12, 23, 3]), (.iconst 0, 1, []), (.laload, 1, []), (.iload_n 2, 1, []), (.iload_n 3, 1, []), (.invokestatic 269, 3, [1, 119, 3, 0]), (.ireturn, 1, [0])], 0, 0),
  ([(.iinc 5 1, 3, []), (.goto (-43), 3, [1, 63])], 0, 0),
  ([(.iload 4, 2, []), (.ireturn, 1, [0])], 0, 0)]
def z_M_sumOf : xMeth := (n_M_sumOf, prog_14_method_54_code, 6, some FieldType.int, [0, 3, 12, 22, 25, 43, 49], B_M_sumOf, (0, 0))
def n_M_pulls : MethodName := ⟨"RingCouncilModel", "pulls", "()Z"⟩
abbrev m_M_pulls : Nat := 169
def B_M_pulls : List xB := [
  ([(.iconst 0, 1, []), (.istore_n 1, 1, [])], 1, 3),
  ([(.iload_n 1, 1, []), (.aload_n 0, 1, []), (.invokevirtual 260, 3, [1, 166, 0, 12, 0]), (.if_icmp .ge 37, 3, [7, 0, 2, 3])], 0, 0),
  ([(.aload_n 0, 1, []), (.iload_n 1, 1, []), (.invokevirtual 263, 3, [1, 167, 1, 12, 0]), (.iconst 4, 1, []), (.if_icmp .eq 6, 3, [4, 3, 3, 3])], 0, 0),
  ([(.goto 19, 3, [6, 3])], 0, 0),
  ([(.aload_n 0, 1, []), (.iload_n 1, 1, []), (.invokevirtual 266, 3, [1, 165, 1, 12, 1]), (.aload_n 0, 1, []), (.getfield 39, 3, [12, 24, 3]), (.iconst 0, 1, []), (.baload, 1, []), (.ifCond .eq 5, 3, [6, 3, 5, 0])], 0, 0),
  ([(.iconst 1, 1, []), (.ireturn, 1, [1])], 0, 0),
  ([(.iinc 1 1, 3, []), (.goto (-39), 3, [1, 3])], 0, 0),
  ([(.iconst 0, 1, []), (.ireturn, 1, [1])], 0, 0)]
def z_M_pulls : xMeth := (n_M_pulls, prog_14_method_55_code, 2, some FieldType.boolean, [0, 2, 10, 19, 22, 36, 38, 44], B_M_pulls, (0, 0))
def n_M_asTold : MethodName := ⟨"RingCouncilModel", "asTold", "()V"⟩
abbrev m_M_asTold : Nat := 170
def B_M_asTold : List xB := [
  ([(.iconst 0, 1, []), (.istore_n 1, 1, [])], 1, 3),
  ([(.iload_n 1, 1, []), (.bipush 9, 2, []), (.if_icmp .ge 39, 3, [3, 0, 2, 3])], 0, 0),
  ([(.aload_n 0, 1, []), (.getfield 43, 3, [12, 25, 3]), (.iload_n 1, 1, []), (.aload_n 0, 1, []), (.getfield 7, 3, [12, 0, 3]), (.bipush 20, 2, []), (.iload_n 1, 1, []), (.iadd, 1, []), (.iaload, 1, []), (.iastore, 1, []), (.aload_n 0, 1, []), (.getfield 46, 3, [12, 26, 3]), (.iload_n 1, 1, []), (.aload_n 0, 1, []), (.getfield 7, 3, [12, 0, 3]), (.bipush 10, 2, []), (.iload_n 1, 1, []), (.iadd, 1, []), (.iaload, 1, []), (.iastore, 1, []), (.iinc 1 1, 3, []), (.goto (-39), 3, [1, 3])], 0, 0),
  ([(.return_, 1, [])], 0, 0)]
def z_M_asTold : xMeth := (n_M_asTold, prog_14_method_56_code, 2, none, [0, 2, 8, 44], B_M_asTold, (0, 0))
def n_M_name : MethodName := ⟨"RingCouncilModel", "name", "([III)V"⟩
abbrev m_M_name : Nat := 171
def B_M_name : List xB := [
  ([(.aload_n 0, 1, []), (.getfield 32, 3, [12, 22, 3]), (.iconst 0, 1, []), (.iload_n 3, 1, []), (.iastore, 1, []), (.aload_n 0, 1, []), (.getfield 32, 3, [12, 22, 3]), (.iconst 1, 1, []), (.aload_n 1, 1, []), (.iload_n 2, 1, []), (.iconst 2, 1, []), (.iadd, 1, []), (.iload_n 3, 1, []), (.iadd, 1, []), (.iaload, 1, []), (.iastore, 1, []), (.aload_n 0, 1, []), (.getfield 32, 3, [12, 22, 3]), (.iconst 2, 1, []), (.aload_n 1, 1, []), (.iload_n 2, 1, []), (.bipush 11, 2, []), (.iadd, 1, []), (.iload_n 3, 1, []), (.iadd, 1, []), (.iaload, 1, []), (.iastore, 1, []), (.aload_n 0, 1, []), (.getfield 32, 3, [12, 22, 3]), (.iconst 3, 1, []), (.aload_n 1, 1, []), (.iload_n 2, 1, []), (.bipush 20, 2, []), (.iadd, 1, []), (.iload_n 3, 1, []), (.iadd, 1, []), (.iaload, 1, []), (.iastore, 1, []), (.aload_n 0, 1, []), (.getfield 32, 3, [12, 22, 3]), (.iconst 4, 1, []), (.aload_n 1, 1, []), (.iload_n 2, 1, []), (.iconst 1, 1, []), (.iadd, 1, []), (.iaload, 1, []), (.iastore, 1, []), (.aload_n 0, 1, []), (.getfield 32, 3, [12, 22, 3]), (.iconst 5, 1, []), (.aload_n 1, 1, []), (.iload_n 2, 1, []), (.iconst 0, 1, []), (.iadd, 1, []), (.iaload, 1, []), (.iastore, 1, []), (.aload_n 0, 1, []), (.getfield 32, 3, [12, 22, 3]), (.bipush 6, 2, []), (.aload_n 0, 1, []), (.getfield 43, 3, [12, 25, 3]), (.iload_n 3, 1, []), (.iaload, 1, []), (.iastore, 1, []), (.aload_n 0, 1, []), (.getfield 32, 3, [12, 22, 3]), (.bipush 7, 2, []), (.aload_n 0, 1, []), (.getfield 83, 3, [12, 2, 0]), (.iastore, 1, []), (.return_, 1, [])], 0, 0)]
def z_M_name : xMeth := (n_M_name, prog_14_method_57_code, 4, none, [0], B_M_name, (0, 0))
def n_M_says : MethodName := ⟨"RingCouncilModel", "says", "([III)I"⟩
abbrev m_M_says : Nat := 172
def B_M_says : List xB := [
  ([(.aload_n 0, 1, []), (.aload_n 1, 1, []), (.iload_n 2, 1, []), (.iload_n 3, 1, []), (.invokevirtual 273, 3, [1, 171, 3, 12, 1]), (.aload_n 0, 1, []), (.iconst 3, 1, []), (.iconst 0, 1, []), (.bipush 9, 2, []), (.aload_n 0, 1, []), (.getfield 32, 3, [12, 22, 3]), (.iconst 1, 1, []), (.iaload, 1, []), (.bipush 9, 2, []), (.if_icmp .le 8, 3, [2, 1, 1, 0])], 0, 0),
  ([(.bipush 9, 2, []), (.goto 9, 3, [3, 0])], 0, 0),
  ([(.aload_n 0, 1, []), (.getfield 32, 3, [12, 22, 3]), (.iconst 1, 1, []), (.iaload, 1, [])], 3, 0),
  ([(.invokevirtual 277, 3, [1, 168, 4, 12, 0]), (.ireturn, 1, [0])], 0, 0)]
def z_M_says : xMeth := (n_M_says, prog_14_method_58_code, 4, some FieldType.int, [0, 23, 28, 34], B_M_says, (0, 0))
def n_M_areOne : MethodName := ⟨"RingCouncilModel", "areOne", "([II)Z"⟩
abbrev m_M_areOne : Nat := 173
def B_M_areOne : List xB := [
  ([(.iconst (-1), 1, []), (.istore_n 3, 1, []), (.iconst 0, 1, []), (.istore 4, 2, [])], 1, 31),
  ([(.iload 4, 2, []), (.aload_n 0, 1, []), (.getfield 83, 3, [12, 2, 0]), (.if_icmp .ge 47, 3, [9, 0, 2, 31])], 0, 0),
  ([(.aload_n 0, 1, []), (.getfield 46, 3, [12, 26, 3]), (.iload 4, 2, []), (.iaload, 1, []), (.ifCond .eq 6, 3, [4, 31, 3, 31])], 0, 0),
  ([(.goto 28, 3, [8, 31])], 0, 0),
  ([(.aload_n 0, 1, []), (.aload_n 1, 1, []), (.iload_n 2, 1, []), (.iload 4, 2, []), (.invokevirtual 281, 3, [1, 172, 3, 12, 0]), (.istore 5, 2, []), (.iload_n 3, 1, []), (.ifCond .lt 11, 3, [7, 55, 5, 63])], 0, 0),
  ([(.iload 5, 2, []), (.iload_n 3, 1, []), (.if_icmp .eq 5, 3, [7, 55, 6, 0])], 0, 0),
  ([(.iconst 0, 1, []), (.ireturn, 1, [1])], 0, 0),
  ([(.iload 5, 2, []), (.istore_n 3, 1, [])], 8, 31),
  ([(.iinc 4 1, 3, []), (.goto (-50), 3, [1, 31])], 0, 0),
  ([(.iconst 1, 1, []), (.ireturn, 1, [1])], 0, 0)]
def z_M_areOne : xMeth := (n_M_areOne, prog_14_method_59_code, 6, some FieldType.boolean, [0, 5, 14, 24, 27, 41, 47, 49, 52, 58], B_M_areOne, (0, 0))
def n_M_put : MethodName := ⟨"RingCouncilModel", "put", "(I)I"⟩
abbrev m_M_put : Nat := 174
def B_M_put : List xB := [
  ([(.iload_n 1, 1, []), (.ifCond .lt 16, 3, [2, 0, 1, 3])], 0, 0),
  ([(.aload_n 0, 1, []), (.getfield 7, 3, [12, 0, 3]), (.bipush 70, 2, []), (.iload_n 1, 1, []), (.iadd, 1, []), (.iaload, 1, []), (.iconst 1, 1, []), (.if_icmp .ne 7, 3, [3, 2, 2, 0])], 0, 0),
  ([(.iconst (-1), 1, []), (.goto 4, 3, [4, 0])], 0, 0),
  ([(.iload_n 1, 1, [])], 4, 0),
  ([(.ireturn, 1, [0])], 0, 0)]
def z_M_put : xMeth := (n_M_put, prog_14_method_60_code, 2, some FieldType.int, [0, 4, 17, 21, 22], B_M_put, (0, 0))
def n_M_write : MethodName := ⟨"RingCouncilModel", "write", "([IIIIIZ)V"⟩
abbrev m_M_write : Nat := 175
def B_M_write : List xB := [
  ([(.aload_n 1, 1, []), (.iload_n 2, 1, []), (.bipush 20, 2, []), (.iadd, 1, []), (.aload_n 0, 1, []), (.iload_n 3, 1, []), (.invokevirtual 285, 3, [1, 121, 1, 12, 0]), (.iadd, 1, []), (.aload_n 0, 1, []), (.iload 4, 2, []), (.invokevirtual 288, 3, [1, 174, 1, 12, 0]), (.iastore, 1, []), (.aload_n 1, 1, []), (.iload_n 2, 1, []), (.bipush 11, 2, []), (.iadd, 1, []), (.aload_n 0, 1, []), (.iload_n 3, 1, []), (.invokevirtual 291, 3, [1, 122, 1, 12, 0]), (.iadd, 1, []), (.aload_n 0, 1, []), (.iload 5, 2, []), (.invokevirtual 288, 3, [1, 174, 1, 12, 0]), (.iastore, 1, []), (.aload_n 1, 1, []), (.iload_n 2, 1, []), (.iconst 1, 1, []), (.iadd, 1, []), (.dup2, 1, []), (.iaload, 1, []), (.iload 6, 2, []), (.ifCond .eq 19, 3, [3, 0, 1, 9])], 0, 0),
  ([(.aload_n 0, 1, []), (.getfield 7, 3, [12, 0, 3]), (.bipush 30, 2, []), (.iload_n 3, 1, []), (.iadd, 1, []), (.iaload, 1, []), (.ifCond .ne 7, 3, [3, 0, 2, 0])], 0, 0),
  ([(.iconst 1, 1, []), (.goto 4, 3, [4, 0])], 0, 0),
  ([(.iconst 0, 1, [])], 4, 0),
  ([(.iadd, 1, []), (.iastore, 1, []), (.return_, 1, [])], 0, 0)]
def z_M_write : xMeth := (n_M_write, prog_14_method_61_code, 7, none, [0, 47, 59, 63, 64], B_M_write, (0, 0))
def n_M_go : MethodName := ⟨"RingCouncilModel", "go", "([II[II)V"⟩
abbrev m_M_go : Nat := 176
def B_M_go : List xB := [
  ([(.aload_n 3, 1, []), (.iload 4, 2, []), (.iconst 0, 1, []), (.iadd, 1, []), (.aload_n 1, 1, []), (.iload_n 2, 1, []), (.iconst 0, 1, []), (.iadd, 1, []), (.iaload, 1, []), (.iconst 1, 1, []), (.iadd, 1, []), (.iastore, 1, []), (.aload_n 3, 1, []), (.iload 4, 2, []), (.iconst 1, 1, []), (.iadd, 1, []), (.iconst 0, 1, []), (.iastore, 1, []), (.iconst 0, 1, []), (.istore 5, 2, [])], 1, 63),
  ([(.iload 5, 2, []), (.bipush 9, 2, []), (.if_icmp .ge 48, 3, [3, 31, 2, 63])], 0, 0),
  ([(.aload_n 3, 1, []), (.iload 4, 2, []), (.iconst 2, 1, []), (.iadd, 1, []), (.iload 5, 2, []), (.iadd, 1, []), (.aload_n 1, 1, []), (.iload_n 2, 1, []), (.iconst 2, 1, []), (.iadd, 1, []), (.iload 5, 2, []), (.iadd, 1, []), (.iaload, 1, []), (.iastore, 1, []), (.aload_n 3, 1, []), (.iload 4, 2, []), (.bipush 11, 2, []), (.iadd, 1, []), (.iload 5, 2, []), (.iadd, 1, []), (.iconst (-1), 1, []), (.iastore, 1, []), (.aload_n 3, 1, []), (.iload 4, 2, []), (.bipush 20, 2, []), (.iadd, 1, []), (.iload 5, 2, []), (.iadd, 1, []), (.iconst (-1), 1, []), (.iastore, 1, []), (.iinc 5 1, 3, []), (.goto (-49), 3, [1, 63])], 0, 0),
  ([(.iconst 0, 1, []), (.istore 5, 2, [])], 4, 63),
  ([(.iload 5, 2, []), (.aload_n 0, 1, []), (.getfield 83, 3, [12, 2, 0]), (.if_icmp .ge 157, 3, [13, 0, 5, 63])], 0, 0),
  ([(.aload_n 0, 1, []), (.getfield 46, 3, [12, 26, 3]), (.iload 5, 2, []), (.iaload, 1, []), (.iconst 1, 1, []), (.if_icmp .ne 64, 3, [10, 63, 6, 63])], 0, 0),
  ([(.aload_n 0, 1, []), (.aload_n 3, 1, []), (.iload 4, 2, []), (.iload 5, 2, []), (.aload_n 0, 1, []), (.getfield 7, 3, [12, 0, 3]), (.bipush 40, 2, []), (.iconst 3, 1, []), (.iload 5, 2, []), (.imul, 1, []), (.iadd, 1, []), (.iaload, 1, []), (.aload_n 0, 1, []), (.getfield 7, 3, [12, 0, 3]), (.bipush 40, 2, []), (.iconst 3, 1, []), (.iload 5, 2, []), (.imul, 1, []), (.iadd, 1, []), (.iconst 1, 1, []), (.iadd, 1, []), (.iaload, 1, []), (.aload_n 0, 1, []), (.getfield 7, 3, [12, 0, 3]), (.bipush 40, 2, []), (.iconst 3, 1, []), (.iload 5, 2, []), (.imul, 1, []), (.iadd, 1, []), (.iconst 2, 1, []), (.iadd, 1, []), (.iaload, 1, []), (.iconst 1, 1, []), (.if_icmp .ne 7, 3, [8, 63, 7, 63])], 0, 0),
  ([(.iconst 1, 1, []), (.goto 4, 3, [9, 63])], 0, 0),
  ([(.iconst 0, 1, [])], 9, 63),
  ([(.invokevirtual 294, 3, [1, 175, 6, 12, 1]), (.goto 79, 3, [12, 63])], 0, 0),
  ([(.aload_n 0, 1, []), (.getfield 46, 3, [12, 26, 3]), (.iload 5, 2, []), (.iaload, 1, []), (.ifCond .ne 69, 3, [12, 63, 11, 63])], 0, 0),
  ([(.aload_n 0, 1, []), (.aload_n 1, 1, []), (.iload_n 2, 1, []), (.iload 5, 2, []), (.invokevirtual 273, 3, [1, 171, 3, 12, 1]), (.aload_n 3, 1, []), (.iload 4, 2, []), (.iconst 2, 1, []), (.iadd, 1, []), (.iload 5, 2, []), (.iadd, 1, []), (.aload_n 0, 1, []), (.iconst 0, 1, []), (.iconst 0, 1, []), (.bipush 99, 2, []), (.aload_n 0, 1, []), (.getfield 32, 3, [12, 22, 3]), (.iconst 1, 1, []), (.iaload, 1, []), (.invokevirtual 277, 3, [1, 168, 4, 12, 0]), (.iastore, 1, []), (.aload_n 0, 1, []), (.iconst 1, 1, []), (.iconst (-1), 1, []), (.bipush 99, 2, []), (.iconst (-1), 1, []), (.invokevirtual 277, 3, [1, 168, 4, 12, 0]), (.istore 6, 2, []), (.aload_n 0, 1, []), (.aload_n 3, 1, []), (.iload 4, 2, []), (.iload 5, 2, []), (.iload 6, 2, []), (.aload_n 0, 1, []), (.iconst 2, 1, []), (.iconst (-1), 1, []), (.bipush 99, 2, []), (.iconst (-1), 1, []), (.invokevirtual 277, 3, [1, 168, 4, 12, 0]), (.aload_n 0, 1, []), (.invokevirtual 298, 3, [1, 169, 0, 12, 0]), (.invokevirtual 294, 3, [1, 175, 6, 12, 1])], 12, 63),
  ([(.iinc 5 1, 3, []), (.goto (-160), 3, [4, 63])], 0, 0),
  ([(.return_, 1, [])], 0, 0)]
def z_M_go : xMeth := (n_M_go, prog_14_method_62_code, 7, none, [0, 23, 30, 75, 78, 87, 98, 148, 152, 153, 159, 169, 235, 241], B_M_go, (0, 0))
def n_M_goOn : MethodName := ⟨"RingCouncilModel", "goOn", "()V"⟩
abbrev m_M_goOn : Nat := 177
def B_M_goOn : List xB := [
  ([(.aload_n 0, 1, []), (.aload_n 0, 1, []), (.getfield 49, 3, [12, 27, 3]), (.iconst 0, 1, []), (.aload_n 0, 1, []), (.getfield 49, 3, [12, 27, 3]), (.bipush 30, 2, []), (.invokevirtual 301, 3, [1, 176, 4, 12, 1]), (.iconst 0, 1, []), (.istore_n 1, 1, [])], 1, 3),
  ([(.iload_n 1, 1, []), (.bipush 30, 2, []), (.if_icmp .ge 24, 3, [3, 0, 2, 3])], 0, 0),
  ([(.aload_n 0, 1, []), (.getfield 49, 3, [12, 27, 3]), (.iload_n 1, 1, []), (.aload_n 0, 1, []), (.getfield 49, 3, [12, 27, 3]), (.bipush 30, 2, []), (.iload_n 1, 1, []), (.iadd, 1, []), (.iaload, 1, []), (.iastore, 1, []), (.iinc 1 1, 3, []), (.goto (-24), 3, [1, 3])], 0, 0),
  ([(.return_, 1, [])], 0, 0)]
def z_M_goOn : xMeth := (n_M_goOn, prog_14_method_63_code, 2, none, [0, 17, 23, 44], B_M_goOn, (0, 0))
def n_M_start : MethodName := ⟨"RingCouncilModel", "start", "()I"⟩
abbrev m_M_start : Nat := 178
def B_M_start : List xB := [
  ([(.aload_n 0, 1, []), (.getfield 7, 3, [12, 0, 3]), (.sipush 190, 3, []), (.iaload, 1, []), (.istore_n 1, 1, []), (.aload_n 0, 1, []), (.getfield 7, 3, [12, 0, 3]), (.iconst 2, 1, []), (.iconst 0, 1, []), (.iastore, 1, []), (.aload_n 0, 1, []), (.aload_n 0, 1, []), (.getfield 7, 3, [12, 0, 3]), (.sipush 190, 3, []), (.invokevirtual 86, 3, [1, 123, 2, 12, 1]), (.iload_n 1, 1, []), (.ireturn, 1, [0])], 0, 0)]
def z_M_start : xMeth := (n_M_start, prog_14_method_64_code, 2, some FieldType.int, [0], B_M_start, (0, 0))
def n_M_keepHour : MethodName := ⟨"RingCouncilModel", "keepHour", "()V"⟩
abbrev m_M_keepHour : Nat := 179
def B_M_keepHour : List xB := [
  ([(.aload_n 0, 1, []), (.getfield 7, 3, [12, 0, 3]), (.iconst 2, 1, []), (.iaload, 1, []), (.bipush 40, 2, []), (.if_icmp .ne 48, 3, [5, 1, 1, 1])], 0, 0),
  ([(.iconst 0, 1, []), (.istore_n 1, 1, [])], 2, 3),
  ([(.iload_n 1, 1, []), (.sipush 1170, 3, []), (.if_icmp .ge 29, 3, [4, 1, 3, 3])], 0, 0),
  ([(.aload_n 0, 1, []), (.getfield 7, 3, [12, 0, 3]), (.sipush 220, 3, []), (.iload_n 1, 1, []), (.iadd, 1, []), (.aload_n 0, 1, []), (.getfield 7, 3, [12, 0, 3]), (.sipush 250, 3, []), (.iload_n 1, 1, []), (.iadd, 1, []), (.iaload, 1, []), (.iastore, 1, []), (.iinc 1 1, 3, []), (.goto (-30), 3, [2, 3])], 0, 0),
  ([(.aload_n 0, 1, []), (.getfield 7, 3, [12, 0, 3]), (.iconst 2, 1, []), (.dup2, 1, []), (.iaload, 1, []), (.iconst 1, 1, []), (.isub, 1, []), (.iastore, 1, [])], 5, 1),
  ([(.iconst 0, 1, []), (.istore_n 1, 1, [])], 6, 3),
  ([(.iload_n 1, 1, []), (.bipush 30, 2, []), (.if_icmp .ge 39, 3, [8, 1, 7, 3])], 0, 0),
  ([(.aload_n 0, 1, []), (.getfield 7, 3, [12, 0, 3]), (.sipush 220, 3, []), (.bipush 30, 2, []), (.aload_n 0, 1, []), (.getfield 7, 3, [12, 0, 3]), (.iconst 2, 1, []), (.iaload, 1, []), (.imul, 1, []), (.iadd, 1, []), (.iload_n 1, 1, []), (.iadd, 1, []), (.aload_n 0, 1, []), (.getfield 7, 3, [12, 0, 3]), (.sipush 190, 3, []), (.iload_n 1, 1, []), (.iadd, 1, []), (.iaload, 1, []), (.iastore, 1, []), (.iinc 1 1, 3, []), (.goto (-39), 3, [6, 3])], 0, 0),
  ([(.aload_n 0, 1, []), (.getfield 7, 3, [12, 0, 3]), (.iconst 2, 1, []), (.dup2, 1, []), (.iaload, 1, []), (.iconst 1, 1, []), (.iadd, 1, []), (.iastore, 1, []), (.return_, 1, [])], 0, 0)]
def z_M_keepHour : xMeth := (n_M_keepHour, prog_14_method_65_code, 2, none, [0, 11, 13, 20, 46, 56, 58, 64, 100], B_M_keepHour, (0, 0))
def n_M_hours : MethodName := ⟨"RingCouncilModel", "hours", "(I)I"⟩
abbrev m_M_hours : Nat := 180
def B_M_hours : List xB := [
  ([(.iload_n 1, 1, []), (.iconst 1, 1, []), (.bipush 99, 2, []), (.invokestatic 94, 3, [1, 118, 3, 0]), (.ifCond .eq 19, 3, [2, 0, 1, 3])], 0, 0),
  ([(.aload_n 0, 1, []), (.getfield 7, 3, [12, 0, 3]), (.sipush 190, 3, []), (.iaload, 1, []), (.iload_n 1, 1, []), (.iadd, 1, []), (.sipush 999, 3, []), (.if_icmp .le 5, 3, [3, 3, 2, 0])], 0, 0),
  ([(.iconst (-1), 1, []), (.ireturn, 1, [0])], 0, 0),
  ([(.aload_n 0, 1, []), (.invokevirtual 305, 3, [1, 170, 0, 12, 1]), (.iconst 0, 1, []), (.istore_n 2, 1, [])], 4, 7),
  ([(.iload_n 2, 1, []), (.iload_n 1, 1, []), (.if_icmp .ge 63, 3, [9, 1, 5, 7])], 0, 0),
  ([(.aload_n 0, 1, []), (.invokevirtual 308, 3, [1, 179, 0, 12, 1]), (.aload_n 0, 1, []), (.aload_n 0, 1, []), (.getfield 7, 3, [12, 0, 3]), (.sipush 190, 3, []), (.aload_n 0, 1, []), (.getfield 49, 3, [12, 27, 3]), (.bipush 30, 2, []), (.invokevirtual 301, 3, [1, 176, 4, 12, 1]), (.iconst 0, 1, []), (.istore_n 3, 1, [])], 6, 15),
  ([(.iload_n 3, 1, []), (.bipush 30, 2, []), (.if_icmp .ge 28, 3, [8, 7, 7, 15])], 0, 0),
  ([(.aload_n 0, 1, []), (.getfield 7, 3, [12, 0, 3]), (.sipush 190, 3, []), (.iload_n 3, 1, []), (.iadd, 1, []), (.aload_n 0, 1, []), (.getfield 49, 3, [12, 27, 3]), (.bipush 30, 2, []), (.iload_n 3, 1, []), (.iadd, 1, []), (.iaload, 1, []), (.iastore, 1, []), (.iinc 3 1, 3, []), (.goto (-28), 3, [6, 15])], 0, 0),
  ([(.iinc 2 1, 3, []), (.goto (-62), 3, [4, 7])], 0, 0),
  ([(.aload_n 0, 1, []), (.getfield 7, 3, [12, 0, 3]), (.sipush 190, 3, []), (.iaload, 1, []), (.ireturn, 1, [0])], 0, 0)]
def z_M_hours : xMeth := (n_M_hours, prog_14_method_66_code, 4, some FieldType.int, [0, 10, 26, 28, 34, 39, 62, 68, 93, 99], B_M_hours, (0, 0))
def n_M_undo : MethodName := ⟨"RingCouncilModel", "undo", "()I"⟩
abbrev m_M_undo : Nat := 181
def B_M_undo : List xB := [
  ([(.aload_n 0, 1, []), (.getfield 7, 3, [12, 0, 3]), (.iconst 2, 1, []), (.iaload, 1, []), (.ifCond .ne 5, 3, [2, 1, 1, 0])], 0, 0),
  ([(.iconst (-1), 1, []), (.ireturn, 1, [0])], 0, 0),
  ([(.aload_n 0, 1, []), (.getfield 7, 3, [12, 0, 3]), (.iconst 2, 1, []), (.dup2, 1, []), (.iaload, 1, []), (.iconst 1, 1, []), (.isub, 1, []), (.iastore, 1, []), (.iconst 0, 1, []), (.istore_n 1, 1, [])], 3, 3),
  ([(.iload_n 1, 1, []), (.bipush 30, 2, []), (.if_icmp .ge 39, 3, [5, 1, 4, 3])], 0, 0),
  ([(.aload_n 0, 1, []), (.getfield 7, 3, [12, 0, 3]), (.sipush 190, 3, []), (.iload_n 1, 1, []), (.iadd, 1, []), (.aload_n 0, 1, []), (.getfield 7, 3, [12, 0, 3]), (.sipush 220, 3, []), (.bipush 30, 2, []), (.aload_n 0, 1, []), (.getfield 7, 3, [12, 0, 3]), (.iconst 2, 1, []), (.iaload, 1, []), (.imul, 1, []), (.iadd, 1, []), (.iload_n 1, 1, []), (.iadd, 1, []), (.iaload, 1, []), (.iastore, 1, []), (.iinc 1 1, 3, []), (.goto (-39), 3, [3, 3])], 0, 0),
  ([(.aload_n 0, 1, []), (.getfield 7, 3, [12, 0, 3]), (.sipush 190, 3, []), (.iaload, 1, []), (.ireturn, 1, [0])], 0, 0)]
def z_M_undo : xMeth := (n_M_undo, prog_14_method_67_code, 2, some FieldType.int, [0, 9, 11, 23, 29, 65], B_M_undo, (0, 0))
def n_M_of : MethodName := ⟨"RingCouncilModel", "of", "(II)I"⟩
abbrev m_M_of : Nat := 182
def B_M_of : List xB := [
  ([(.aload_n 0, 1, []), (.iload_n 1, 1, []), (.invokevirtual 98, 3, [1, 120, 1, 12, 0]), (.ifCond .ne 6, 3, [2, 7, 1, 0])], 0, 0),
  ([(.bipush (-2), 2, []), (.ireturn, 1, [0])], 0, 0),
  ([(.aload_n 0, 1, []), (.invokevirtual 305, 3, [1, 170, 0, 12, 1]), (.iload_n 2, 1, []), (.tableswitch 120 0 6 #[44, 55, 66, 77, 90, 100, 110], 44, [10, 0, 3, 3, 4, 3, 5, 3, 6, 3, 7, 3, 8, 3, 9, 3])], 0, 0),
  ([(.aload_n 0, 1, []), (.getfield 7, 3, [12, 0, 3]), (.sipush 192, 3, []), (.iload_n 1, 1, []), (.iadd, 1, []), (.iaload, 1, []), (.ireturn, 1, [0])], 0, 0),
  ([(.aload_n 0, 1, []), (.getfield 7, 3, [12, 0, 3]), (.sipush 201, 3, []), (.iload_n 1, 1, []), (.iadd, 1, []), (.iaload, 1, []), (.ireturn, 1, [0])], 0, 0),
  ([(.aload_n 0, 1, []), (.getfield 7, 3, [12, 0, 3]), (.sipush 210, 3, []), (.iload_n 1, 1, []), (.iadd, 1, []), (.iaload, 1, []), (.ireturn, 1, [0])], 0, 0),
  ([(.aload_n 0, 1, []), (.aload_n 0, 1, []), (.getfield 7, 3, [12, 0, 3]), (.sipush 190, 3, []), (.iload_n 1, 1, []), (.invokevirtual 281, 3, [1, 172, 3, 12, 0]), (.ireturn, 1, [0])], 0, 0),
  ([(.aload_n 0, 1, []), (.getfield 7, 3, [12, 0, 3]), (.bipush 10, 2, []), (.iload_n 1, 1, []), (.iadd, 1, []), (.iaload, 1, []), (.ireturn, 1, [0])], 0, 0),
  ([(.aload_n 0, 1, []), (.getfield 7, 3, [12, 0, 3]), (.bipush 20, 2, []), (.iload_n 1, 1, []), (.iadd, 1, []), (.iaload, 1, []), (.ireturn, 1, [0])], 0, 0),
  ([(.aload_n 0, 1, []), (.getfield 7, 3, [12, 0, 3]), (.bipush 30, 2, []), (.iload_n 1, 1, []), (.iadd, 1, []), (.iaload, 1, []), (.ireturn, 1, [0])], 0, 0),
  ([(.bipush (-2), 2, []), (.ireturn, 1, [0])], 0, 0)]
def z_M_of : xMeth := (n_M_of, prog_14_method_68_code, 3, some FieldType.int, [0, 8, 11, 60, 71, 82, 93, 106, 116, 126, 136], B_M_of, (0, 0))
def n_M_agree : MethodName := ⟨"RingCouncilModel", "agree", "()Z"⟩
abbrev m_M_agree : Nat := 183
def B_M_agree : List xB := [
  ([(.aload_n 0, 1, []), (.invokevirtual 305, 3, [1, 170, 0, 12, 1]), (.aload_n 0, 1, []), (.aload_n 0, 1, []), (.getfield 7, 3, [12, 0, 3]), (.sipush 190, 3, []), (.invokevirtual 311, 3, [1, 173, 2, 12, 0]), (.ireturn, 1, [1])], 0, 0)]
def z_M_agree : xMeth := (n_M_agree, prog_14_method_69_code, 1, some FieldType.boolean, [0], B_M_agree, (0, 0))
def n_M_notesIn : MethodName := ⟨"RingCouncilModel", "notesIn", "([II)I"⟩
abbrev m_M_notesIn : Nat := 184
def B_M_notesIn : List xB := [
  ([(.iconst 0, 1, []), (.istore_n 3, 1, []), (.iconst 0, 1, []), (.istore 4, 2, [])], 1, 31),
  ([(.iload 4, 2, []), (.aload_n 0, 1, []), (.getfield 83, 3, [12, 2, 0]), (.if_icmp .ge 47, 3, [9, 8, 2, 31])], 0, 0),
  ([(.iload_n 3, 1, []), (.aload_n 1, 1, []), (.iload_n 2, 1, []), (.bipush 11, 2, []), (.iadd, 1, []), (.iload 4, 2, []), (.iadd, 1, []), (.iaload, 1, []), (.ifCond .lt 7, 3, [4, 23, 3, 23])], 0, 0),
  ([(.iconst 1, 1, []), (.goto 4, 3, [5, 23])], 0, 0),
  ([(.iconst 0, 1, [])], 5, 23),
  ([(.aload_n 1, 1, []), (.iload_n 2, 1, []), (.bipush 20, 2, []), (.iadd, 1, []), (.iload 4, 2, []), (.iadd, 1, []), (.iaload, 1, []), (.ifCond .lt 7, 3, [7, 23, 6, 23])], 0, 0),
  ([(.iconst 1, 1, []), (.goto 4, 3, [8, 23])], 0, 0),
  ([(.iconst 0, 1, [])], 8, 23),
  ([(.iadd, 1, []), (.iadd, 1, []), (.istore_n 3, 1, []), (.iinc 4 1, 3, []), (.goto (-50), 3, [1, 31])], 0, 0),
  ([(.iload_n 3, 1, []), (.ireturn, 1, [0])], 0, 0)]
def z_M_notesIn : xMeth := (n_M_notesIn, prog_14_method_70_code, 5, some FieldType.int, [0, 5, 14, 27, 31, 32, 44, 48, 49, 58], B_M_notesIn, (0, 0))
def n_M_agrees : MethodName := ⟨"RingCouncilModel", "agrees", "(I)I"⟩
abbrev m_M_agrees : Nat := 185
def B_M_agrees : List xB := [
  ([(.iload_n 1, 1, []), (.iconst 0, 1, []), (.iconst 1, 1, []), (.invokestatic 94, 3, [1, 118, 3, 0]), (.ifCond .ne 5, 3, [2, 3, 1, 0])], 0, 0),
  ([(.iconst (-1), 1, []), (.ireturn, 1, [0])], 0, 0),
  ([(.aload_n 0, 1, []), (.invokevirtual 305, 3, [1, 170, 0, 12, 1]), (.aload_n 0, 1, []), (.aload_n 0, 1, []), (.getfield 49, 3, [12, 27, 3]), (.iconst 0, 1, []), (.invokevirtual 86, 3, [1, 123, 2, 12, 1]), (.iconst (-1), 1, []), (.istore_n 2, 1, []), (.iconst 0, 1, []), (.istore_n 3, 1, []), (.iconst 0, 1, []), (.istore 4, 2, []), (.iconst 0, 1, []), (.istore 5, 2, [])], 3, 63),
  ([(.iload 5, 2, []), (.bipush 40, 2, []), (.if_icmp .gt 59, 3, [11, 22, 4, 63])], 0, 0),
  ([(.iload_n 3, 1, []), (.aload_n 0, 1, []), (.aload_n 0, 1, []), (.getfield 49, 3, [12, 27, 3]), (.iconst 0, 1, []), (.invokevirtual 315, 3, [1, 184, 2, 12, 0]), (.iadd, 1, []), (.istore_n 3, 1, []), (.aload_n 0, 1, []), (.aload_n 0, 1, []), (.getfield 49, 3, [12, 27, 3]), (.iconst 0, 1, []), (.invokevirtual 311, 3, [1, 173, 2, 12, 0]), (.ifCond .ne 8, 3, [6, 63, 5, 59])], 0, 0),
  ([(.iconst (-1), 1, []), (.istore_n 2, 1, []), (.goto 13, 3, [8, 63])], 0, 0),
  ([(.iload_n 2, 1, []), (.ifCond .ge 9, 3, [8, 63, 7, 43])], 0, 0),
  ([(.iload 5, 2, []), (.istore_n 2, 1, []), (.iload_n 3, 1, []), (.istore 4, 2, [])], 8, 63),
  ([(.iload 5, 2, []), (.bipush 40, 2, []), (.if_icmp .ge 7, 3, [10, 63, 9, 63])], 0, 0),
  ([(.aload_n 0, 1, []), (.invokevirtual 319, 3, [1, 177, 0, 12, 1])], 10, 63),
  ([(.iinc 5 1, 3, []), (.goto (-60), 3, [3, 63])], 0, 0),
  ([(.iload_n 2, 1, []), (.ifCond .ge 7, 3, [13, 22, 12, 0])], 0, 0),
  ([(.iconst (-1), 1, []), (.goto 13, 3, [16, 0])], 0, 0),
  ([(.iload_n 1, 1, []), (.ifCond .ne 7, 3, [15, 16, 14, 4])], 0, 0),
  ([(.iload_n 2, 1, []), (.goto 5, 3, [16, 0])], 0, 0),
  ([(.iload 4, 2, [])], 16, 0),
  ([(.ireturn, 1, [0])], 0, 0)]
def z_M_agrees : xMeth := (n_M_agrees, prog_14_method_71_code, 6, some FieldType.int, [0, 9, 11, 34, 41, 65, 70, 74, 80, 87, 91, 97, 101, 105, 109, 113, 115], B_M_agrees, (0, 0))
def n_M_stateAt : MethodName := ⟨"RingCouncilModel", "stateAt", "(II)I"⟩
abbrev m_M_stateAt : Nat := 186
def B_M_stateAt : List xB := [
  ([(.bipush 30, 2, []), (.sipush 2000, 3, []), (.iload_n 0, 1, []), (.imul, 1, []), (.iload_n 1, 1, []), (.iadd, 1, []), (.imul, 1, []), (.ireturn, 1, [0])], 0, 0)]
def z_M_stateAt : xMeth := (n_M_stateAt, prog_14_method_72_code, 2, some FieldType.int, [0], B_M_stateAt, (0, 0))
def n_M_sumOfRow : MethodName := ⟨"RingCouncilModel", "sumOfRow", "([II)I"⟩
abbrev m_M_sumOfRow : Nat := 187
def B_M_sumOfRow : List xB := [
  ([(.iconst 3, 1, []), (.istore_n 2, 1, []), (.iconst 1, 1, []), (.istore_n 3, 1, [])], 1, 15),
  ([(.iload_n 3, 1, []), (.bipush 29, 2, []), (.if_icmp .ge 22, 3, [3, 4, 2, 15])], 0, 0),
  ([(.bipush 31, 2, []), (.iload_n 2, 1, []), (.imul, 1, []), (.aload_n 0, 1, []), (.iload_n 1, 1, []), (.iload_n 3, 1, []), (.iadd, 1, []), (.iaload, 1, []), (.iadd, 1, []), (.iconst 1, 1, []), (.iadd, 1, []), (.istore_n 2, 1, []), (.iinc 3 1, 3, []), (.goto (-22), 3, [1, 15])], 0, 0),
  ([(.iload_n 2, 1, []), (.sipush 4095, 3, []), (.iand, 1, []), (.ireturn, 1, [0])], 0, 0)]
def z_M_sumOfRow : xMeth := (n_M_sumOfRow, prog_14_method_73_code, 4, some FieldType.int, [0, 4, 10, 29], B_M_sumOfRow, (0, 0))
def n_M_isLike : MethodName := ⟨"RingCouncilModel", "isLike", "(I[II)Z"⟩
abbrev m_M_isLike : Nat := 188
def B_M_isLike : List xB := [
  ([(.iconst 1, 1, []), (.istore 4, 2, [])], 1, 31),
  ([(.iload 4, 2, []), (.bipush 29, 2, []), (.if_icmp .ge 29, 3, [5, 0, 2, 31])], 0, 0),
  ([(.aload_n 0, 1, []), (.getfield 53, 3, [12, 28, 3]), (.iload_n 1, 1, []), (.iload 4, 2, []), (.iadd, 1, []), (.iaload, 1, []), (.aload_n 2, 1, []), (.iload_n 3, 1, []), (.iload 4, 2, []), (.iadd, 1, []), (.iaload, 1, []), (.if_icmp .eq 5, 3, [4, 31, 3, 0])], 0, 0),
  ([(.iconst 0, 1, []), (.ireturn, 1, [1])], 0, 0),
  ([(.iinc 4 1, 3, []), (.goto (-30), 3, [1, 31])], 0, 0),
  ([(.iconst 1, 1, []), (.ireturn, 1, [1])], 0, 0)]
def z_M_isLike : xMeth := (n_M_isLike, prog_14_method_74_code, 5, some FieldType.boolean, [0, 3, 10, 28, 30, 36], B_M_isLike, (0, 0))
def n_M_isFound : MethodName := ⟨"RingCouncilModel", "isFound", "(II[II)Z"⟩
abbrev m_M_isFound : Nat := 189
def B_M_isFound : List xB := [
  ([(.aload_n 0, 1, []), (.getfield 68, 3, [12, 33, 3]), (.iload_n 2, 1, []), (.iaload, 1, []), (.istore 5, 2, [])], 1, 59),
  ([(.iload 5, 2, []), (.ifCond .lt 33, 3, [5, 0, 2, 59])], 0, 0),
  ([(.aload_n 0, 1, []), (.iload_n 1, 1, []), (.iload 5, 2, []), (.invokestatic 322, 3, [1, 186, 2, 0]), (.aload_n 3, 1, []), (.iload 4, 2, []), (.invokevirtual 326, 3, [1, 188, 3, 12, 0]), (.ifCond .eq 5, 3, [4, 59, 3, 0])], 0, 0),
  ([(.iconst 1, 1, []), (.ireturn, 1, [1])], 0, 0),
  ([(.aload_n 0, 1, []), (.getfield 65, 3, [12, 32, 3]), (.iload 5, 2, []), (.iaload, 1, []), (.istore 5, 2, []), (.goto (-32), 3, [1, 59])], 0, 0),
  ([(.iconst 0, 1, []), (.ireturn, 1, [1])], 0, 0)]
def z_M_isFound : xMeth := (n_M_isFound, prog_14_method_75_code, 6, some FieldType.boolean, [0, 8, 13, 29, 31, 43], B_M_isFound, (0, 0))
def n_M_doings : MethodName := ⟨"RingCouncilModel", "doings", "()I"⟩
abbrev m_M_doings : Nat := 190
def B_M_doings : List xB := [
  ([(.aload_n 0, 1, []), (.getfield 330, 3, [12, 36, 0]), (.iconst 2, 1, []), (.iadd, 1, []), (.aload_n 0, 1, []), (.getfield 330, 3, [12, 36, 0]), (.iconst 2, 1, []), (.iadd, 1, []), (.imul, 1, []), (.iconst 2, 1, []), (.imul, 1, []), (.ireturn, 1, [0])], 0, 0)]
def z_M_doings : xMeth := (n_M_doings, prog_14_method_76_code, 1, some FieldType.int, [0], B_M_doings, (0, 0))
def n_M_partOf : MethodName := ⟨"RingCouncilModel", "partOf", "(II)I"⟩
abbrev m_M_partOf : Nat := 191
def B_M_partOf : List xB := [
  ([(.aload_n 0, 1, []), (.getfield 330, 3, [12, 36, 0]), (.iconst 2, 1, []), (.iadd, 1, []), (.istore_n 3, 1, []), (.iload_n 2, 1, []), (.iconst 2, 1, []), (.if_icmp .ne 9, 3, [2, 14, 1, 2])], 0, 0),
  ([(.iload_n 1, 1, []), (.iconst 2, 1, []), (.irem, 1, []), (.goto 25, 3, [5, 0])], 0, 0),
  ([(.iload_n 2, 1, []), (.iconst 1, 1, []), (.if_icmp .ne 13, 3, [4, 10, 3, 10])], 0, 0),
  ([(.iload_n 1, 1, []), (.iconst 2, 1, []), (.idiv, 1, []), (.iload_n 3, 1, []), (.irem, 1, []), (.iconst 1, 1, []), (.isub, 1, []), (.goto 10, 3, [5, 0])], 0, 0),
  ([(.iload_n 1, 1, []), (.iconst 2, 1, []), (.idiv, 1, []), (.iload_n 3, 1, []), (.idiv, 1, []), (.iconst 1, 1, []), (.isub, 1, [])], 5, 0),
  ([(.ireturn, 1, [0])], 0, 0)]
def z_M_partOf : xMeth := (n_M_partOf, prog_14_method_77_code, 4, some FieldType.int, [0, 12, 18, 23, 33, 40], B_M_partOf, (0, 0))
def n_M_doAs : MethodName := ⟨"RingCouncilModel", "doAs", "(II[II)V"⟩
abbrev m_M_doAs : Nat := 192
def B_M_doAs : List xB := [
  ([(.aload_n 0, 1, []), (.aload_n 3, 1, []), (.iload 4, 2, []), (.iload_n 1, 1, []), (.aload_n 0, 1, []), (.iload_n 2, 1, []), (.iconst 0, 1, []), (.invokevirtual 333, 3, [1, 191, 2, 12, 0]), (.aload_n 0, 1, []), (.iload_n 2, 1, []), (.iconst 1, 1, []), (.invokevirtual 333, 3, [1, 191, 2, 12, 0]), (.aload_n 0, 1, []), (.iload_n 2, 1, []), (.iconst 2, 1, []), (.invokevirtual 333, 3, [1, 191, 2, 12, 0]), (.iconst 1, 1, []), (.if_icmp .ne 7, 3, [2, 0, 1, 0])], 0, 0),
  ([(.iconst 1, 1, []), (.goto 4, 3, [3, 0])], 0, 0),
  ([(.iconst 0, 1, [])], 3, 0),
  ([(.invokevirtual 294, 3, [1, 175, 6, 12, 1]), (.return_, 1, [])], 0, 0)]
def z_M_doAs : xMeth := (n_M_doAs, prog_14_method_78_code, 5, none, [0, 27, 31, 32], B_M_doAs, (0, 0))
def n_M_doingOf : MethodName := ⟨"RingCouncilModel", "doingOf", "(II)I"⟩
abbrev m_M_doingOf : Nat := 193
def B_M_doingOf : List xB := [
  ([(.aload_n 0, 1, []), (.getfield 336, 3, [12, 35, 0]), (.iconst 2, 1, []), (.if_icmp .ne 25, 3, [4, 2, 1, 7])], 0, 0),
  ([(.iload_n 2, 1, []), (.ifCond .ne 12, 3, [3, 3, 2, 3])], 0, 0),
  ([(.iload_n 1, 1, []), (.aload_n 0, 1, []), (.invokevirtual 339, 3, [1, 190, 0, 12, 0]), (.idiv, 1, []), (.goto 13, 3, [5, 0])], 0, 0),
  ([(.iload_n 1, 1, []), (.aload_n 0, 1, []), (.invokevirtual 339, 3, [1, 190, 0, 12, 0]), (.irem, 1, []), (.goto 4, 3, [5, 0])], 0, 0),
  ([(.iload_n 1, 1, [])], 5, 0),
  ([(.ireturn, 1, [0])], 0, 0)]
def z_M_doingOf : xMeth := (n_M_doingOf, prog_14_method_79_code, 3, some FieldType.int, [0, 8, 12, 21, 30, 31], B_M_doingOf, (0, 0))
def n_M_findNext : MethodName := ⟨"RingCouncilModel", "findNext", "(III)Z"⟩
abbrev m_M_findNext : Nat := 194
def B_M_findNext : List xB := [
  ([(.iconst 0, 1, []), (.istore 4, 2, [])], 1, 31),
  ([(.iload 4, 2, []), (.sipush 4096, 3, []), (.if_icmp .ge 17, 3, [3, 15, 2, 31])], 0, 0),
  ([(.aload_n 0, 1, []), (.getfield 68, 3, [12, 33, 3]), (.iload 4, 2, []), (.iconst (-1), 1, []), (.iastore, 1, []), (.iinc 4 1, 3, []), (.goto (-19), 3, [1, 31])], 0, 0),
  ([(.aload_n 0, 1, []), (.getfield 56, 3, [12, 29, 3]), (.iload_n 1, 1, []), (.iconst 1, 1, []), (.iadd, 1, []), (.iconst 0, 1, []), (.iastore, 1, []), (.iconst 1, 1, []), (.istore 4, 2, []), (.iconst 0, 1, []), (.istore 5, 2, [])], 4, 63),
  ([(.iload 5, 2, []), (.aload_n 0, 1, []), (.getfield 336, 3, [12, 35, 0]), (.if_icmp .ge 18, 3, [6, 31, 5, 63])], 0, 0),
  ([(.iload 4, 2, []), (.aload_n 0, 1, []), (.invokevirtual 339, 3, [1, 190, 0, 12, 0]), (.imul, 1, []), (.istore 4, 2, []), (.iinc 5 1, 3, []), (.goto (-21), 3, [4, 63])], 0, 0),
  ([(.iconst 0, 1, []), (.istore 5, 2, [])], 7, 63),
  ([(.iload 5, 2, []), (.aload_n 0, 1, []), (.getfield 56, 3, [12, 29, 3]), (.iload_n 1, 1, []), (.iaload, 1, []), (.if_icmp .ge 220, 3, [27, 0, 8, 63])], 0, 0),
  ([(.aload_n 0, 1, []), (.aload_n 0, 1, []), (.getfield 53, 3, [12, 28, 3]), (.iload_n 1, 1, []), (.iload 5, 2, []), (.invokestatic 322, 3, [1, 186, 2, 0]), (.aload_n 0, 1, []), (.getfield 74, 3, [12, 37, 3]), (.iconst 0, 1, []), (.invokevirtual 301, 3, [1, 176, 4, 12, 1]), (.iconst 0, 1, []), (.istore 6, 2, [])], 9, 127),
  ([(.iload 6, 2, []), (.iload 4, 2, []), (.if_icmp .ge 185, 3, [26, 63, 10, 127])], 0, 0),
  ([(.iconst 0, 1, []), (.istore 7, 2, [])], 11, 255),
  ([(.iload 7, 2, []), (.bipush 30, 2, []), (.if_icmp .ge 23, 3, [13, 127, 12, 255])], 0, 0),
  ([(.aload_n 0, 1, []), (.getfield 77, 3, [12, 38, 3]), (.iload 7, 2, []), (.aload_n 0, 1, []), (.getfield 74, 3, [12, 37, 3]), (.iload 7, 2, []), (.iaload, 1, []), (.iastore, 1, []), (.iinc 7 1, 3, []), (.goto (-24), 3, [11, 255])], 0, 0),
  ([(.iconst 0, 1, []), (.istore 7, 2, [])], 14, 255),
  ([(.iload 7, 2, []), (.aload_n 0, 1, []), (.getfield 336, 3, [12, 35, 0]), (.if_icmp .ge 33, 3, [16, 127, 15, 255])], 0, 0),
  ([(.aload_n 0, 1, []), (.aload_n 0, 1, []), (.getfield 71, 3, [12, 34, 3]), (.iload 7, 2, []), (.iaload, 1, []), (.aload_n 0, 1, []), (.iload 6, 2, []), (.iload 7, 2, []), (.invokevirtual 342, 3, [1, 193, 2, 12, 0]), (.aload_n 0, 1, []), (.getfield 77, 3, [12, 38, 3]), (.iconst 0, 1, []), (.invokevirtual 345, 3, [1, 192, 4, 12, 1]), (.iinc 7 1, 3, []), (.goto (-36), 3, [14, 255])], 0, 0),
  ([(.iload_n 2, 1, []), (.ifCond .lt 44, 3, [20, 127, 17, 127])], 0, 0),
  ([(.aload_n 0, 1, []), (.getfield 77, 3, [12, 38, 3]), (.bipush 11, 2, []), (.iload_n 2, 1, []), (.iadd, 1, []), (.iaload, 1, []), (.aload_n 0, 1, []), (.getfield 7, 3, [12, 0, 3]), (.iload_n 3, 1, []), (.iaload, 1, []), (.if_icmp .ne 85, 3, [25, 127, 18, 127])], 0, 0),
  ([(.aload_n 0, 1, []), (.getfield 77, 3, [12, 38, 3]), (.bipush 20, 2, []), (.iload_n 2, 1, []), (.iadd, 1, []), (.iaload, 1, []), (.aload_n 0, 1, []), (.getfield 7, 3, [12, 0, 3]), (.iload_n 3, 1, []), (.iconst 1, 1, []), (.iadd, 1, []), (.iaload, 1, []), (.if_icmp .eq 6, 3, [20, 127, 19, 127])], 0, 0),
  ([(.goto 62, 3, [25, 127])], 0, 0),
  ([(.aload_n 0, 1, []), (.getfield 77, 3, [12, 38, 3]), (.iconst 0, 1, []), (.invokestatic 349, 3, [1, 187, 2, 0]), (.istore 7, 2, []), (.aload_n 0, 1, []), (.iload_n 1, 1, []), (.iconst 1, 1, []), (.iadd, 1, []), (.iload 7, 2, []), (.aload_n 0, 1, []), (.getfield 77, 3, [12, 38, 3]), (.iconst 0, 1, []), (.invokevirtual 352, 3, [1, 189, 4, 12, 0]), (.ifCond .eq 6, 3, [22, 255, 21, 127])], 0, 0),
  ([(.goto 32, 3, [25, 127])], 0, 0),
  ([(.aload_n 0, 1, []), (.getfield 56, 3, [12, 29, 3]), (.iload_n 1, 1, []), (.iconst 1, 1, []), (.iadd, 1, []), (.iaload, 1, []), (.sipush 2000, 3, []), (.if_icmp .ne 5, 3, [24, 255, 23, 0])], 0, 0),
  ([(.iconst 0, 1, []), (.ireturn, 1, [1])], 0, 0),
  ([(.aload_n 0, 1, []), (.iload_n 1, 1, []), (.iconst 1, 1, []), (.iadd, 1, []), (.iload 7, 2, []), (.iload 5, 2, []), (.iload 6, 2, []), (.invokevirtual 356, 3, [1, 195, 4, 12, 1])], 25, 127),
  ([(.iinc 6 1, 3, []), (.goto (-186), 3, [9, 127])], 0, 0),
  ([(.iinc 5 1, 3, []), (.goto (-225), 3, [7, 63])], 0, 0),
  ([(.iconst 1, 1, []), (.ireturn, 1, [1])], 0, 0)]
def z_M_findNext : xMeth := (n_M_findNext, prog_14_method_80_code, 8, some FieldType.boolean, [0, 3, 11, 25, 40, 49, 64, 67, 78, 100, 107, 110, 117, 137, 140, 149, 179, 183, 201, 221, 224, 251, 254, 268, 270, 283, 289, 295], B_M_findNext, (0, 0))
def n_M_add : MethodName := ⟨"RingCouncilModel", "add", "(IIII)V"⟩
abbrev m_M_add : Nat := 195
def B_M_add : List xB := [
  ([(.aload_n 0, 1, []), (.getfield 56, 3, [12, 29, 3]), (.iload_n 1, 1, []), (.iaload, 1, []), (.istore 5, 2, []), (.iconst 0, 1, []), (.istore 6, 2, [])], 1, 127),
  ([(.iload 6, 2, []), (.bipush 30, 2, []), (.if_icmp .ge 30, 3, [3, 63, 2, 127])], 0, 0),
  ([(.aload_n 0, 1, []), (.getfield 53, 3, [12, 28, 3]), (.iload_n 1, 1, []), (.iload 5, 2, []), (.invokestatic 322, 3, [1, 186, 2, 0]), (.iload 6, 2, []), (.iadd, 1, []), (.aload_n 0, 1, []), (.getfield 77, 3, [12, 38, 3]), (.iload 6, 2, []), (.iaload, 1, []), (.iastore, 1, []), (.iinc 6 1, 3, []), (.goto (-31), 3, [1, 127])], 0, 0),
  ([(.aload_n 0, 1, []), (.getfield 59, 3, [12, 30, 3]), (.sipush 2000, 3, []), (.iload_n 1, 1, []), (.imul, 1, []), (.iload 5, 2, []), (.iadd, 1, []), (.iload_n 3, 1, []), (.iastore, 1, []), (.aload_n 0, 1, []), (.getfield 62, 3, [12, 31, 3]), (.sipush 2000, 3, []), (.iload_n 1, 1, []), (.imul, 1, []), (.iload 5, 2, []), (.iadd, 1, []), (.iload 4, 2, []), (.iastore, 1, []), (.aload_n 0, 1, []), (.getfield 65, 3, [12, 32, 3]), (.iload 5, 2, []), (.aload_n 0, 1, []), (.getfield 68, 3, [12, 33, 3]), (.iload_n 2, 1, []), (.iaload, 1, []), (.iastore, 1, []), (.aload_n 0, 1, []), (.getfield 68, 3, [12, 33, 3]), (.iload_n 2, 1, []), (.iload 5, 2, []), (.iastore, 1, []), (.aload_n 0, 1, []), (.getfield 56, 3, [12, 29, 3]), (.iload_n 1, 1, []), (.dup2, 1, []), (.iaload, 1, []), (.iconst 1, 1, []), (.iadd, 1, []), (.iastore, 1, []), (.return_, 1, [])], 0, 0)]
def z_M_add : xMeth := (n_M_add, prog_14_method_81_code, 7, none, [0, 11, 18, 45], B_M_add, (0, 0))
def n_M_beginRuns : MethodName := ⟨"RingCouncilModel", "beginRuns", "()V"⟩
abbrev m_M_beginRuns : Nat := 196
def B_M_beginRuns : List xB := [
  ([(.aload_n 0, 1, []), (.aload_n 0, 1, []), (.getfield 53, 3, [12, 28, 3]), (.iconst 0, 1, []), (.invokevirtual 86, 3, [1, 123, 2, 12, 1]), (.aload_n 0, 1, []), (.getfield 53, 3, [12, 28, 3]), (.bipush 29, 2, []), (.iconst 0, 1, []), (.iastore, 1, []), (.aload_n 0, 1, []), (.getfield 56, 3, [12, 29, 3]), (.iconst 0, 1, []), (.iconst 1, 1, []), (.iastore, 1, []), (.return_, 1, [])], 0, 0)]
def z_M_beginRuns : xMeth := (n_M_beginRuns, prog_14_method_82_code, 1, none, [0], B_M_beginRuns, (0, 0))
def n_M_liars : MethodName := ⟨"RingCouncilModel", "liars", "()I"⟩
abbrev m_M_liars : Nat := 197
def B_M_liars : List xB := [
  ([(.iconst 0, 1, []), (.istore_n 1, 1, []), (.iconst 0, 1, []), (.istore_n 2, 1, [])], 1, 7),
  ([(.iload_n 2, 1, []), (.aload_n 0, 1, []), (.getfield 83, 3, [12, 2, 0]), (.if_icmp .ge 30, 3, [6, 2, 2, 7])], 0, 0),
  ([(.iload_n 1, 1, []), (.aload_n 0, 1, []), (.getfield 7, 3, [12, 0, 3]), (.bipush 10, 2, []), (.iload_n 2, 1, []), (.iadd, 1, []), (.iaload, 1, []), (.iconst 1, 1, []), (.if_icmp .ne 7, 3, [4, 5, 3, 5])], 0, 0),
  ([(.iconst 1, 1, []), (.goto 4, 3, [5, 5])], 0, 0),
  ([(.iconst 0, 1, [])], 5, 5),
  ([(.iadd, 1, []), (.istore_n 1, 1, []), (.iinc 2 1, 3, []), (.goto (-32), 3, [1, 7])], 0, 0),
  ([(.iload_n 1, 1, []), (.ireturn, 1, [0])], 0, 0)]
def z_M_liars : xMeth := (n_M_liars, prog_14_method_83_code, 3, some FieldType.int, [0, 4, 12, 26, 30, 31, 39], B_M_liars, (0, 0))
def n_M_areRuns : MethodName := ⟨"RingCouncilModel", "areRuns", "(II)Z"⟩
abbrev m_M_areRuns : Nat := 198
def B_M_areRuns : List xB := [
  ([(.iload_n 1, 1, []), (.iconst 0, 1, []), (.bipush 6, 2, []), (.invokestatic 94, 3, [1, 118, 3, 0]), (.ifCond .eq 24, 3, [4, 0, 1, 5])], 0, 0),
  ([(.iload_n 2, 1, []), (.iconst 0, 1, []), (.iconst 2, 1, []), (.invokestatic 94, 3, [1, 118, 3, 0]), (.ifCond .eq 15, 3, [4, 0, 2, 1])], 0, 0),
  ([(.aload_n 0, 1, []), (.invokevirtual 360, 3, [1, 197, 0, 12, 0]), (.iconst 2, 1, []), (.if_icmp .gt 7, 3, [4, 0, 3, 0])], 0, 0),
  ([(.iconst 1, 1, []), (.goto 4, 3, [5, 0])], 0, 0),
  ([(.iconst 0, 1, [])], 5, 0),
  ([(.ireturn, 1, [1])], 0, 0)]
def z_M_areRuns : xMeth := (n_M_areRuns, prog_14_method_84_code, 3, some FieldType.boolean, [0, 10, 19, 27, 31, 32], B_M_areRuns, (0, 0))
def n_M_findRuns : MethodName := ⟨"RingCouncilModel", "findRuns", "(II)Z"⟩
abbrev m_M_findRuns : Nat := 199
def B_M_findRuns : List xB := [
  ([(.aload_n 0, 1, []), (.invokevirtual 305, 3, [1, 170, 0, 12, 1]), (.aload_n 0, 1, []), (.iload_n 2, 1, []), (.putfield 330, 3, [12, 36, 0]), (.aload_n 0, 1, []), (.iconst 0, 1, []), (.putfield 336, 3, [12, 35, 0]), (.iconst 0, 1, []), (.istore_n 3, 1, [])], 1, 11),
  ([(.iload_n 3, 1, []), (.aload_n 0, 1, []), (.getfield 83, 3, [12, 2, 0]), (.if_icmp .ge 49, 3, [6, 3, 2, 11])], 0, 0),
  ([(.aload_n 0, 1, []), (.getfield 46, 3, [12, 26, 3]), (.iload_n 3, 1, []), (.iaload, 1, []), (.iconst 1, 1, []), (.if_icmp .eq 6, 3, [4, 11, 3, 11])], 0, 0),
  ([(.goto 30, 3, [5, 11])], 0, 0),
  ([(.aload_n 0, 1, []), (.getfield 71, 3, [12, 34, 3]), (.aload_n 0, 1, []), (.getfield 336, 3, [12, 35, 0]), (.iload_n 3, 1, []), (.iastore, 1, []), (.aload_n 0, 1, []), (.dup, 1, []), (.getfield 336, 3, [12, 35, 0]), (.iconst 1, 1, []), (.iadd, 1, []), (.putfield 336, 3, [12, 35, 0]), (.aload_n 0, 1, []), (.getfield 46, 3, [12, 26, 3]), (.iload_n 3, 1, []), (.iconst 3, 1, []), (.iastore, 1, [])], 5, 11),
  ([(.iinc 3 1, 3, []), (.goto (-51), 3, [1, 11])], 0, 0),
  ([(.aload_n 0, 1, []), (.invokevirtual 363, 3, [1, 196, 0, 12, 1]), (.iconst 0, 1, []), (.istore_n 3, 1, [])], 7, 11),
  ([(.iload_n 3, 1, []), (.iload_n 1, 1, []), (.if_icmp .ge 21, 3, [11, 0, 8, 11])], 0, 0),
  ([(.aload_n 0, 1, []), (.iload_n 3, 1, []), (.iconst (-1), 1, []), (.iconst 0, 1, []), (.invokevirtual 366, 3, [1, 194, 3, 12, 0]), (.ifCond .ne 5, 3, [10, 11, 9, 0])], 0, 0),
  ([(.iconst 0, 1, []), (.ireturn, 1, [1])], 0, 0),
  ([(.iinc 3 1, 3, []), (.goto (-20), 3, [7, 11])], 0, 0),
  ([(.iconst 1, 1, []), (.ireturn, 1, [1])], 0, 0)]
def z_M_findRuns : xMeth := (n_M_findRuns, prog_14_method_85_code, 4, some FieldType.boolean, [0, 16, 24, 34, 37, 64, 70, 76, 81, 91, 93, 99], B_M_findRuns, (0, 0))
def n_M_firstBad : MethodName := ⟨"RingCouncilModel", "firstBad", "(I)I"⟩
abbrev m_M_firstBad : Nat := 200
def B_M_firstBad : List xB := [
  ([(.iconst 0, 1, []), (.istore_n 2, 1, [])], 1, 7),
  ([(.iload_n 2, 1, []), (.aload_n 0, 1, []), (.getfield 56, 3, [12, 29, 3]), (.iload_n 1, 1, []), (.iaload, 1, []), (.if_icmp .ge 27, 3, [5, 0, 2, 7])], 0, 0),
  ([(.aload_n 0, 1, []), (.aload_n 0, 1, []), (.getfield 53, 3, [12, 28, 3]), (.iload_n 1, 1, []), (.iload_n 2, 1, []), (.invokestatic 322, 3, [1, 186, 2, 0]), (.invokevirtual 311, 3, [1, 173, 2, 12, 0]), (.ifCond .ne 5, 3, [4, 7, 3, 4])], 0, 0),
  ([(.iload_n 2, 1, []), (.ireturn, 1, [0])], 0, 0),
  ([(.iinc 2 1, 3, []), (.goto (-31), 3, [1, 7])], 0, 0),
  ([(.iconst (-1), 1, []), (.ireturn, 1, [0])], 0, 0)]
def z_M_firstBad : xMeth := (n_M_firstBad, prog_14_method_86_code, 3, some FieldType.int, [0, 2, 12, 28, 30, 36], B_M_firstBad, (0, 0))
def n_M_holds : MethodName := ⟨"RingCouncilModel", "holds", "(II)I"⟩
abbrev m_M_holds : Nat := 201
def B_M_holds : List xB := [
  ([(.aload_n 0, 1, []), (.iload_n 1, 1, []), (.iload_n 2, 1, []), (.invokevirtual 369, 3, [1, 198, 2, 12, 0]), (.ifCond .ne 5, 3, [2, 7, 1, 0])], 0, 0),
  ([(.iconst (-1), 1, []), (.ireturn, 1, [0])], 0, 0),
  ([(.aload_n 0, 1, []), (.iload_n 1, 1, []), (.iload_n 2, 1, []), (.invokevirtual 373, 3, [1, 199, 2, 12, 0]), (.ifCond .ne 8, 3, [4, 3, 3, 0])], 0, 0),
  ([(.bipush (-2), 2, []), (.goto 16, 3, [7, 0])], 0, 0),
  ([(.aload_n 0, 1, []), (.iload_n 1, 1, []), (.invokevirtual 376, 3, [1, 200, 1, 12, 0]), (.ifCond .ge 7, 3, [6, 0, 5, 0])], 0, 0),
  ([(.iconst 1, 1, []), (.goto 4, 3, [7, 0])], 0, 0),
  ([(.iconst 0, 1, [])], 7, 0),
  ([(.ireturn, 1, [0])], 0, 0)]
def z_M_holds : xMeth := (n_M_holds, prog_14_method_87_code, 3, some FieldType.int, [0, 9, 11, 20, 25, 33, 37, 38], B_M_holds, (0, 0))
def n_M_states : MethodName := ⟨"RingCouncilModel", "states", "(II)I"⟩
abbrev m_M_states : Nat := 202
def B_M_states : List xB := [
  ([(.aload_n 0, 1, []), (.iload_n 1, 1, []), (.iload_n 2, 1, []), (.invokevirtual 369, 3, [1, 198, 2, 12, 0]), (.ifCond .ne 5, 3, [2, 7, 1, 0])], 0, 0),
  ([(.iconst (-1), 1, []), (.ireturn, 1, [0])], 0, 0),
  ([(.aload_n 0, 1, []), (.iload_n 1, 1, []), (.iload_n 2, 1, []), (.invokevirtual 373, 3, [1, 199, 2, 12, 0]), (.ifCond .eq 12, 3, [4, 0, 3, 3])], 0, 0),
  ([(.aload_n 0, 1, []), (.getfield 56, 3, [12, 29, 3]), (.iload_n 1, 1, []), (.iaload, 1, []), (.goto 5, 3, [5, 0])], 0, 0),
  ([(.bipush (-2), 2, [])], 5, 0),
  ([(.ireturn, 1, [0])], 0, 0)]
def z_M_states : xMeth := (n_M_states, prog_14_method_88_code, 3, some FieldType.int, [0, 9, 11, 20, 29, 31], B_M_states, (0, 0))
def n_M_bad : MethodName := ⟨"RingCouncilModel", "bad", "(IIIII)I"⟩
abbrev m_M_bad : Nat := 203
def B_M_bad : List xB := [
  ([(.aload_n 0, 1, []), (.iload_n 1, 1, []), (.iload_n 2, 1, []), (.invokevirtual 369, 3, [1, 198, 2, 12, 0]), (.ifCond .eq 39, 3, [4, 0, 1, 63])], 0, 0),
  ([(.iload_n 3, 1, []), (.iconst 0, 1, []), (.iload_n 1, 1, []), (.iconst 1, 1, []), (.isub, 1, []), (.invokestatic 94, 3, [1, 118, 3, 0]), (.ifCond .eq 28, 3, [4, 0, 2, 63])], 0, 0),
  ([(.iload 4, 2, []), (.iconst 0, 1, []), (.aload_n 0, 1, []), (.invokevirtual 360, 3, [1, 197, 0, 12, 0]), (.iconst 1, 1, []), (.isub, 1, []), (.invokestatic 94, 3, [1, 118, 3, 0]), (.ifCond .eq 13, 3, [4, 0, 3, 63])], 0, 0),
  ([(.iload 5, 2, []), (.iconst 0, 1, []), (.iconst 2, 1, []), (.invokestatic 94, 3, [1, 118, 3, 0]), (.ifCond .ne 6, 3, [5, 63, 4, 0])], 0, 0),
  ([(.bipush (-3), 2, []), (.ireturn, 1, [0])], 0, 0),
  ([(.aload_n 0, 1, []), (.iload_n 1, 1, []), (.iload_n 2, 1, []), (.invokevirtual 373, 3, [1, 199, 2, 12, 0]), (.ifCond .ne 6, 3, [7, 59, 6, 0])], 0, 0),
  ([(.bipush (-2), 2, []), (.ireturn, 1, [0])], 0, 0),
  ([(.aload_n 0, 1, []), (.iload_n 1, 1, []), (.invokevirtual 376, 3, [1, 200, 1, 12, 0]), (.istore 6, 2, []), (.iload 6, 2, []), (.ifCond .ge 6, 3, [9, 123, 8, 0])], 0, 0),
  ([(.bipush (-3), 2, []), (.ireturn, 1, [0])], 0, 0),
  ([(.iload_n 1, 1, []), (.istore 7, 2, [])], 10, 249),
  ([(.iload 7, 2, []), (.iload_n 3, 1, []), (.iconst 1, 1, []), (.iadd, 1, []), (.if_icmp .le 25, 3, [12, 121, 11, 249])], 0, 0),
  ([(.aload_n 0, 1, []), (.getfield 59, 3, [12, 30, 3]), (.sipush 2000, 3, []), (.iload 7, 2, []), (.imul, 1, []), (.iload 6, 2, []), (.iadd, 1, []), (.iaload, 1, []), (.istore 6, 2, []), (.iinc 7 (-1), 3, []), (.goto (-27), 3, [10, 249])], 0, 0),
  ([(.aload_n 0, 1, []), (.aload_n 0, 1, []), (.aload_n 0, 1, []), (.getfield 62, 3, [12, 31, 3]), (.sipush 2000, 3, []), (.iload_n 3, 1, []), (.iconst 1, 1, []), (.iadd, 1, []), (.imul, 1, []), (.iload 6, 2, []), (.iadd, 1, []), (.iaload, 1, []), (.iload 4, 2, []), (.invokevirtual 342, 3, [1, 193, 2, 12, 0]), (.iload 5, 2, []), (.invokevirtual 333, 3, [1, 191, 2, 12, 0]), (.ireturn, 1, [0])], 0, 0)]
def z_M_bad : xMeth := (n_M_bad, prog_14_method_89_code, 8, some FieldType.int, [0, 9, 20, 35, 45, 48, 57, 60, 72, 75, 78, 86, 108], B_M_bad, (0, 0))
def n_M_told : MethodName := ⟨"RingCouncilModel", "told", "(III)I"⟩
abbrev m_M_told : Nat := 204
def B_M_told : List xB := [
  ([(.aload_n 0, 1, []), (.iload_n 1, 1, []), (.invokevirtual 98, 3, [1, 120, 1, 12, 0]), (.ifCond .eq 44, 3, [5, 0, 1, 15])], 0, 0),
  ([(.iload_n 2, 1, []), (.iconst (-1), 1, []), (.bipush 99, 2, []), (.invokestatic 94, 3, [1, 118, 3, 0]), (.ifCond .eq 34, 3, [5, 0, 2, 15])], 0, 0),
  ([(.iload_n 3, 1, []), (.iconst (-1), 1, []), (.bipush 99, 2, []), (.invokestatic 94, 3, [1, 118, 3, 0]), (.ifCond .eq 24, 3, [5, 0, 3, 15])], 0, 0),
  ([(.aload_n 0, 1, []), (.getfield 7, 3, [12, 0, 3]), (.iconst 4, 1, []), (.iaload, 1, []), (.iload_n 1, 1, []), (.if_icmp .ne 16, 3, [6, 15, 4, 15])], 0, 0),
  ([(.aload_n 0, 1, []), (.getfield 7, 3, [12, 0, 3]), (.iconst 3, 1, []), (.iaload, 1, []), (.bipush 8, 2, []), (.if_icmp .ne 5, 3, [6, 15, 5, 0])], 0, 0),
  ([(.iconst (-1), 1, []), (.ireturn, 1, [0])], 0, 0),
  ([(.aload_n 0, 1, []), (.getfield 7, 3, [12, 0, 3]), (.iconst 4, 1, []), (.iaload, 1, []), (.iload_n 1, 1, []), (.if_icmp .eq 10, 3, [8, 15, 7, 15])], 0, 0),
  ([(.aload_n 0, 1, []), (.getfield 7, 3, [12, 0, 3]), (.iconst 3, 1, []), (.iconst 0, 1, []), (.iastore, 1, [])], 8, 15),
  ([(.aload_n 0, 1, []), (.getfield 7, 3, [12, 0, 3]), (.iconst 4, 1, []), (.iload_n 1, 1, []), (.iastore, 1, []), (.aload_n 0, 1, []), (.getfield 7, 3, [12, 0, 3]), (.sipush 170, 3, []), (.iconst 2, 1, []), (.aload_n 0, 1, []), (.getfield 7, 3, [12, 0, 3]), (.iconst 3, 1, []), (.iaload, 1, []), (.imul, 1, []), (.iadd, 1, []), (.iload_n 2, 1, []), (.iastore, 1, []), (.aload_n 0, 1, []), (.getfield 7, 3, [12, 0, 3]), (.sipush 170, 3, []), (.iconst 2, 1, []), (.aload_n 0, 1, []), (.getfield 7, 3, [12, 0, 3]), (.iconst 3, 1, []), (.iaload, 1, []), (.imul, 1, []), (.iadd, 1, []), (.iconst 1, 1, []), (.iadd, 1, []), (.iload_n 3, 1, []), (.iastore, 1, []), (.aload_n 0, 1, []), (.getfield 7, 3, [12, 0, 3]), (.iconst 3, 1, []), (.dup2, 1, []), (.iaload, 1, []), (.iconst 1, 1, []), (.iadd, 1, []), (.iastore, 1, []), (.aload_n 0, 1, []), (.getfield 7, 3, [12, 0, 3]), (.iconst 3, 1, []), (.iaload, 1, []), (.ireturn, 1, [0])], 0, 0)]
def z_M_told : xMeth := (n_M_told, prog_14_method_90_code, 4, some FieldType.int, [0, 8, 18, 28, 38, 49, 51, 61, 68], B_M_told, (0, 0))
def n_M_forget : MethodName := ⟨"RingCouncilModel", "forget", "()I"⟩
abbrev m_M_forget : Nat := 205
def B_M_forget : List xB := [
  ([(.aload_n 0, 1, []), (.getfield 7, 3, [12, 0, 3]), (.iconst 3, 1, []), (.iaload, 1, []), (.istore_n 1, 1, []), (.aload_n 0, 1, []), (.getfield 7, 3, [12, 0, 3]), (.iconst 3, 1, []), (.iconst 0, 1, []), (.iastore, 1, []), (.aload_n 0, 1, []), (.getfield 7, 3, [12, 0, 3]), (.iconst 4, 1, []), (.iconst (-1), 1, []), (.iastore, 1, []), (.iload_n 1, 1, []), (.ireturn, 1, [0])], 0, 0)]
def z_M_forget : xMeth := (n_M_forget, prog_14_method_91_code, 2, some FieldType.int, [0], B_M_forget, (0, 0))
def n_M_canBe : MethodName := ⟨"RingCouncilModel", "canBe", "(II)Z"⟩
abbrev m_M_canBe : Nat := 206
def B_M_canBe : List xB := [
  ([(.aload_n 0, 1, []), (.invokevirtual 305, 3, [1, 170, 0, 12, 1]), (.iconst 0, 1, []), (.istore_n 3, 1, [])], 1, 15),
  ([(.iload_n 3, 1, []), (.aload_n 0, 1, []), (.getfield 83, 3, [12, 2, 0]), (.if_icmp .ge 26, 3, [5, 7, 2, 15])], 0, 0),
  ([(.aload_n 0, 1, []), (.getfield 46, 3, [12, 26, 3]), (.iload_n 3, 1, []), (.iaload, 1, []), (.iconst 1, 1, []), (.if_icmp .ne 10, 3, [4, 15, 3, 15])], 0, 0),
  ([(.aload_n 0, 1, []), (.getfield 46, 3, [12, 26, 3]), (.iload_n 3, 1, []), (.iconst 0, 1, []), (.iastore, 1, [])], 4, 15),
  ([(.iinc 3 1, 3, []), (.goto (-28), 3, [1, 15])], 0, 0),
  ([(.aload_n 0, 1, []), (.iload_n 2, 1, []), (.putfield 330, 3, [12, 36, 0]), (.aload_n 0, 1, []), (.iconst 0, 1, []), (.putfield 336, 3, [12, 35, 0]), (.iload_n 1, 1, []), (.ifCond .lt 22, 3, [7, 1, 6, 3])], 0, 0),
  ([(.aload_n 0, 1, []), (.getfield 46, 3, [12, 26, 3]), (.iload_n 1, 1, []), (.iconst 3, 1, []), (.iastore, 1, []), (.aload_n 0, 1, []), (.getfield 71, 3, [12, 34, 3]), (.iconst 0, 1, []), (.iload_n 1, 1, []), (.iastore, 1, []), (.aload_n 0, 1, []), (.iconst 1, 1, []), (.putfield 336, 3, [12, 35, 0])], 7, 1),
  ([(.aload_n 0, 1, []), (.invokevirtual 363, 3, [1, 196, 0, 12, 1]), (.iconst 0, 1, []), (.istore_n 3, 1, [])], 8, 9),
  ([(.iload_n 3, 1, []), (.aload_n 0, 1, []), (.getfield 7, 3, [12, 0, 3]), (.iconst 3, 1, []), (.iaload, 1, []), (.if_icmp .ge 45, 3, [14, 0, 9, 9])], 0, 0),
  ([(.aload_n 0, 1, []), (.iload_n 3, 1, []), (.aload_n 0, 1, []), (.getfield 7, 3, [12, 0, 3]), (.iconst 4, 1, []), (.iaload, 1, []), (.sipush 170, 3, []), (.iconst 2, 1, []), (.iload_n 3, 1, []), (.imul, 1, []), (.iadd, 1, []), (.invokevirtual 366, 3, [1, 194, 3, 12, 0]), (.ifCond .ne 5, 3, [11, 9, 10, 0])], 0, 0),
  ([(.iconst 1, 1, []), (.ireturn, 1, [1])], 0, 0),
  ([(.aload_n 0, 1, []), (.getfield 56, 3, [12, 29, 3]), (.iload_n 3, 1, []), (.iconst 1, 1, []), (.iadd, 1, []), (.iaload, 1, []), (.ifCond .ne 5, 3, [13, 9, 12, 0])], 0, 0),
  ([(.iconst 0, 1, []), (.ireturn, 1, [1])], 0, 0),
  ([(.iinc 3 1, 3, []), (.goto (-49), 3, [8, 9])], 0, 0),
  ([(.iconst 1, 1, []), (.ireturn, 1, [1])], 0, 0)]
def z_M_canBe : xMeth := (n_M_canBe, prog_14_method_92_code, 4, some FieldType.boolean, [0, 6, 14, 24, 31, 37, 51, 70, 76, 86, 107, 109, 120, 122, 128], B_M_canBe, (0, 0))
def n_M_suspects : MethodName := ⟨"RingCouncilModel", "suspects", "(I)I"⟩
abbrev m_M_suspects : Nat := 207
def B_M_suspects : List xB := [
  ([(.iload_n 1, 1, []), (.iconst 0, 1, []), (.iconst 2, 1, []), (.invokestatic 94, 3, [1, 118, 3, 0]), (.ifCond .eq 12, 3, [2, 0, 1, 3])], 0, 0),
  ([(.aload_n 0, 1, []), (.getfield 7, 3, [12, 0, 3]), (.iconst 3, 1, []), (.iaload, 1, []), (.ifCond .ne 5, 3, [3, 3, 2, 0])], 0, 0),
  ([(.iconst (-1), 1, []), (.ireturn, 1, [0])], 0, 0),
  ([(.aload_n 0, 1, []), (.iconst (-1), 1, []), (.iload_n 1, 1, []), (.invokevirtual 379, 3, [1, 206, 2, 12, 0]), (.ifCond .eq 9, 3, [5, 3, 4, 3])], 0, 0),
  ([(.sipush 512, 3, []), (.goto 4, 3, [6, 3])], 0, 0),
  ([(.iconst 0, 1, [])], 6, 3),
  ([(.istore_n 2, 1, []), (.iconst 0, 1, []), (.istore_n 3, 1, [])], 7, 15),
  ([(.iload_n 3, 1, []), (.aload_n 0, 1, []), (.getfield 83, 3, [12, 2, 0]), (.if_icmp .ge 34, 3, [12, 4, 8, 15])], 0, 0),
  ([(.iload_n 3, 1, []), (.aload_n 0, 1, []), (.getfield 7, 3, [12, 0, 3]), (.iconst 4, 1, []), (.iaload, 1, []), (.if_icmp .eq 18, 3, [11, 15, 9, 15])], 0, 0),
  ([(.aload_n 0, 1, []), (.iload_n 3, 1, []), (.iload_n 1, 1, []), (.invokevirtual 379, 3, [1, 206, 2, 12, 0]), (.ifCond .eq 9, 3, [11, 15, 10, 15])], 0, 0),
  ([(.iload_n 2, 1, []), (.iconst 1, 1, []), (.iload_n 3, 1, []), (.ishl, 1, []), (.ior, 1, []), (.istore_n 2, 1, [])], 11, 15),
  ([(.iinc 3 1, 3, []), (.goto (-36), 3, [7, 15])], 0, 0),
  ([(.iload_n 2, 1, []), (.ireturn, 1, [0])], 0, 0)]
def z_M_suspects : xMeth := (n_M_suspects, prog_14_method_93_code, 4, some FieldType.int, [0, 9, 18, 20, 29, 35, 36, 39, 47, 57, 66, 72, 78], B_M_suspects, (0, 0))
def n_M_isMore : MethodName := ⟨"RingCouncilModel", "isMore", "(II)Z"⟩
abbrev m_M_isMore : Nat := 208
def B_M_isMore : List xB := [
  ([(.iload_n 2, 1, []), (.ifCond .ne 14, 3, [2, 3, 1, 3])], 0, 0),
  ([(.bipush 20, 2, []), (.aload_n 0, 1, []), (.iload_n 1, 1, []), (.invokevirtual 285, 3, [1, 121, 1, 12, 0]), (.iadd, 1, []), (.goto 11, 3, [3, 1])], 0, 0),
  ([(.bipush 11, 2, []), (.aload_n 0, 1, []), (.iload_n 1, 1, []), (.invokevirtual 291, 3, [1, 122, 1, 12, 0]), (.iadd, 1, [])], 3, 1),
  ([(.istore_n 3, 1, []), (.aload_n 0, 1, []), (.getfield 49, 3, [12, 27, 3]), (.iload_n 3, 1, []), (.iaload, 1, []), (.ifCond .ge 5, 3, [5, 9, 4, 0])], 0, 0),
  ([(.iconst 0, 1, []), (.ireturn, 1, [1])], 0, 0),
  ([(.aload_n 0, 1, []), (.getfield 49, 3, [12, 27, 3]), (.iload_n 3, 1, []), (.aload_n 0, 1, []), (.getfield 49, 3, [12, 27, 3]), (.iload_n 3, 1, []), (.iaload, 1, []), (.bipush 99, 2, []), (.if_icmp .ne 7, 3, [7, 9, 6, 0])], 0, 0),
  ([(.iconst 0, 1, []), (.goto 11, 3, [8, 0])], 0, 0),
  ([(.aload_n 0, 1, []), (.getfield 49, 3, [12, 27, 3]), (.iload_n 3, 1, []), (.iaload, 1, []), (.iconst 1, 1, []), (.iadd, 1, [])], 8, 0),
  ([(.iastore, 1, []), (.iconst 1, 1, []), (.ireturn, 1, [1])], 0, 0)]
def z_M_isMore : xMeth := (n_M_isMore, prog_14_method_94_code, 4, some FieldType.boolean, [0, 4, 15, 23, 33, 35, 51, 55, 63], B_M_isMore, (0, 0))
def n_M_isSlip : MethodName := ⟨"RingCouncilModel", "isSlip", "(IIIIII)Z"⟩
abbrev m_M_isSlip : Nat := 209
def B_M_isSlip : List xB := [
  ([(.aload_n 0, 1, []), (.aload_n 0, 1, []), (.getfield 49, 3, [12, 27, 3]), (.iconst 0, 1, []), (.invokevirtual 86, 3, [1, 123, 2, 12, 1]), (.iconst 0, 1, []), (.istore 7, 2, [])], 1, 255),
  ([(.iload 7, 2, []), (.iload_n 1, 1, []), (.if_icmp .ge 31, 3, [6, 97, 2, 255])], 0, 0),
  ([(.aload_n 0, 1, []), (.invokevirtual 319, 3, [1, 177, 0, 12, 1]), (.iload 7, 2, []), (.iload_n 2, 1, []), (.if_icmp .ne 15, 3, [5, 255, 3, 255])], 0, 0),
  ([(.aload_n 0, 1, []), (.iload_n 3, 1, []), (.iload 4, 2, []), (.invokevirtual 382, 3, [1, 208, 2, 12, 0]), (.ifCond .ne 5, 3, [5, 255, 4, 0])], 0, 0),
  ([(.iconst 0, 1, []), (.ireturn, 1, [1])], 0, 0),
  ([(.iinc 7 1, 3, []), (.goto (-31), 3, [1, 255])], 0, 0),
  ([(.aload_n 0, 1, []), (.aload_n 0, 1, []), (.getfield 49, 3, [12, 27, 3]), (.iconst 0, 1, []), (.iload 5, 2, []), (.invokevirtual 281, 3, [1, 172, 3, 12, 0]), (.iload 6, 2, []), (.if_icmp .ne 7, 3, [8, 0, 7, 0])], 0, 0),
  ([(.iconst 1, 1, []), (.goto 4, 3, [9, 0])], 0, 0),
  ([(.iconst 0, 1, [])], 9, 0),
  ([(.ireturn, 1, [1])], 0, 0)]
def z_M_isSlip : xMeth := (n_M_isSlip, prog_14_method_95_code, 8, some FieldType.boolean, [0, 12, 18, 28, 38, 40, 46, 62, 66, 67], B_M_isSlip, (0, 0))
def n_M_slips : MethodName := ⟨"RingCouncilModel", "slips", "(IIII)I"⟩
abbrev m_M_slips : Nat := 210
def B_M_slips : List xB := [
  ([(.iload_n 1, 1, []), (.iconst 1, 1, []), (.bipush 20, 2, []), (.invokestatic 94, 3, [1, 118, 3, 0]), (.ifCond .eq 27, 3, [4, 0, 1, 31])], 0, 0),
  ([(.aload_n 0, 1, []), (.iload_n 2, 1, []), (.invokevirtual 98, 3, [1, 120, 1, 12, 0]), (.ifCond .eq 19, 3, [4, 0, 2, 31])], 0, 0),
  ([(.iload_n 3, 1, []), (.iconst 0, 1, []), (.bipush 9, 2, []), (.invokestatic 94, 3, [1, 118, 3, 0]), (.ifCond .eq 9, 3, [4, 0, 3, 31])], 0, 0),
  ([(.iload 4, 2, []), (.iconst (-1), 1, []), (.if_icmp .ge 5, 3, [5, 31, 4, 0])], 0, 0),
  ([(.iconst (-1), 1, []), (.ireturn, 1, [0])], 0, 0),
  ([(.aload_n 0, 1, []), (.invokevirtual 305, 3, [1, 170, 0, 12, 1]), (.iconst 0, 1, []), (.istore 5, 2, []), (.iconst 0, 1, []), (.istore 6, 2, [])], 6, 127),
  ([(.iload 6, 2, []), (.iload_n 1, 1, []), (.if_icmp .ge 86, 3, [19, 48, 7, 127])], 0, 0),
  ([(.iconst 0, 1, []), (.istore 7, 2, [])], 8, 255),
  ([(.iload 7, 2, []), (.aload_n 0, 1, []), (.getfield 83, 3, [12, 2, 0]), (.if_icmp .ge 68, 3, [18, 127, 9, 255])], 0, 0),
  ([(.iconst 0, 1, []), (.istore 8, 2, [])], 10, 511),
  ([(.iload 8, 2, []), (.iconst 2, 1, []), (.if_icmp .ge 53, 3, [17, 255, 11, 511])], 0, 0),
  ([(.aload_n 0, 1, []), (.iload_n 1, 1, []), (.iload 6, 2, []), (.iload 7, 2, []), (.iload 8, 2, []), (.iload_n 2, 1, []), (.iload_n 3, 1, []), (.invokevirtual 385, 3, [1, 209, 6, 12, 0]), (.ifCond .ne 6, 3, [13, 511, 12, 511])], 0, 0),
  ([(.goto 28, 3, [16, 511])], 0, 0),
  ([(.iload 5, 2, []), (.iload 4, 2, []), (.if_icmp .ne 18, 3, [15, 511, 14, 448])], 0, 0),
  ([(.bipush 100, 2, []), (.iload 6, 2, []), (.imul, 1, []), (.bipush 10, 2, []), (.iload 7, 2, []), (.imul, 1, []), (.iadd, 1, []), (.iload 8, 2, []), (.iadd, 1, []), (.ireturn, 1, [0])], 0, 0),
  ([(.iinc 5 1, 3, [])], 16, 511),
  ([(.iinc 8 1, 3, []), (.goto (-53), 3, [10, 511])], 0, 0),
  ([(.iinc 7 1, 3, []), (.goto (-71), 3, [8, 255])], 0, 0),
  ([(.iinc 6 1, 3, []), (.goto (-86), 3, [6, 127])], 0, 0),
  ([(.iload 4, 2, []), (.iconst (-1), 1, []), (.if_icmp .ne 8, 3, [21, 0, 20, 32])], 0, 0),
  ([(.iload 5, 2, []), (.goto 4, 3, [22, 0])], 0, 0),
  ([(.iconst (-1), 1, [])], 22, 0),
  ([(.ireturn, 1, [0])], 0, 0)]
def z_M_slips : xMeth := (n_M_slips, prog_14_method_96_code, 9, some FieldType.int, [0, 10, 18, 28, 34, 36, 46, 52, 55, 64, 67, 73, 89, 92, 99, 114, 117, 123, 129, 135, 141, 146, 147], B_M_slips, (0, 0))
def n_M_watch : MethodName := ⟨"RingCouncilModel", "watch", "(III)V"⟩
abbrev m_M_watch : Nat := 211
def B_M_watch : List xB := [
  ([(.iconst 0, 1, []), (.istore 4, 2, [])], 1, 31),
  ([(.iload 4, 2, []), (.iload_n 2, 1, []), (.if_icmp .ge 65, 3, [3, 0, 2, 31])], 0, 0),
  ([(.aload_n 0, 1, []), (.invokevirtual 319, 3, [1, 177, 0, 12, 1]), (.aload_n 0, 1, []), (.getfield 80, 3, [12, 39, 3]), (.bipush 40, 2, []), (.iload_n 3, 1, []), (.imul, 1, []), (.iconst 2, 1, []), (.iload 4, 2, []), (.imul, 1, []), (.iadd, 1, []), (.aload_n 0, 1, []), (.getfield 49, 3, [12, 27, 3]), (.bipush 11, 2, []), (.aload_n 0, 1, []), (.iload_n 1, 1, []), (.invokevirtual 291, 3, [1, 122, 1, 12, 0]), (.iadd, 1, []), (.iaload, 1, []), (.iastore, 1, []), (.aload_n 0, 1, []), (.getfield 80, 3, [12, 39, 3]), (.bipush 40, 2, []), (.iload_n 3, 1, []), (.imul, 1, []), (.iconst 2, 1, []), (.iload 4, 2, []), (.imul, 1, []), (.iadd, 1, []), (.iconst 1, 1, []), (.iadd, 1, []), (.aload_n 0, 1, []), (.getfield 49, 3, [12, 27, 3]), (.bipush 20, 2, []), (.iload_n 1, 1, []), (.iadd, 1, []), (.iaload, 1, []), (.iastore, 1, []), (.iinc 4 1, 3, []), (.goto (-65), 3, [1, 31])], 0, 0),
  ([(.return_, 1, [])], 0, 0)]
def z_M_watch : xMeth := (n_M_watch, prog_14_method_97_code, 5, none, [0, 3, 9, 71], B_M_watch, (0, 0))
def n_M_sameSeen : MethodName := ⟨"RingCouncilModel", "sameSeen", "(III)Z"⟩
abbrev m_M_sameSeen : Nat := 212
def B_M_sameSeen : List xB := [
  ([(.iconst 0, 1, []), (.istore 4, 2, [])], 1, 31),
  ([(.iload 4, 2, []), (.iconst 2, 1, []), (.iload_n 1, 1, []), (.imul, 1, []), (.if_icmp .ge 38, 3, [5, 0, 2, 31])], 0, 0),
  ([(.aload_n 0, 1, []), (.getfield 80, 3, [12, 39, 3]), (.bipush 40, 2, []), (.iload_n 2, 1, []), (.imul, 1, []), (.iload 4, 2, []), (.iadd, 1, []), (.iaload, 1, []), (.aload_n 0, 1, []), (.getfield 80, 3, [12, 39, 3]), (.bipush 40, 2, []), (.iload_n 3, 1, []), (.imul, 1, []), (.iload 4, 2, []), (.iadd, 1, []), (.iaload, 1, []), (.if_icmp .eq 5, 3, [4, 31, 3, 0])], 0, 0),
  ([(.iconst 0, 1, []), (.ireturn, 1, [1])], 0, 0),
  ([(.iinc 4 1, 3, []), (.goto (-40), 3, [1, 31])], 0, 0),
  ([(.iconst 1, 1, []), (.ireturn, 1, [1])], 0, 0)]
def z_M_sameSeen : xMeth := (n_M_sameSeen, prog_14_method_98_code, 5, some FieldType.boolean, [0, 3, 11, 38, 40, 46], B_M_sameSeen, (0, 0))
def n_M_learns : MethodName := ⟨"RingCouncilModel", "learns", "(III)I"⟩
abbrev m_M_learns : Nat := 213
def B_M_learns : List xB := [
  ([(.aload_n 0, 1, []), (.iload_n 1, 1, []), (.invokevirtual 98, 3, [1, 120, 1, 12, 0]), (.ifCond .eq 21, 3, [3, 0, 1, 15])], 0, 0),
  ([(.iload_n 2, 1, []), (.iconst 0, 1, []), (.bipush 20, 2, []), (.invokestatic 94, 3, [1, 118, 3, 0]), (.ifCond .eq 11, 3, [3, 0, 2, 15])], 0, 0),
  ([(.aload_n 0, 1, []), (.iload_n 3, 1, []), (.invokevirtual 98, 3, [1, 120, 1, 12, 0]), (.ifCond .ne 5, 3, [4, 15, 3, 0])], 0, 0),
  ([(.iconst (-1), 1, []), (.ireturn, 1, [0])], 0, 0),
  ([(.aload_n 0, 1, []), (.invokevirtual 305, 3, [1, 170, 0, 12, 1]), (.iconst 0, 1, []), (.istore 4, 2, []), (.iconst 0, 1, []), (.istore 5, 2, [])], 5, 63),
  ([(.iload 5, 2, []), (.bipush 10, 2, []), (.if_icmp .ge 102, 3, [17, 16, 6, 63])], 0, 0),
  ([(.aload_n 0, 1, []), (.aload_n 0, 1, []), (.getfield 49, 3, [12, 27, 3]), (.iconst 0, 1, []), (.invokevirtual 86, 3, [1, 123, 2, 12, 1]), (.aload_n 0, 1, []), (.getfield 49, 3, [12, 27, 3]), (.iconst 2, 1, []), (.iload_n 3, 1, []), (.iadd, 1, []), (.iload 5, 2, []), (.iastore, 1, []), (.aload_n 0, 1, []), (.getfield 43, 3, [12, 25, 3]), (.iload_n 3, 1, []), (.iload 5, 2, []), (.iastore, 1, []), (.aload_n 0, 1, []), (.iload_n 1, 1, []), (.iload_n 2, 1, []), (.iload 5, 2, []), (.invokevirtual 389, 3, [1, 211, 3, 12, 1]), (.iconst 1, 1, []), (.istore 6, 2, []), (.iconst 0, 1, []), (.istore 7, 2, [])], 7, 255),
  ([(.iload 7, 2, []), (.iload 5, 2, []), (.if_icmp .ge 33, 3, [13, 127, 8, 255])], 0, 0),
  ([(.iload 6, 2, []), (.ifCond .eq 19, 3, [11, 191, 9, 191])], 0, 0),
  ([(.aload_n 0, 1, []), (.iload_n 2, 1, []), (.iload 7, 2, []), (.iload 5, 2, []), (.invokevirtual 393, 3, [1, 212, 3, 12, 0]), (.ifCond .ne 7, 3, [11, 191, 10, 191])], 0, 0),
  ([(.iconst 1, 1, []), (.goto 4, 3, [12, 191])], 0, 0),
  ([(.iconst 0, 1, [])], 12, 191),
  ([(.istore 6, 2, []), (.iinc 7 1, 3, []), (.goto (-34), 3, [7, 255])], 0, 0),
  ([(.iload 4, 2, []), (.iload 6, 2, []), (.ifCond .eq 7, 3, [15, 47, 14, 47])], 0, 0),
  ([(.iconst 1, 1, []), (.goto 4, 3, [16, 47])], 0, 0),
  ([(.iconst 0, 1, [])], 16, 47),
  ([(.iadd, 1, []), (.istore 4, 2, []), (.iinc 5 1, 3, []), (.goto (-103), 3, [5, 63])], 0, 0),
  ([(.iload 4, 2, []), (.ireturn, 1, [0])], 0, 0)]
def z_M_learns : xMeth := (n_M_learns, prog_14_method_99_code, 8, some FieldType.int, [0, 8, 18, 26, 28, 38, 45, 86, 93, 98, 110, 114, 115, 123, 130, 134, 135, 144], B_M_learns, (0, 0))
def n_M_image : MethodName := ⟨"RingCouncilModel", "image", "()I"⟩
abbrev m_M_image : Nat := 214
def B_M_image : List xB := [
  ([(.aload_n 0, 1, []), (.getfield 7, 3, [12, 0, 3]), (.aload_n 0, 1, []), (.getfield 13, 3, [12, 1, 3]), (.invokestatic 90, 3, [1, 117, 2, 1]), (.aload_n 0, 1, []), (.getfield 7, 3, [12, 0, 3]), (.sipush 190, 3, []), (.iaload, 1, []), (.ireturn, 1, [0])], 0, 0)]
def z_M_image : xMeth := (n_M_image, prog_14_method_100_code, 1, some FieldType.int, [0], B_M_image, (0, 0))
def n_M_back : MethodName := ⟨"RingCouncilModel", "back", "()I"⟩
abbrev m_M_back : Nat := 215
def B_M_back : List xB := [
  ([(.aload_n 0, 1, []), (.getfield 13, 3, [12, 1, 3]), (.aload_n 0, 1, []), (.getfield 7, 3, [12, 0, 3]), (.invokestatic 90, 3, [1, 117, 2, 1]), (.aload_n 0, 1, []), (.getfield 7, 3, [12, 0, 3]), (.sipush 190, 3, []), (.iaload, 1, []), (.ireturn, 1, [0])], 0, 0)]
def z_M_back : xMeth := (n_M_back, prog_14_method_101_code, 1, some FieldType.int, [0], B_M_back, (0, 0))
def n_M_barred : MethodName := ⟨"RingCouncilModel", "barred", "()I"⟩
abbrev m_M_barred : Nat := 216
def B_M_barred : List xB := [
  ([(.iconst 0, 1, []), (.istore_n 1, 1, []), (.iconst 0, 1, []), (.istore_n 2, 1, [])], 1, 7),
  ([(.iload_n 2, 1, []), (.bipush 100, 2, []), (.if_icmp .ge 21, 3, [3, 2, 2, 7])], 0, 0),
  ([(.iload_n 1, 1, []), (.aload_n 0, 1, []), (.getfield 7, 3, [12, 0, 3]), (.bipush 70, 2, []), (.iload_n 2, 1, []), (.iadd, 1, []), (.iaload, 1, []), (.iadd, 1, []), (.istore_n 1, 1, []), (.iinc 2 1, 3, []), (.goto (-21), 3, [1, 7])], 0, 0),
  ([(.iload_n 1, 1, []), (.ireturn, 1, [0])], 0, 0)]
def z_M_barred : xMeth := (n_M_barred, prog_14_method_102_code, 3, some FieldType.int, [0, 4, 10, 28], B_M_barred, (0, 0))
def n_M_about : MethodName := ⟨"RingCouncilModel", "about", "(I)I"⟩
abbrev m_M_about : Nat := 217
def B_M_about : List xB := [
  ([(.iload_n 1, 1, []), (.tableswitch 123 0 9 #[55, 60, 69, 78, 85, 92, 99, 106, 113, 118], 55, [11, 0, 1, 1, 2, 1, 3, 1, 4, 1, 5, 1, 6, 1, 7, 1, 8, 1, 9, 1, 10, 1])], 0, 0),
  ([(.aload_n 0, 1, []), (.getfield 83, 3, [12, 2, 0]), (.ireturn, 1, [0])], 0, 0),
  ([(.aload_n 0, 1, []), (.getfield 7, 3, [12, 0, 3]), (.sipush 190, 3, []), (.iaload, 1, []), (.ireturn, 1, [0])], 0, 0),
  ([(.aload_n 0, 1, []), (.getfield 7, 3, [12, 0, 3]), (.sipush 191, 3, []), (.iaload, 1, []), (.ireturn, 1, [0])], 0, 0),
  ([(.aload_n 0, 1, []), (.getfield 7, 3, [12, 0, 3]), (.iconst 0, 1, []), (.iaload, 1, []), (.ireturn, 1, [0])], 0, 0),
  ([(.aload_n 0, 1, []), (.getfield 7, 3, [12, 0, 3]), (.iconst 1, 1, []), (.iaload, 1, []), (.ireturn, 1, [0])], 0, 0),
  ([(.aload_n 0, 1, []), (.getfield 7, 3, [12, 0, 3]), (.iconst 2, 1, []), (.iaload, 1, []), (.ireturn, 1, [0])], 0, 0),
  ([(.aload_n 0, 1, []), (.getfield 7, 3, [12, 0, 3]), (.iconst 3, 1, []), (.iaload, 1, []), (.ireturn, 1, [0])], 0, 0),
  ([(.aload_n 0, 1, []), (.getfield 7, 3, [12, 0, 3]), (.iconst 4, 1, []), (.iaload, 1, []), (.ireturn, 1, [0])], 0, 0),
  ([(.aload_n 0, 1, []), (.getfield 102, 3, [12, 5, 0]), (.ireturn, 1, [0])], 0, 0),
  ([(.aload_n 0, 1, []), (.invokevirtual 396, 3, [1, 216, 0, 12, 0]), (.ireturn, 1, [0])], 0, 0),
  ([(.bipush (-2), 2, []), (.ireturn, 1, [0])], 0, 0)]
def z_M_about : xMeth := (n_M_about, prog_14_method_103_code, 2, some FieldType.int, [0, 56, 61, 70, 79, 86, 93, 100, 107, 114, 119, 124], B_M_about, (0, 0))
def n_Law_cell : MethodName := ⟨"RingCouncilLaw", "cell", "([II)I"⟩
abbrev m_Law_cell : Nat := 218
def B_Law_cell : List xB := [
  ([(.iload_n 1, 1, []), (.aload_n 0, 1, []), (.arraylength, 1, []), (.if_icmp .ge 9, 3, [2, 0, 1, 3])], 0, 0),
  ([(.aload_n 0, 1, []), (.iload_n 1, 1, []), (.iaload, 1, []), (.goto 4, 3, [3, 0])], 0, 0),
  ([(.iconst 0, 1, [])], 3, 0),
  ([(.ireturn, 1, [0])], 0, 0)]
def z_Law_cell : xMeth := (n_Law_cell, method_2_code, 2, some FieldType.int, [0, 6, 12, 13], B_Law_cell, (0, 0))
def n_Law_law : MethodName := ⟨"RingCouncilLaw", "law", "([I)Z"⟩
abbrev m_Law_law : Nat := 219
def B_Law_law : List xB := [
  ([(.new 7, 3, [11, 0, 3, 3, 3, 3, 3, 3, 3, 3, 3, 0, 0]), (.dup, 1, []), (.aload_n 0, 1, []), (.iconst 0, 1, []), (.invokestatic 9, 3, [1, 218, 2, 0]), (.invokespecial 15, 3, [1, 83, 1, 474, 124838]), (.astore_n 1, 1, []), (.new 18, 3, [12, 3, 3, 0, 3, 3, 0, 0, 0, 0, 0, 0, 0, 2, 0, 0, 0, 0, 3, 0, 0, 1, 0, 3, 3, 3, 3, 3, 3, 3, 3, 3, 3, 3, 3, 3, 0, 0, 3, 3, 3]), (.dup, 1, []), (.aload_n 0, 1, []), (.iconst 0, 1, []), (.invokestatic 9, 3, [1, 218, 2, 0]), (.invokespecial 20, 3, [1, 116, 1, 21, 589193]), (.astore_n 2, 1, []), (.iconst 1, 1, []), (.istore_n 3, 1, [])], 1, 15),
  ([(.iload_n 3, 1, []), (.aload_n 0, 1, []), (.arraylength, 1, []), (.bipush 6, 2, []), (.isub, 1, []), (.if_icmp .gt 958, 3, [74, 0, 2, 15])], 0, 0),
  ([(.aload_n 0, 1, []), (.iload_n 3, 1, []), (.iaload, 1, []), (.bipush 31, 2, []), (.iand, 1, []), (.tableswitch 943 0 25 #[117, 160, 209, 278, 327, 390, 413, 426, 449, 472, 485, 508, 521, 554, 567, 590, 623, 656, 719, 762, 775, 798, 851, 894, 907, 920], 117, [73, 15, 3, 15, 5, 15, 13, 15, 21, 15, 29, 15, 31, 15, 33, 15, 35, 15, 37, 15, 39, 15, 41, 15, 43, 15, 45, 15, 47, 15, 49, 15, 51, 15, 53, 15, 55, 15, 57, 15, 59, 15, 61, 15, 63, 15, 65, 15, 67, 15, 69, 15, 71, 15])], 0, 0),
  ([(.aload_n 1, 1, []), (.aload_n 0, 1, []), (.iload_n 3, 1, []), (.iconst 1, 1, []), (.iadd, 1, []), (.iaload, 1, []), (.aload_n 0, 1, []), (.iload_n 3, 1, []), (.iconst 2, 1, []), (.iadd, 1, []), (.iaload, 1, []), (.aload_n 0, 1, []), (.iload_n 3, 1, []), (.iconst 3, 1, []), (.iadd, 1, []), (.iaload, 1, []), (.invokevirtual 21, 3, [1, 84, 3, 11, 0]), (.aload_n 2, 1, []), (.aload_n 0, 1, []), (.iload_n 3, 1, []), (.iconst 1, 1, []), (.iadd, 1, []), (.iaload, 1, []), (.aload_n 0, 1, []), (.iload_n 3, 1, []), (.iconst 2, 1, []), (.iadd, 1, []), (.iaload, 1, []), (.aload_n 0, 1, []), (.iload_n 3, 1, []), (.iconst 3, 1, []), (.iadd, 1, []), (.iaload, 1, []), (.invokevirtual 25, 3, [1, 124, 3, 12, 0]), (.if_icmp .eq 788, 3, [73, 15, 4, 0])], 0, 0),
  ([(.iconst 0, 1, []), (.ireturn, 1, [1])], 0, 0),
  ([(.aload_n 1, 1, []), (.aload_n 0, 1, []), (.iload_n 3, 1, []), (.iconst 1, 1, []), (.iadd, 1, []), (.iaload, 1, []), (.aload_n 0, 1, []), (.iload_n 3, 1, []), (.iconst 2, 1, []), (.iadd, 1, []), (.iaload, 1, []), (.ifCond .eq 7, 3, [7, 15, 6, 15])], 0, 0),
  ([(.iconst 1, 1, []), (.goto 4, 3, [8, 15])], 0, 0),
  ([(.iconst 0, 1, [])], 8, 15),
  ([(.invokevirtual 26, 3, [1, 85, 2, 11, 0]), (.aload_n 2, 1, []), (.aload_n 0, 1, []), (.iload_n 3, 1, []), (.iconst 1, 1, []), (.iadd, 1, []), (.iaload, 1, []), (.aload_n 0, 1, []), (.iload_n 3, 1, []), (.iconst 2, 1, []), (.iadd, 1, []), (.iaload, 1, []), (.ifCond .eq 7, 3, [10, 15, 9, 15])], 0, 0),
  ([(.iconst 1, 1, []), (.goto 4, 3, [11, 15])], 0, 0),
  ([(.iconst 0, 1, [])], 11, 15),
  ([(.invokevirtual 30, 3, [1, 125, 2, 12, 0]), (.if_icmp .eq 739, 3, [73, 15, 12, 0])], 0, 0),
  ([(.iconst 0, 1, []), (.ireturn, 1, [1])], 0, 0),
  ([(.aload_n 1, 1, []), (.aload_n 0, 1, []), (.iload_n 3, 1, []), (.iconst 1, 1, []), (.iadd, 1, []), (.iaload, 1, []), (.aload_n 0, 1, []), (.iload_n 3, 1, []), (.iconst 2, 1, []), (.iadd, 1, []), (.iaload, 1, []), (.aload_n 0, 1, []), (.iload_n 3, 1, []), (.iconst 3, 1, []), (.iadd, 1, []), (.iaload, 1, []), (.aload_n 0, 1, []), (.iload_n 3, 1, []), (.iconst 4, 1, []), (.iadd, 1, []), (.iaload, 1, []), (.ifCond .eq 7, 3, [15, 15, 14, 15])], 0, 0),
  ([(.iconst 1, 1, []), (.goto 4, 3, [16, 15])], 0, 0),
  ([(.iconst 0, 1, [])], 16, 15),
  ([(.invokevirtual 31, 3, [1, 86, 4, 11, 0]), (.aload_n 2, 1, []), (.aload_n 0, 1, []), (.iload_n 3, 1, []), (.iconst 1, 1, []), (.iadd, 1, []), (.iaload, 1, []), (.aload_n 0, 1, []), (.iload_n 3, 1, []), (.iconst 2, 1, []), (.iadd, 1, []), (.iaload, 1, []), (.aload_n 0, 1, []), (.iload_n 3, 1, []), (.iconst 3, 1, []), (.iadd, 1, []), (.iaload, 1, []), (.aload_n 0, 1, []), (.iload_n 3, 1, []), (.iconst 4, 1, []), (.iadd, 1, []), (.iaload, 1, []), (.ifCond .eq 7, 3, [18, 15, 17, 15])], 0, 0),
  ([(.iconst 1, 1, []), (.goto 4, 3, [19, 15])], 0, 0),
  ([(.iconst 0, 1, [])], 19, 15),
  ([(.invokevirtual 35, 3, [1, 126, 4, 12, 0]), (.if_icmp .eq 670, 3, [73, 15, 20, 0])], 0, 0),
  ([(.iconst 0, 1, []), (.ireturn, 1, [1])], 0, 0),
  ([(.aload_n 1, 1, []), (.aload_n 0, 1, []), (.iload_n 3, 1, []), (.iconst 1, 1, []), (.iadd, 1, []), (.iaload, 1, []), (.aload_n 0, 1, []), (.iload_n 3, 1, []), (.iconst 2, 1, []), (.iadd, 1, []), (.iaload, 1, []), (.ifCond .eq 7, 3, [23, 15, 22, 15])], 0, 0),
  ([(.iconst 1, 1, []), (.goto 4, 3, [24, 15])], 0, 0),
  ([(.iconst 0, 1, [])], 24, 15),
  ([(.invokevirtual 36, 3, [1, 87, 2, 11, 0]), (.aload_n 2, 1, []), (.aload_n 0, 1, []), (.iload_n 3, 1, []), (.iconst 1, 1, []), (.iadd, 1, []), (.iaload, 1, []), (.aload_n 0, 1, []), (.iload_n 3, 1, []), (.iconst 2, 1, []), (.iadd, 1, []), (.iaload, 1, []), (.ifCond .eq 7, 3, [26, 15, 25, 15])], 0, 0),
  ([(.iconst 1, 1, []), (.goto 4, 3, [27, 15])], 0, 0),
  ([(.iconst 0, 1, [])], 27, 15),
  ([(.invokevirtual 39, 3, [1, 127, 2, 12, 0]), (.if_icmp .eq 621, 3, [73, 15, 28, 0])], 0, 0),
  ([(.iconst 0, 1, []), (.ireturn, 1, [1])], 0, 0),
  ([(.aload_n 1, 1, []), (.aload_n 0, 1, []), (.iload_n 3, 1, []), (.iconst 1, 1, []), (.iadd, 1, []), (.iaload, 1, []), (.aload_n 0, 1, []), (.iload_n 3, 1, []), (.iconst 2, 1, []), (.iadd, 1, []), (.iaload, 1, []), (.aload_n 0, 1, []), (.iload_n 3, 1, []), (.iconst 3, 1, []), (.iadd, 1, []), (.iaload, 1, []), (.aload_n 0, 1, []), (.iload_n 3, 1, []), (.iconst 4, 1, []), (.iadd, 1, []), (.iaload, 1, []), (.aload_n 0, 1, []), (.iload_n 3, 1, []), (.iconst 5, 1, []), (.iadd, 1, []), (.iaload, 1, []), (.invokevirtual 40, 3, [1, 88, 5, 11, 0]), (.aload_n 2, 1, []), (.aload_n 0, 1, []), (.iload_n 3, 1, []), (.iconst 1, 1, []), (.iadd, 1, []), (.iaload, 1, []), (.aload_n 0, 1, []), (.iload_n 3, 1, []), (.iconst 2, 1, []), (.iadd, 1, []), (.iaload, 1, []), (.aload_n 0, 1, []), (.iload_n 3, 1, []), (.iconst 3, 1, []), (.iadd, 1, []), (.iaload, 1, []), (.aload_n 0, 1, []), (.iload_n 3, 1, []), (.iconst 4, 1, []), (.iadd, 1, []), (.iaload, 1, []), (.aload_n 0, 1, []), (.iload_n 3, 1, []), (.iconst 5, 1, []), (.iadd, 1, []), (.iaload, 1, []), (.invokevirtual 44, 3, [1, 129, 5, 12, 0]), (.if_icmp .eq 558, 3, [73, 15, 30, 0])], 0, 0),
  ([(.iconst 0, 1, []), (.ireturn, 1, [1])], 0, 0),
  ([(.aload_n 1, 1, []), (.aload_n 0, 1, []), (.iload_n 3, 1, []), (.iconst 1, 1, []), (.iadd, 1, []), (.iaload, 1, []), (.invokevirtual 45, 3, [1, 89, 1, 11, 0]), (.aload_n 2, 1, []), (.aload_n 0, 1, []), (.iload_n 3, 1, []), (.iconst 1, 1, []), (.iadd, 1, []), (.iaload, 1, []), (.invokevirtual 49, 3, [1, 130, 1, 12, 0]), (.if_icmp .eq 535, 3, [73, 15, 32, 0])], 0, 0),
  ([(.iconst 0, 1, []), (.ireturn, 1, [1])], 0, 0),
  ([(.aload_n 1, 1, []), (.invokevirtual 50, 3, [1, 90, 0, 11, 0]), (.aload_n 2, 1, []), (.invokevirtual 54, 3, [1, 159, 0, 12, 0]), (.if_icmp .eq 522, 3, [73, 15, 34, 0])], 0, 0),
  ([(.iconst 0, 1, []), (.ireturn, 1, [1])], 0, 0),
  ([(.aload_n 1, 1, []), (.aload_n 0, 1, []), (.iload_n 3, 1, []), (.iconst 1, 1, []), (.iadd, 1, []), (.iaload, 1, []), (.invokevirtual 55, 3, [1, 91, 1, 11, 0]), (.aload_n 2, 1, []), (.aload_n 0, 1, []), (.iload_n 3, 1, []), (.iconst 1, 1, []), (.iadd, 1, []), (.iaload, 1, []), (.invokevirtual 58, 3, [1, 160, 1, 12, 0]), (.if_icmp .eq 499, 3, [73, 15, 36, 0])], 0, 0),
  ([(.iconst 0, 1, []), (.ireturn, 1, [1])], 0, 0),
  ([(.aload_n 1, 1, []), (.aload_n 0, 1, []), (.iload_n 3, 1, []), (.iconst 1, 1, []), (.iadd, 1, []), (.iaload, 1, []), (.invokevirtual 59, 3, [1, 92, 1, 11, 0]), (.aload_n 2, 1, []), (.aload_n 0, 1, []), (.iload_n 3, 1, []), (.iconst 1, 1, []), (.iadd, 1, []), (.iaload, 1, []), (.invokevirtual 63, 3, [1, 161, 1, 12, 0]), (.if_icmp .eq 476, 3, [73, 15, 38, 0])], 0, 0),
  ([(.iconst 0, 1, []), (.ireturn, 1, [1])], 0, 0),
  ([(.aload_n 1, 1, []), (.invokevirtual 64, 3, [1, 93, 0, 11, 0]), (.aload_n 2, 1, []), (.invokevirtual 67, 3, [1, 178, 0, 12, 0]), (.if_icmp .eq 463, 3, [73, 15, 40, 0])], 0, 0),
  ([(.iconst 0, 1, []), (.ireturn, 1, [1])], 0, 0),
  ([(.aload_n 1, 1, []), (.aload_n 0, 1, []), (.iload_n 3, 1, []), (.iconst 1, 1, []), (.iadd, 1, []), (.iaload, 1, []), (.invokevirtual 68, 3, [1, 94, 1, 11, 0]), (.aload_n 2, 1, []), (.aload_n 0, 1, []), (.iload_n 3, 1, []), (.iconst 1, 1, []), (.iadd, 1, []), (.iaload, 1, []), (.invokevirtual 71, 3, [1, 180, 1, 12, 0]), (.if_icmp .eq 440, 3, [73, 15, 42, 0])], 0, 0),
  ([(.iconst 0, 1, []), (.ireturn, 1, [1])], 0, 0),
  ([(.aload_n 1, 1, []), (.invokevirtual 72, 3, [1, 95, 0, 11, 0]), (.aload_n 2, 1, []), (.invokevirtual 75, 3, [1, 181, 0, 12, 0]), (.if_icmp .eq 427, 3, [73, 15, 44, 0])], 0, 0),
  ([(.iconst 0, 1, []), (.ireturn, 1, [1])], 0, 0),
  ([(.aload_n 1, 1, []), (.aload_n 0, 1, []), (.iload_n 3, 1, []), (.iconst 1, 1, []), (.iadd, 1, []), (.iaload, 1, []), (.aload_n 0, 1, []), (.iload_n 3, 1, []), (.iconst 2, 1, []), (.iadd, 1, []), (.iaload, 1, []), (.invokevirtual 76, 3, [1, 96, 2, 11, 0]), (.aload_n 2, 1, []), (.aload_n 0, 1, []), (.iload_n 3, 1, []), (.iconst 1, 1, []), (.iadd, 1, []), (.iaload, 1, []), (.aload_n 0, 1, []), (.iload_n 3, 1, []), (.iconst 2, 1, []), (.iadd, 1, []), (.iaload, 1, []), (.invokevirtual 80, 3, [1, 182, 2, 12, 0]), (.if_icmp .eq 394, 3, [73, 15, 46, 0])], 0, 0),
  ([(.iconst 0, 1, []), (.ireturn, 1, [1])], 0, 0),
  ([(.aload_n 1, 1, []), (.invokevirtual 81, 3, [1, 97, 0, 11, 0]), (.aload_n 2, 1, []), (.invokevirtual 85, 3, [1, 183, 0, 12, 0]), (.if_icmp .eq 381, 3, [73, 15, 48, 0])], 0, 0),
  ([(.iconst 0, 1, []), (.ireturn, 1, [1])], 0, 0),
  ([(.aload_n 1, 1, []), (.aload_n 0, 1, []), (.iload_n 3, 1, []), (.iconst 1, 1, []), (.iadd, 1, []), (.iaload, 1, []), (.invokevirtual 86, 3, [1, 98, 1, 11, 0]), (.aload_n 2, 1, []), (.aload_n 0, 1, []), (.iload_n 3, 1, []), (.iconst 1, 1, []), (.iadd, 1, []), (.iaload, 1, []), (.invokevirtual 89, 3, [1, 185, 1, 12, 0]), (.if_icmp .eq 358, 3, [73, 15, 50, 0])], 0, 0),
  ([(.iconst 0, 1, []), (.ireturn, 1, [1])], 0, 0),
  ([(.aload_n 1, 1, []), (.aload_n 0, 1, []), (.iload_n 3, 1, []), (.iconst 1, 1, []), (.iadd, 1, []), (.iaload, 1, []), (.aload_n 0, 1, []), (.iload_n 3, 1, []), (.iconst 2, 1, []), (.iadd, 1, []), (.iaload, 1, []), (.invokevirtual 90, 3, [1, 99, 2, 11, 0]), (.aload_n 2, 1, []), (.aload_n 0, 1, []), (.iload_n 3, 1, []), (.iconst 1, 1, []), (.iadd, 1, []), (.iaload, 1, []), (.aload_n 0, 1, []), (.iload_n 3, 1, []), (.iconst 2, 1, []), (.iadd, 1, []), (.iaload, 1, []), (.invokevirtual 93, 3, [1, 201, 2, 12, 0]), (.if_icmp .eq 325, 3, [73, 15, 52, 0])], 0, 0),
  ([(.iconst 0, 1, []), (.ireturn, 1, [1])], 0, 0),
  ([(.aload_n 1, 1, []), (.aload_n 0, 1, []), (.iload_n 3, 1, []), (.iconst 1, 1, []), (.iadd, 1, []), (.iaload, 1, []), (.aload_n 0, 1, []), (.iload_n 3, 1, []), (.iconst 2, 1, []), (.iadd, 1, []), (.iaload, 1, []), (.invokevirtual 94, 3, [1, 100, 2, 11, 0]), (.aload_n 2, 1, []), (.aload_n 0, 1, []), (.iload_n 3, 1, []), (.iconst 1, 1, []), (.iadd, 1, []), (.iaload, 1, []), (.aload_n 0, 1, []), (.iload_n 3, 1, []), (.iconst 2, 1, []), (.iadd, 1, []), (.iaload, 1, []), (.invokevirtual 97, 3, [1, 202, 2, 12, 0]), (.if_icmp .eq 292, 3, [73, 15, 54, 0])], 0, 0),
  ([(.iconst 0, 1, []), (.ireturn, 1, [1])], 0, 0),
  ([(.aload_n 1, 1, []), (.aload_n 0, 1, []), (.iload_n 3, 1, []), (.iconst 1, 1, []), (.iadd, 1, []), (.iaload, 1, []), (.aload_n 0, 1, []), (.iload_n 3, 1, []), (.iconst 2, 1, []), (.iadd, 1, []), (.iaload, 1, []), (.aload_n 0, 1, []), (.iload_n 3, 1, []), (.iconst 3, 1, []), (.iadd, 1, []), (.iaload, 1, []), (.aload_n 0, 1, []), (.iload_n 3, 1, []), (.iconst 4, 1, []), (.iadd, 1, []), (.iaload, 1, []), (.aload_n 0, 1, []), (.iload_n 3, 1, []), (.iconst 5, 1, []), (.iadd, 1, []), (.iaload, 1, []), (.invokevirtual 98, 3, [1, 101, 5, 11, 0]), (.aload_n 2, 1, []), (.aload_n 0, 1, []), (.iload_n 3, 1, []), (.iconst 1, 1, []), (.iadd, 1, []), (.iaload, 1, []), (.aload_n 0, 1, []), (.iload_n 3, 1, []), (.iconst 2, 1, []), (.iadd, 1, []), (.iaload, 1, []), (.aload_n 0, 1, []), (.iload_n 3, 1, []), (.iconst 3, 1, []), (.iadd, 1, []), (.iaload, 1, []), (.aload_n 0, 1, []), (.iload_n 3, 1, []), (.iconst 4, 1, []), (.iadd, 1, []), (.iaload, 1, []), (.aload_n 0, 1, []), (.iload_n 3, 1, []), (.iconst 5, 1, []), (.iadd, 1, []), (.iaload, 1, []), (.invokevirtual 101, 3, [1, 203, 5, 12, 0]), (.if_icmp .eq 229, 3, [73, 15, 56, 0])], 0, 0),
  ([(.iconst 0, 1, []), (.ireturn, 1, [1])], 0, 0),
  ([(.aload_n 1, 1, []), (.aload_n 0, 1, []), (.iload_n 3, 1, []), (.iconst 1, 1, []), (.iadd, 1, []), (.iaload, 1, []), (.aload_n 0, 1, []), (.iload_n 3, 1, []), (.iconst 2, 1, []), (.iadd, 1, []), (.iaload, 1, []), (.aload_n 0, 1, []), (.iload_n 3, 1, []), (.iconst 3, 1, []), (.iadd, 1, []), (.iaload, 1, []), (.invokevirtual 102, 3, [1, 102, 3, 11, 0]), (.aload_n 2, 1, []), (.aload_n 0, 1, []), (.iload_n 3, 1, []), (.iconst 1, 1, []), (.iadd, 1, []), (.iaload, 1, []), (.aload_n 0, 1, []), (.iload_n 3, 1, []), (.iconst 2, 1, []), (.iadd, 1, []), (.iaload, 1, []), (.aload_n 0, 1, []), (.iload_n 3, 1, []), (.iconst 3, 1, []), (.iadd, 1, []), (.iaload, 1, []), (.invokevirtual 106, 3, [1, 204, 3, 12, 0]), (.if_icmp .eq 186, 3, [73, 15, 58, 0])], 0, 0),
  ([(.iconst 0, 1, []), (.ireturn, 1, [1])], 0, 0),
  ([(.aload_n 1, 1, []), (.invokevirtual 107, 3, [1, 103, 0, 11, 0]), (.aload_n 2, 1, []), (.invokevirtual 110, 3, [1, 205, 0, 12, 0]), (.if_icmp .eq 173, 3, [73, 15, 60, 0])], 0, 0),
  ([(.iconst 0, 1, []), (.ireturn, 1, [1])], 0, 0),
  ([(.aload_n 1, 1, []), (.aload_n 0, 1, []), (.iload_n 3, 1, []), (.iconst 1, 1, []), (.iadd, 1, []), (.iaload, 1, []), (.invokevirtual 111, 3, [1, 104, 1, 11, 0]), (.aload_n 2, 1, []), (.aload_n 0, 1, []), (.iload_n 3, 1, []), (.iconst 1, 1, []), (.iadd, 1, []), (.iaload, 1, []), (.invokevirtual 114, 3, [1, 207, 1, 12, 0]), (.if_icmp .eq 150, 3, [73, 15, 62, 0])], 0, 0),
  ([(.iconst 0, 1, []), (.ireturn, 1, [1])], 0, 0),
  ([(.aload_n 1, 1, []), (.aload_n 0, 1, []), (.iload_n 3, 1, []), (.iconst 1, 1, []), (.iadd, 1, []), (.iaload, 1, []), (.aload_n 0, 1, []), (.iload_n 3, 1, []), (.iconst 2, 1, []), (.iadd, 1, []), (.iaload, 1, []), (.aload_n 0, 1, []), (.iload_n 3, 1, []), (.iconst 3, 1, []), (.iadd, 1, []), (.iaload, 1, []), (.aload_n 0, 1, []), (.iload_n 3, 1, []), (.iconst 4, 1, []), (.iadd, 1, []), (.iaload, 1, []), (.invokevirtual 115, 3, [1, 105, 4, 11, 0]), (.aload_n 2, 1, []), (.aload_n 0, 1, []), (.iload_n 3, 1, []), (.iconst 1, 1, []), (.iadd, 1, []), (.iaload, 1, []), (.aload_n 0, 1, []), (.iload_n 3, 1, []), (.iconst 2, 1, []), (.iadd, 1, []), (.iaload, 1, []), (.aload_n 0, 1, []), (.iload_n 3, 1, []), (.iconst 3, 1, []), (.iadd, 1, []), (.iaload, 1, []), (.aload_n 0, 1, []), (.iload_n 3, 1, []), (.iconst 4, 1, []), (.iadd, 1, []), (.iaload, 1, []), (.invokevirtual 119, 3, [1, 210, 4, 12, 0]), (.if_icmp .eq 97, 3, [73, 15, 64, 0])], 0, 0),
  ([(.iconst 0, 1, []), (.ireturn, 1, [1])], 0, 0),
  ([(.aload_n 1, 1, []), (.aload_n 0, 1, []), (.iload_n 3, 1, []), (.iconst 1, 1, []), (.iadd, 1, []), (.iaload, 1, []), (.aload_n 0, 1, []), (.iload_n 3, 1, []), (.iconst 2, 1, []), (.iadd, 1, []), (.iaload, 1, []), (.aload_n 0, 1, []), (.iload_n 3, 1, []), (.iconst 3, 1, []), (.iadd, 1, []), (.iaload, 1, []), (.invokevirtual 120, 3, [1, 106, 3, 11, 0]), (.aload_n 2, 1, []), (.aload_n 0, 1, []), (.iload_n 3, 1, []), (.iconst 1, 1, []), (.iadd, 1, []), (.iaload, 1, []), (.aload_n 0, 1, []), (.iload_n 3, 1, []), (.iconst 2, 1, []), (.iadd, 1, []), (.iaload, 1, []), (.aload_n 0, 1, []), (.iload_n 3, 1, []), (.iconst 3, 1, []), (.iadd, 1, []), (.iaload, 1, []), (.invokevirtual 123, 3, [1, 213, 3, 12, 0]), (.if_icmp .eq 54, 3, [73, 15, 66, 0])], 0, 0),
  ([(.iconst 0, 1, []), (.ireturn, 1, [1])], 0, 0),
  ([(.aload_n 1, 1, []), (.invokevirtual 124, 3, [1, 107, 0, 11, 0]), (.aload_n 2, 1, []), (.invokevirtual 127, 3, [1, 214, 0, 12, 0]), (.if_icmp .eq 41, 3, [73, 15, 68, 0])], 0, 0),
  ([(.iconst 0, 1, []), (.ireturn, 1, [1])], 0, 0),
  ([(.aload_n 1, 1, []), (.invokevirtual 128, 3, [1, 108, 0, 11, 0]), (.aload_n 2, 1, []), (.invokevirtual 131, 3, [1, 215, 0, 12, 0]), (.if_icmp .eq 28, 3, [73, 15, 70, 0])], 0, 0),
  ([(.iconst 0, 1, []), (.ireturn, 1, [1])], 0, 0),
  ([(.aload_n 1, 1, []), (.aload_n 0, 1, []), (.iload_n 3, 1, []), (.iconst 1, 1, []), (.iadd, 1, []), (.iaload, 1, []), (.invokevirtual 132, 3, [1, 109, 1, 11, 0]), (.aload_n 2, 1, []), (.aload_n 0, 1, []), (.iload_n 3, 1, []), (.iconst 1, 1, []), (.iadd, 1, []), (.iaload, 1, []), (.invokevirtual 135, 3, [1, 217, 1, 12, 0]), (.if_icmp .eq 5, 3, [73, 15, 72, 0])], 0, 0),
  ([(.iconst 0, 1, []), (.ireturn, 1, [1])], 0, 0),
  ([(.iinc 3 6, 3, []), (.goto (-961), 3, [1, 15])], 0, 0),
  ([(.iconst 1, 1, []), (.ireturn, 1, [1])], 0, 0)]
def z_Law_law : xMeth := (n_Law_law, code, 4, some FieldType.boolean, [0, 28, 37, 160, 201, 203, 217, 221, 222, 239, 243, 244, 250, 252, 276, 280, 281, 308, 312, 313, 319, 321, 335, 339, 340, 357, 361, 362, 368, 370, 431, 433, 454, 456, 467, 469, 490, 492, 513, 515, 526, 528, 549, 551, 562, 564, 595, 597, 608, 610, 631, 633, 664, 666, 697, 699, 760, 762, 803, 805, 816, 818, 839, 841, 892, 894, 935, 937, 948, 950, 961, 963, 984, 986, 992], B_Law_law, (497, 714083))
def xP : List xMeth := [
  z_Elders_init, z_Elders_copyFrom, z_Elders_countLiars, z_Elders_countBarred, z_Elders_makeLiarsSound, z_Elders_through, z_Found_init, z_Found_clear,
  z_Found_put, z_Found_show, z_Found_pack, z_Found_isRowAt, z_Hall_init, z_Hall_leftOf, z_Hall_rightOf, z_Hall_pass,
  z_Hall_decide, z_Hall_decideSound, z_Hall_carry, z_Hall_wordOf, z_Hall_isAgreed, z_Hall_isRuled, z_Hall_work, z_Hall_join,
  z_Heard_init, z_Heard_add, z_Heard_isLike, z_Heard_copyFrom, z_Moment_init, z_Moment_begin, z_Moment_copyFrom, z_Moment_countNotes,
  z_Past_init, z_Past_push, z_Past_pop, z_Past_copyFrom, z_Runs_init, z_Runs_goThrough, z_Runs_seatLiars, z_Runs_isIdle,
  z_Runs_goOneHour, z_Runs_setLiars, z_Runs_doneBy, z_Runs_firstBad, z_Runs_doneOnTheWay, z_Tape_init, z_Tape_append, z_Tape_read,
  z_Tape_readClause, z_Tape_mayBegin, z_Tape_readEither, z_Tape_readBoth, z_Tape_readAsk, z_Tape_readSum, z_Tape_readProduct, z_Tape_readOne,
  z_Tape_readChoice, z_Tape_pair, z_Tape_isPassed, z_Tape_wrong, z_Tape_next, z_Tape_takeNumber, z_Tape_takeWord, z_Tape_isSpelled,
  z_Tape_takeSign, z_Tape_isDigit, z_Tape_isLetter, z_Tape_spelling, z_Text_init, z_Text_clear, z_Text_add, z_Text_skipFrom,
  z_Text_addClause, z_Text_clauseOf, z_Tries_init, z_Tries_agreement, z_Tries_slipsTo, z_Tries_slip, z_Tries_unlikeRows, z_Tries_watch,
  z_Tries_isSameRow, z_Whole_init, z_Whole_copyFrom, z_C_init, z_C_elder, z_C_stuck, z_C_lies, z_C_bar,
  z_C_feed, z_C_end, z_C_text, z_C_fault, z_C_by, z_C_start, z_C_hours, z_C_undo,
  z_C_of, z_C_agree, z_C_agrees, z_C_holds, z_C_states, z_C_bad, z_C_told, z_C_forget,
  z_C_suspects, z_C_slips, z_C_learns, z_C_image, z_C_back, z_C_about, z_C_isRoom, z_C_isRunAsked,
  z_C_canBeHeard, z_C_isNoteOrNone, z_C_isWithin, z_C_bounded, z_M_init, z_M_copy, z_M_isIn, z_M_held,
  z_M_isRoom, z_M_leftOf, z_M_rightOf, z_M_begin, z_M_elder, z_M_stuck, z_M_lies, z_M_bar,
  z_M_four, z_M_feed, z_M_end, z_M_byteAt, z_M_isLetter, z_M_isDigit, z_M_nextToken, z_M_w3,
  z_M_w5, z_M_w4, z_M_isWord, z_M_emit, z_M_push, z_M_rank, z_M_settle, z_M_whole,
  z_M_marker, z_M_kindOpen, z_M_isCompared, z_M_isAskAhead, z_M_opensBy, z_M_beginOne, z_M_compareOf, z_M_betweenOf,
  z_M_behindOne, z_M_parsed, z_M_isGotRight, z_M_nameOf, z_M_sortOf, z_M_clause, z_M_readText, z_M_text,
  z_M_fault, z_M_by, z_M_clip, z_M_two, z_M_isAsked, z_M_work, z_M_clauses, z_M_sortAt,
  z_M_sumOf, z_M_pulls, z_M_asTold, z_M_name, z_M_says, z_M_areOne, z_M_put, z_M_write,
  z_M_go, z_M_goOn, z_M_start, z_M_keepHour, z_M_hours, z_M_undo, z_M_of, z_M_agree,
  z_M_notesIn, z_M_agrees, z_M_stateAt, z_M_sumOfRow, z_M_isLike, z_M_isFound, z_M_doings, z_M_partOf,
  z_M_doAs, z_M_doingOf, z_M_findNext, z_M_add, z_M_beginRuns, z_M_liars, z_M_areRuns, z_M_findRuns,
  z_M_firstBad, z_M_holds, z_M_states, z_M_bad, z_M_told, z_M_forget, z_M_canBe, z_M_suspects,
  z_M_isMore, z_M_isSlip, z_M_slips, z_M_watch, z_M_sameSeen, z_M_learns, z_M_image, z_M_back,
  z_M_barred, z_M_about, z_Law_cell]
theorem p_Elders_init : xP[m_Elders_init]? = some z_Elders_init := rfl
theorem p_Elders_copyFrom : xP[m_Elders_copyFrom]? = some z_Elders_copyFrom := rfl
theorem p_Elders_countLiars : xP[m_Elders_countLiars]? = some z_Elders_countLiars := rfl
theorem p_Elders_countBarred : xP[m_Elders_countBarred]? = some z_Elders_countBarred := rfl
theorem p_Elders_makeLiarsSound : xP[m_Elders_makeLiarsSound]? = some z_Elders_makeLiarsSound := rfl
theorem p_Elders_through : xP[m_Elders_through]? = some z_Elders_through := rfl
theorem p_Found_init : xP[m_Found_init]? = some z_Found_init := rfl
theorem p_Found_clear : xP[m_Found_clear]? = some z_Found_clear := rfl
theorem p_Found_put : xP[m_Found_put]? = some z_Found_put := rfl
theorem p_Found_show : xP[m_Found_show]? = some z_Found_show := rfl
theorem p_Found_pack : xP[m_Found_pack]? = some z_Found_pack := rfl
theorem p_Found_isRowAt : xP[m_Found_isRowAt]? = some z_Found_isRowAt := rfl
theorem p_Hall_init : xP[m_Hall_init]? = some z_Hall_init := rfl
theorem p_Hall_leftOf : xP[m_Hall_leftOf]? = some z_Hall_leftOf := rfl
theorem p_Hall_rightOf : xP[m_Hall_rightOf]? = some z_Hall_rightOf := rfl
theorem p_Hall_pass : xP[m_Hall_pass]? = some z_Hall_pass := rfl
theorem p_Hall_decide : xP[m_Hall_decide]? = some z_Hall_decide := rfl
theorem p_Hall_decideSound : xP[m_Hall_decideSound]? = some z_Hall_decideSound := rfl
theorem p_Hall_carry : xP[m_Hall_carry]? = some z_Hall_carry := rfl
theorem p_Hall_wordOf : xP[m_Hall_wordOf]? = some z_Hall_wordOf := rfl
theorem p_Hall_isAgreed : xP[m_Hall_isAgreed]? = some z_Hall_isAgreed := rfl
theorem p_Hall_isRuled : xP[m_Hall_isRuled]? = some z_Hall_isRuled := rfl
theorem p_Hall_work : xP[m_Hall_work]? = some z_Hall_work := rfl
theorem p_Hall_join : xP[m_Hall_join]? = some z_Hall_join := rfl
theorem p_Heard_init : xP[m_Heard_init]? = some z_Heard_init := rfl
theorem p_Heard_add : xP[m_Heard_add]? = some z_Heard_add := rfl
theorem p_Heard_isLike : xP[m_Heard_isLike]? = some z_Heard_isLike := rfl
theorem p_Heard_copyFrom : xP[m_Heard_copyFrom]? = some z_Heard_copyFrom := rfl
theorem p_Moment_init : xP[m_Moment_init]? = some z_Moment_init := rfl
theorem p_Moment_begin : xP[m_Moment_begin]? = some z_Moment_begin := rfl
theorem p_Moment_copyFrom : xP[m_Moment_copyFrom]? = some z_Moment_copyFrom := rfl
theorem p_Moment_countNotes : xP[m_Moment_countNotes]? = some z_Moment_countNotes := rfl
theorem p_Past_init : xP[m_Past_init]? = some z_Past_init := rfl
theorem p_Past_push : xP[m_Past_push]? = some z_Past_push := rfl
theorem p_Past_pop : xP[m_Past_pop]? = some z_Past_pop := rfl
theorem p_Past_copyFrom : xP[m_Past_copyFrom]? = some z_Past_copyFrom := rfl
theorem p_Runs_init : xP[m_Runs_init]? = some z_Runs_init := rfl
theorem p_Runs_goThrough : xP[m_Runs_goThrough]? = some z_Runs_goThrough := rfl
theorem p_Runs_seatLiars : xP[m_Runs_seatLiars]? = some z_Runs_seatLiars := rfl
theorem p_Runs_isIdle : xP[m_Runs_isIdle]? = some z_Runs_isIdle := rfl
theorem p_Runs_goOneHour : xP[m_Runs_goOneHour]? = some z_Runs_goOneHour := rfl
theorem p_Runs_setLiars : xP[m_Runs_setLiars]? = some z_Runs_setLiars := rfl
theorem p_Runs_doneBy : xP[m_Runs_doneBy]? = some z_Runs_doneBy := rfl
theorem p_Runs_firstBad : xP[m_Runs_firstBad]? = some z_Runs_firstBad := rfl
theorem p_Runs_doneOnTheWay : xP[m_Runs_doneOnTheWay]? = some z_Runs_doneOnTheWay := rfl
theorem p_Tape_init : xP[m_Tape_init]? = some z_Tape_init := rfl
theorem p_Tape_append : xP[m_Tape_append]? = some z_Tape_append := rfl
theorem p_Tape_read : xP[m_Tape_read]? = some z_Tape_read := rfl
theorem p_Tape_readClause : xP[m_Tape_readClause]? = some z_Tape_readClause := rfl
theorem p_Tape_mayBegin : xP[m_Tape_mayBegin]? = some z_Tape_mayBegin := rfl
theorem p_Tape_readEither : xP[m_Tape_readEither]? = some z_Tape_readEither := rfl
theorem p_Tape_readBoth : xP[m_Tape_readBoth]? = some z_Tape_readBoth := rfl
theorem p_Tape_readAsk : xP[m_Tape_readAsk]? = some z_Tape_readAsk := rfl
theorem p_Tape_readSum : xP[m_Tape_readSum]? = some z_Tape_readSum := rfl
theorem p_Tape_readProduct : xP[m_Tape_readProduct]? = some z_Tape_readProduct := rfl
theorem p_Tape_readOne : xP[m_Tape_readOne]? = some z_Tape_readOne := rfl
theorem p_Tape_readChoice : xP[m_Tape_readChoice]? = some z_Tape_readChoice := rfl
theorem p_Tape_pair : xP[m_Tape_pair]? = some z_Tape_pair := rfl
theorem p_Tape_isPassed : xP[m_Tape_isPassed]? = some z_Tape_isPassed := rfl
theorem p_Tape_wrong : xP[m_Tape_wrong]? = some z_Tape_wrong := rfl
theorem p_Tape_next : xP[m_Tape_next]? = some z_Tape_next := rfl
theorem p_Tape_takeNumber : xP[m_Tape_takeNumber]? = some z_Tape_takeNumber := rfl
theorem p_Tape_takeWord : xP[m_Tape_takeWord]? = some z_Tape_takeWord := rfl
theorem p_Tape_isSpelled : xP[m_Tape_isSpelled]? = some z_Tape_isSpelled := rfl
theorem p_Tape_takeSign : xP[m_Tape_takeSign]? = some z_Tape_takeSign := rfl
theorem p_Tape_isDigit : xP[m_Tape_isDigit]? = some z_Tape_isDigit := rfl
theorem p_Tape_isLetter : xP[m_Tape_isLetter]? = some z_Tape_isLetter := rfl
theorem p_Tape_spelling : xP[m_Tape_spelling]? = some z_Tape_spelling := rfl
theorem p_Text_init : xP[m_Text_init]? = some z_Text_init := rfl
theorem p_Text_clear : xP[m_Text_clear]? = some z_Text_clear := rfl
theorem p_Text_add : xP[m_Text_add]? = some z_Text_add := rfl
theorem p_Text_skipFrom : xP[m_Text_skipFrom]? = some z_Text_skipFrom := rfl
theorem p_Text_addClause : xP[m_Text_addClause]? = some z_Text_addClause := rfl
theorem p_Text_clauseOf : xP[m_Text_clauseOf]? = some z_Text_clauseOf := rfl
theorem p_Tries_init : xP[m_Tries_init]? = some z_Tries_init := rfl
theorem p_Tries_agreement : xP[m_Tries_agreement]? = some z_Tries_agreement := rfl
theorem p_Tries_slipsTo : xP[m_Tries_slipsTo]? = some z_Tries_slipsTo := rfl
theorem p_Tries_slip : xP[m_Tries_slip]? = some z_Tries_slip := rfl
theorem p_Tries_unlikeRows : xP[m_Tries_unlikeRows]? = some z_Tries_unlikeRows := rfl
theorem p_Tries_watch : xP[m_Tries_watch]? = some z_Tries_watch := rfl
theorem p_Tries_isSameRow : xP[m_Tries_isSameRow]? = some z_Tries_isSameRow := rfl
theorem p_Whole_init : xP[m_Whole_init]? = some z_Whole_init := rfl
theorem p_Whole_copyFrom : xP[m_Whole_copyFrom]? = some z_Whole_copyFrom := rfl
theorem p_C_init : xP[m_C_init]? = some z_C_init := rfl
theorem p_C_elder : xP[m_C_elder]? = some z_C_elder := rfl
theorem p_C_stuck : xP[m_C_stuck]? = some z_C_stuck := rfl
theorem p_C_lies : xP[m_C_lies]? = some z_C_lies := rfl
theorem p_C_bar : xP[m_C_bar]? = some z_C_bar := rfl
theorem p_C_feed : xP[m_C_feed]? = some z_C_feed := rfl
theorem p_C_end : xP[m_C_end]? = some z_C_end := rfl
theorem p_C_text : xP[m_C_text]? = some z_C_text := rfl
theorem p_C_fault : xP[m_C_fault]? = some z_C_fault := rfl
theorem p_C_by : xP[m_C_by]? = some z_C_by := rfl
theorem p_C_start : xP[m_C_start]? = some z_C_start := rfl
theorem p_C_hours : xP[m_C_hours]? = some z_C_hours := rfl
theorem p_C_undo : xP[m_C_undo]? = some z_C_undo := rfl
theorem p_C_of : xP[m_C_of]? = some z_C_of := rfl
theorem p_C_agree : xP[m_C_agree]? = some z_C_agree := rfl
theorem p_C_agrees : xP[m_C_agrees]? = some z_C_agrees := rfl
theorem p_C_holds : xP[m_C_holds]? = some z_C_holds := rfl
theorem p_C_states : xP[m_C_states]? = some z_C_states := rfl
theorem p_C_bad : xP[m_C_bad]? = some z_C_bad := rfl
theorem p_C_told : xP[m_C_told]? = some z_C_told := rfl
theorem p_C_forget : xP[m_C_forget]? = some z_C_forget := rfl
theorem p_C_suspects : xP[m_C_suspects]? = some z_C_suspects := rfl
theorem p_C_slips : xP[m_C_slips]? = some z_C_slips := rfl
theorem p_C_learns : xP[m_C_learns]? = some z_C_learns := rfl
theorem p_C_image : xP[m_C_image]? = some z_C_image := rfl
theorem p_C_back : xP[m_C_back]? = some z_C_back := rfl
theorem p_C_about : xP[m_C_about]? = some z_C_about := rfl
theorem p_C_isRoom : xP[m_C_isRoom]? = some z_C_isRoom := rfl
theorem p_C_isRunAsked : xP[m_C_isRunAsked]? = some z_C_isRunAsked := rfl
theorem p_C_canBeHeard : xP[m_C_canBeHeard]? = some z_C_canBeHeard := rfl
theorem p_C_isNoteOrNone : xP[m_C_isNoteOrNone]? = some z_C_isNoteOrNone := rfl
theorem p_C_isWithin : xP[m_C_isWithin]? = some z_C_isWithin := rfl
theorem p_C_bounded : xP[m_C_bounded]? = some z_C_bounded := rfl
theorem p_M_init : xP[m_M_init]? = some z_M_init := rfl
theorem p_M_copy : xP[m_M_copy]? = some z_M_copy := rfl
theorem p_M_isIn : xP[m_M_isIn]? = some z_M_isIn := rfl
theorem p_M_held : xP[m_M_held]? = some z_M_held := rfl
theorem p_M_isRoom : xP[m_M_isRoom]? = some z_M_isRoom := rfl
theorem p_M_leftOf : xP[m_M_leftOf]? = some z_M_leftOf := rfl
theorem p_M_rightOf : xP[m_M_rightOf]? = some z_M_rightOf := rfl
theorem p_M_begin : xP[m_M_begin]? = some z_M_begin := rfl
theorem p_M_elder : xP[m_M_elder]? = some z_M_elder := rfl
theorem p_M_stuck : xP[m_M_stuck]? = some z_M_stuck := rfl
theorem p_M_lies : xP[m_M_lies]? = some z_M_lies := rfl
theorem p_M_bar : xP[m_M_bar]? = some z_M_bar := rfl
theorem p_M_four : xP[m_M_four]? = some z_M_four := rfl
theorem p_M_feed : xP[m_M_feed]? = some z_M_feed := rfl
theorem p_M_end : xP[m_M_end]? = some z_M_end := rfl
theorem p_M_byteAt : xP[m_M_byteAt]? = some z_M_byteAt := rfl
theorem p_M_isLetter : xP[m_M_isLetter]? = some z_M_isLetter := rfl
theorem p_M_isDigit : xP[m_M_isDigit]? = some z_M_isDigit := rfl
theorem p_M_nextToken : xP[m_M_nextToken]? = some z_M_nextToken := rfl
theorem p_M_w3 : xP[m_M_w3]? = some z_M_w3 := rfl
theorem p_M_w5 : xP[m_M_w5]? = some z_M_w5 := rfl
theorem p_M_w4 : xP[m_M_w4]? = some z_M_w4 := rfl
theorem p_M_isWord : xP[m_M_isWord]? = some z_M_isWord := rfl
theorem p_M_emit : xP[m_M_emit]? = some z_M_emit := rfl
theorem p_M_push : xP[m_M_push]? = some z_M_push := rfl
theorem p_M_rank : xP[m_M_rank]? = some z_M_rank := rfl
theorem p_M_settle : xP[m_M_settle]? = some z_M_settle := rfl
theorem p_M_whole : xP[m_M_whole]? = some z_M_whole := rfl
theorem p_M_marker : xP[m_M_marker]? = some z_M_marker := rfl
theorem p_M_kindOpen : xP[m_M_kindOpen]? = some z_M_kindOpen := rfl
theorem p_M_isCompared : xP[m_M_isCompared]? = some z_M_isCompared := rfl
theorem p_M_isAskAhead : xP[m_M_isAskAhead]? = some z_M_isAskAhead := rfl
theorem p_M_opensBy : xP[m_M_opensBy]? = some z_M_opensBy := rfl
theorem p_M_beginOne : xP[m_M_beginOne]? = some z_M_beginOne := rfl
theorem p_M_compareOf : xP[m_M_compareOf]? = some z_M_compareOf := rfl
theorem p_M_betweenOf : xP[m_M_betweenOf]? = some z_M_betweenOf := rfl
theorem p_M_behindOne : xP[m_M_behindOne]? = some z_M_behindOne := rfl
theorem p_M_parsed : xP[m_M_parsed]? = some z_M_parsed := rfl
theorem p_M_isGotRight : xP[m_M_isGotRight]? = some z_M_isGotRight := rfl
theorem p_M_nameOf : xP[m_M_nameOf]? = some z_M_nameOf := rfl
theorem p_M_sortOf : xP[m_M_sortOf]? = some z_M_sortOf := rfl
theorem p_M_clause : xP[m_M_clause]? = some z_M_clause := rfl
theorem p_M_readText : xP[m_M_readText]? = some z_M_readText := rfl
theorem p_M_text : xP[m_M_text]? = some z_M_text := rfl
theorem p_M_fault : xP[m_M_fault]? = some z_M_fault := rfl
theorem p_M_by : xP[m_M_by]? = some z_M_by := rfl
theorem p_M_clip : xP[m_M_clip]? = some z_M_clip := rfl
theorem p_M_two : xP[m_M_two]? = some z_M_two := rfl
theorem p_M_isAsked : xP[m_M_isAsked]? = some z_M_isAsked := rfl
theorem p_M_work : xP[m_M_work]? = some z_M_work := rfl
theorem p_M_clauses : xP[m_M_clauses]? = some z_M_clauses := rfl
theorem p_M_sortAt : xP[m_M_sortAt]? = some z_M_sortAt := rfl
theorem p_M_sumOf : xP[m_M_sumOf]? = some z_M_sumOf := rfl
theorem p_M_pulls : xP[m_M_pulls]? = some z_M_pulls := rfl
theorem p_M_asTold : xP[m_M_asTold]? = some z_M_asTold := rfl
theorem p_M_name : xP[m_M_name]? = some z_M_name := rfl
theorem p_M_says : xP[m_M_says]? = some z_M_says := rfl
theorem p_M_areOne : xP[m_M_areOne]? = some z_M_areOne := rfl
theorem p_M_put : xP[m_M_put]? = some z_M_put := rfl
theorem p_M_write : xP[m_M_write]? = some z_M_write := rfl
theorem p_M_go : xP[m_M_go]? = some z_M_go := rfl
theorem p_M_goOn : xP[m_M_goOn]? = some z_M_goOn := rfl
theorem p_M_start : xP[m_M_start]? = some z_M_start := rfl
theorem p_M_keepHour : xP[m_M_keepHour]? = some z_M_keepHour := rfl
theorem p_M_hours : xP[m_M_hours]? = some z_M_hours := rfl
theorem p_M_undo : xP[m_M_undo]? = some z_M_undo := rfl
theorem p_M_of : xP[m_M_of]? = some z_M_of := rfl
theorem p_M_agree : xP[m_M_agree]? = some z_M_agree := rfl
theorem p_M_notesIn : xP[m_M_notesIn]? = some z_M_notesIn := rfl
theorem p_M_agrees : xP[m_M_agrees]? = some z_M_agrees := rfl
theorem p_M_stateAt : xP[m_M_stateAt]? = some z_M_stateAt := rfl
theorem p_M_sumOfRow : xP[m_M_sumOfRow]? = some z_M_sumOfRow := rfl
theorem p_M_isLike : xP[m_M_isLike]? = some z_M_isLike := rfl
theorem p_M_isFound : xP[m_M_isFound]? = some z_M_isFound := rfl
theorem p_M_doings : xP[m_M_doings]? = some z_M_doings := rfl
theorem p_M_partOf : xP[m_M_partOf]? = some z_M_partOf := rfl
theorem p_M_doAs : xP[m_M_doAs]? = some z_M_doAs := rfl
theorem p_M_doingOf : xP[m_M_doingOf]? = some z_M_doingOf := rfl
theorem p_M_findNext : xP[m_M_findNext]? = some z_M_findNext := rfl
theorem p_M_add : xP[m_M_add]? = some z_M_add := rfl
theorem p_M_beginRuns : xP[m_M_beginRuns]? = some z_M_beginRuns := rfl
theorem p_M_liars : xP[m_M_liars]? = some z_M_liars := rfl
theorem p_M_areRuns : xP[m_M_areRuns]? = some z_M_areRuns := rfl
theorem p_M_findRuns : xP[m_M_findRuns]? = some z_M_findRuns := rfl
theorem p_M_firstBad : xP[m_M_firstBad]? = some z_M_firstBad := rfl
theorem p_M_holds : xP[m_M_holds]? = some z_M_holds := rfl
theorem p_M_states : xP[m_M_states]? = some z_M_states := rfl
theorem p_M_bad : xP[m_M_bad]? = some z_M_bad := rfl
theorem p_M_told : xP[m_M_told]? = some z_M_told := rfl
theorem p_M_forget : xP[m_M_forget]? = some z_M_forget := rfl
theorem p_M_canBe : xP[m_M_canBe]? = some z_M_canBe := rfl
theorem p_M_suspects : xP[m_M_suspects]? = some z_M_suspects := rfl
theorem p_M_isMore : xP[m_M_isMore]? = some z_M_isMore := rfl
theorem p_M_isSlip : xP[m_M_isSlip]? = some z_M_isSlip := rfl
theorem p_M_slips : xP[m_M_slips]? = some z_M_slips := rfl
theorem p_M_watch : xP[m_M_watch]? = some z_M_watch := rfl
theorem p_M_sameSeen : xP[m_M_sameSeen]? = some z_M_sameSeen := rfl
theorem p_M_learns : xP[m_M_learns]? = some z_M_learns := rfl
theorem p_M_image : xP[m_M_image]? = some z_M_image := rfl
theorem p_M_back : xP[m_M_back]? = some z_M_back := rfl
theorem p_M_barred : xP[m_M_barred]? = some z_M_barred := rfl
theorem p_M_about : xP[m_M_about]? = some z_M_about := rfl
theorem p_Law_cell : xP[m_Law_cell]? = some z_Law_cell := rfl
