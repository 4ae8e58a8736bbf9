/-! the classes, by their numbers; the methods; what each index of a pool means (printed by wip/gen/gen_tab.py) -/
def kT0 : u_T := fun k => match k with
  | 0 => ("ClashDay$Board", "seats", "I", false)
  | 1 => ("ClashDay$Board", "hours", "I", false)
  | 2 => ("ClashDay$Board", "papers", "I", false)
  | 3 => ("ClashDay$Board", "candidates", "I", false)
  | 4 => ("ClashDay$Board", "turn", "I", false)
  | 5 => ("ClashDay$Board", "planned", "I", false)
  | 6 => ("ClashDay$Board", "start", "[I", true)
  | 7 => ("ClashDay$Board", "length", "[I", true)
  | 8 => ("ClashDay$Board", "sits", "[I", true)
  | 9 => ("ClashDay$Board", "extra", "[I", true)
  | 10 => ("ClashDay$Board", "rest", "[I", true)
  | 11 => ("ClashDay$Board", "taken", "[I", true)
  | 12 => ("ClashDay$Board", "begin", "[I", true)
  | 13 => ("ClashDay$Board", "sat", "[I", true)
  | _ => ("ClashDay$Board", "kept", "[I", true)
def kY0 : Nat → FieldType := fun k => match k with
  | 0 => .int
  | 1 => .int
  | 2 => .int
  | 3 => .int
  | 4 => .int
  | 5 => .int
  | 6 => (.array .int)
  | 7 => (.array .int)
  | 8 => (.array .int)
  | 9 => (.array .int)
  | 10 => (.array .int)
  | 11 => (.array .int)
  | 12 => (.array .int)
  | 13 => (.array .int)
  | _ => (.array .int)
def kT1 : u_T := fun k => match k with
  | 0 => ("ClashDay$DayReader", "tape", "LClashDay$Tape;", true)
  | _ => ("ClashDay$DayReader", "numbers", "[I", true)
def kY1 : Nat → FieldType := fun k => match k with
  | 0 => (.object "ClashDay$Tape")
  | _ => (.array .int)
def kT2 : u_T := fun k => match k with
  | 0 => ("ClashDay$Lines", "signs", "[[I", true)
  | 1 => ("ClashDay$Lines", "sizes", "[I", true)
  | 2 => ("ClashDay$Lines", "watcher", "[I", true)
  | _ => ("ClashDay$Lines", "keeps", "[I", true)
def kY2 : Nat → FieldType := fun k => match k with
  | 0 => (.array (.array .int))
  | 1 => (.array .int)
  | 2 => (.array .int)
  | _ => (.array .int)
def kT3 : u_T := fun k => match k with
  | 0 => ("ClashDay$Notes", "size", "I", false)
  | 1 => ("ClashDay$Notes", "turn", "[I", true)
  | 2 => ("ClashDay$Notes", "slot", "[I", true)
  | _ => ("ClashDay$Notes", "seats", "[I", true)
def kY3 : Nat → FieldType := fun k => match k with
  | 0 => .int
  | 1 => (.array .int)
  | 2 => (.array .int)
  | _ => (.array .int)
def kT4 : u_T := fun k => match k with
  | 0 => ("ClashDay$Planner", "start", "[I", true)
  | 1 => ("ClashDay$Planner", "time", "[I", true)
  | 2 => ("ClashDay$Planner", "fits", "[I", true)
  | 3 => ("ClashDay$Planner", "trying", "[I", true)
  | 4 => ("ClashDay$Planner", "hours", "I", false)
  | 5 => ("ClashDay$Planner", "rest", "I", false)
  | 6 => ("ClashDay$Planner", "ways", "I", false)
  | 7 => ("ClashDay$Planner", "nights", "I", false)
  | 8 => ("ClashDay$Planner", "kept", "I", false)
  | 9 => ("ClashDay$Planner", "sat", "I", false)
  | 10 => ("ClashDay$Planner", "lastEnd", "I", false)
  | 11 => ("ClashDay$Planner", "begin", "[I", true)
  | _ => ("ClashDay$Planner", "cost", "I", false)
def kY4 : Nat → FieldType := fun k => match k with
  | 0 => (.array .int)
  | 1 => (.array .int)
  | 2 => (.array .int)
  | 3 => (.array .int)
  | 4 => .int
  | 5 => .int
  | 6 => .int
  | 7 => .int
  | 8 => .int
  | 9 => .int
  | 10 => .int
  | 11 => (.array .int)
  | _ => .int
def kT5 : u_T := fun k => match k with
  | 0 => ("ClashDay$Rule", "code", "[I", true)
  | 1 => ("ClashDay$Rule", "size", "I", false)
  | 2 => ("ClashDay$Rule", "sumEnds", "[I", true)
  | 3 => ("ClashDay$Rule", "clauseEnds", "[I", true)
  | _ => ("ClashDay$Rule", "clauses", "I", false)
def kY5 : Nat → FieldType := fun k => match k with
  | 0 => (.array .int)
  | 1 => .int
  | 2 => (.array .int)
  | 3 => (.array .int)
  | _ => .int
def kT6 : u_T := fun k => match k with
  | 0 => ("ClashDay$RuleReader", "tape", "LClashDay$Tape;", true)
  | _ => ("ClashDay$RuleReader", "values", "I", false)
def kY6 : Nat → FieldType := fun k => match k with
  | 0 => (.object "ClashDay$Tape")
  | _ => .int
def kT7 : u_T := fun k => match k with
  | 0 => ("ClashDay$Scene", "told", "LClashDay$Board;", true)
  | 1 => ("ClashDay$Scene", "now", "LClashDay$Board;", true)
  | 2 => ("ClashDay$Scene", "notes", "LClashDay$Notes;", true)
  | 3 => ("ClashDay$Scene", "inForce", "I", false)
  | 4 => ("ClashDay$Scene", "x", "I", false)
  | _ => ("ClashDay$Scene", "made", "Z", false)
def kY7 : Nat → FieldType := fun k => match k with
  | 0 => (.object "ClashDay$Board")
  | 1 => (.object "ClashDay$Board")
  | 2 => (.object "ClashDay$Notes")
  | 3 => .int
  | 4 => .int
  | _ => .boolean
def kT8 : u_T := fun k => match k with
  | 0 => ("ClashDay$Tape", "bytes", "[C", true)
  | 1 => ("ClashDay$Tape", "size", "I", false)
  | 2 => ("ClashDay$Tape", "kind", "I", false)
  | 3 => ("ClashDay$Tape", "at", "I", false)
  | 4 => ("ClashDay$Tape", "place", "I", false)
  | 5 => ("ClashDay$Tape", "number", "I", false)
  | _ => ("ClashDay$Tape", "fault", "I", false)
def kY8 : Nat → FieldType := fun k => match k with
  | 0 => (.array .char)
  | 1 => .int
  | 2 => .int
  | 3 => .int
  | 4 => .int
  | 5 => .int
  | _ => .int
def kT9 : u_T := fun k => match k with
  | 0 => ("ClashDay$Trials", "planner", "LClashDay$Planner;", true)
  | 1 => ("ClashDay$Trials", "turns", "LClashDay$Turns;", true)
  | 2 => ("ClashDay$Trials", "trial", "LClashDay$Board;", true)
  | 3 => ("ClashDay$Trials", "bestPlanned", "I", false)
  | 4 => ("ClashDay$Trials", "bestKept", "I", false)
  | 5 => ("ClashDay$Trials", "bestRow", "[I", true)
  | 6 => ("ClashDay$Trials", "row", "[I", true)
  | 7 => ("ClashDay$Trials", "illPlanned", "I", false)
  | 8 => ("ClashDay$Trials", "illKept", "I", false)
  | 9 => ("ClashDay$Trials", "drawn", "I", false)
  | 10 => ("ClashDay$Trials", "oneHas", "[I", true)
  | 11 => ("ClashDay$Trials", "otherHas", "[I", true)
  | _ => ("ClashDay$Trials", "foreseen", "[[I", true)
def kY9 : Nat → FieldType := fun k => match k with
  | 0 => (.object "ClashDay$Planner")
  | 1 => (.object "ClashDay$Turns")
  | 2 => (.object "ClashDay$Board")
  | 3 => .int
  | 4 => .int
  | 5 => (.array .int)
  | 6 => (.array .int)
  | 7 => .int
  | 8 => .int
  | 9 => .int
  | 10 => (.array .int)
  | 11 => (.array .int)
  | _ => (.array (.array .int))
def kT10 : u_T := fun k => match k with
  | 0 => ("ClashDay$Turns", "planner", "LClashDay$Planner;", true)
  | 1 => ("ClashDay$Turns", "facts", "[J", true)
  | _ => ("ClashDay$Turns", "stack", "[J", true)
def kY10 : Nat → FieldType := fun k => match k with
  | 0 => (.object "ClashDay$Planner")
  | 1 => (.array .long)
  | _ => (.array .long)
def kT11 : u_T := fun k => match k with
  | 0 => ("ClashDay", "tape", "LClashDay$Tape;", true)
  | 1 => ("ClashDay", "dayReader", "LClashDay$DayReader;", true)
  | 2 => ("ClashDay", "ruleReader", "LClashDay$RuleReader;", true)
  | 3 => ("ClashDay", "rules", "[LClashDay$Rule;", true)
  | 4 => ("ClashDay", "ruleCount", "I", false)
  | 5 => ("ClashDay", "scene", "LClashDay$Scene;", true)
  | 6 => ("ClashDay", "images", "[LClashDay$Scene;", true)
  | 7 => ("ClashDay", "past", "[LClashDay$Board;", true)
  | 8 => ("ClashDay", "pastCount", "I", false)
  | 9 => ("ClashDay", "drawnUp", "LClashDay$Board;", true)
  | 10 => ("ClashDay", "planner", "LClashDay$Planner;", true)
  | 11 => ("ClashDay", "turns", "LClashDay$Turns;", true)
  | 12 => ("ClashDay", "trials", "LClashDay$Trials;", true)
  | _ => ("ClashDay", "lines", "LClashDay$Lines;", true)
def kY11 : Nat → FieldType := fun k => match k with
  | 0 => (.object "ClashDay$Tape")
  | 1 => (.object "ClashDay$DayReader")
  | 2 => (.object "ClashDay$RuleReader")
  | 3 => (.array (.object "ClashDay$Rule"))
  | 4 => .int
  | 5 => (.object "ClashDay$Scene")
  | 6 => (.array (.object "ClashDay$Scene"))
  | 7 => (.array (.object "ClashDay$Board"))
  | 8 => .int
  | 9 => (.object "ClashDay$Board")
  | 10 => (.object "ClashDay$Planner")
  | 11 => (.object "ClashDay$Turns")
  | 12 => (.object "ClashDay$Trials")
  | _ => (.object "ClashDay$Lines")
def kT12 : u_T := fun k => match k with
  | 0 => ("ClashDayModel", "tape", "[B", true)
  | 1 => ("ClashDayModel", "taped", "I", false)
  | 2 => ("ClashDayModel", "rules", "I", false)
  | 3 => ("ClashDayModel", "sign", "[I", true)
  | 4 => ("ClashDayModel", "length", "[I", true)
  | 5 => ("ClashDayModel", "clause", "[I", true)
  | 6 => ("ClashDayModel", "clauses", "[I", true)
  | 7 => ("ClashDayModel", "read", "[I", true)
  | 8 => ("ClashDayModel", "next", "I", false)
  | 9 => ("ClashDayModel", "wrong", "I", false)
  | 10 => ("ClashDayModel", "number", "I", false)
  | 11 => ("ClashDayModel", "text", "I", false)
  | 12 => ("ClashDayModel", "made", "I", false)
  | 13 => ("ClashDayModel", "deep", "I", false)
  | 14 => ("ClashDayModel", "lines", "I", false)
  | 15 => ("ClashDayModel", "open", "[I", true)
  | 16 => ("ClashDayModel", "opened", "I", false)
  | 17 => ("ClashDayModel", "stack", "[J", true)
  | 18 => ("ClashDayModel", "top", "I", false)
  | 19 => ("ClashDayModel", "word", "[J", true)
  | 20 => ("ClashDayModel", "said", "[I", true)
  | 21 => ("ClashDayModel", "force", "I", false)
  | 22 => ("ClashDayModel", "x", "I", false)
  | 23 => ("ClashDayModel", "seatsFree", "[I", true)
  | 24 => ("ClashDayModel", "listed", "[I", true)
  | 25 => ("ClashDayModel", "orderNow", "[I", true)
  | 26 => ("ClashDayModel", "beginNow", "[I", true)
  | 27 => ("ClashDayModel", "planBegin", "[I", true)
  | 28 => ("ClashDayModel", "listedMany", "I", false)
  | 29 => ("ClashDayModel", "planNights", "I", false)
  | 30 => ("ClashDayModel", "planKept", "I", false)
  | 31 => ("ClashDayModel", "planEnd", "I", false)
  | 32 => ("ClashDayModel", "ordersDone", "I", false)
  | 33 => ("ClashDayModel", "nightsNow", "I", false)
  | 34 => ("ClashDayModel", "keptNow", "I", false)
  | 35 => ("ClashDayModel", "endNow", "I", false)
  | 36 => ("ClashDayModel", "wasSaid", "[I", true)
  | 37 => ("ClashDayModel", "undone", "I", false)
  | 38 => ("ClashDayModel", "spelling", "[I", true)
  | 39 => ("ClashDayModel", "long1", "[I", true)
  | 40 => ("ClashDayModel", "watcher", "[I", true)
  | 41 => ("ClashDayModel", "watcherWas", "[I", true)
  | 42 => ("ClashDayModel", "watched", "[I", true)
  | 43 => ("ClashDayModel", "kept", "[I", true)
  | 44 => ("ClashDayModel", "waiter", "[I", true)
  | 45 => ("ClashDayModel", "row", "[I", true)
  | 46 => ("ClashDayModel", "rowBest", "[I", true)
  | 47 => ("ClashDayModel", "waiters", "I", false)
  | 48 => ("ClashDayModel", "plannedMost", "I", false)
  | 49 => ("ClashDayModel", "keptLeast", "I", false)
  | 50 => ("ClashDayModel", "hasBy", "[I", true)
  | 51 => ("ClashDayModel", "isFit", "[Z", true)
  | 52 => ("ClashDayModel", "freeThen", "[I", true)
  | 53 => ("ClashDayModel", "drawX", "J", false)
  | 54 => ("ClashDayModel", "images", "[I", true)
  | 55 => ("ClashDayModel", "imageForce", "[I", true)
  | 56 => ("ClashDayModel", "imageX", "[I", true)
  | _ => ("ClashDayModel", "isMade", "[Z", true)
def kY12 : Nat → FieldType := fun k => match k with
  | 0 => (.array .byte)
  | 1 => .int
  | 2 => .int
  | 3 => (.array .int)
  | 4 => (.array .int)
  | 5 => (.array .int)
  | 6 => (.array .int)
  | 7 => (.array .int)
  | 8 => .int
  | 9 => .int
  | 10 => .int
  | 11 => .int
  | 12 => .int
  | 13 => .int
  | 14 => .int
  | 15 => (.array .int)
  | 16 => .int
  | 17 => (.array .long)
  | 18 => .int
  | 19 => (.array .long)
  | 20 => (.array .int)
  | 21 => .int
  | 22 => .int
  | 23 => (.array .int)
  | 24 => (.array .int)
  | 25 => (.array .int)
  | 26 => (.array .int)
  | 27 => (.array .int)
  | 28 => .int
  | 29 => .int
  | 30 => .int
  | 31 => .int
  | 32 => .int
  | 33 => .int
  | 34 => .int
  | 35 => .int
  | 36 => (.array .int)
  | 37 => .int
  | 38 => (.array .int)
  | 39 => (.array .int)
  | 40 => (.array .int)
  | 41 => (.array .int)
  | 42 => (.array .int)
  | 43 => (.array .int)
  | 44 => (.array .int)
  | 45 => (.array .int)
  | 46 => (.array .int)
  | 47 => .int
  | 48 => .int
  | 49 => .int
  | 50 => (.array .int)
  | 51 => (.array .boolean)
  | 52 => (.array .int)
  | 53 => .long
  | 54 => (.array .int)
  | 55 => (.array .int)
  | 56 => (.array .int)
  | _ => (.array .boolean)
def mCl : List vw_C := [("ClashDay$Board", kT0, 15), ("ClashDay$DayReader", kT1, 2), ("ClashDay$Lines", kT2, 4), ("ClashDay$Notes", kT3, 4), ("ClashDay$Planner", kT4, 13), ("ClashDay$Rule", kT5, 5), ("ClashDay$RuleReader", kT6, 2), ("ClashDay$Scene", kT7, 6), ("ClashDay$Tape", kT8, 7), ("ClashDay$Trials", kT9, 13), ("ClashDay$Turns", kT10, 3), ("ClashDay", kT11, 14), ("ClashDayModel", kT12, 58)]
def mYs : List (Nat → FieldType) := [kY0, kY1, kY2, kY3, kY4, kY5, kY6, kY7, kY8, kY9, kY10, kY11, kY12]
/-- the kind of a field: 0 int, 1 long, 2 a reference, 3 boolean -/
def mFK : List (List Nat) := [[0, 0, 0, 0, 0, 0, 2, 2, 2, 2, 2, 2, 2, 2, 2], [2, 2], [2, 2, 2, 2], [0, 2, 2, 2], [2, 2, 2, 2, 0, 0, 0, 0, 0, 0, 0, 2, 0], [2, 0, 2, 2, 0], [2, 0], [2, 2, 2, 0, 0, 3], [2, 0, 0, 0, 0, 0, 0], [2, 2, 2, 0, 0, 2, 2, 0, 0, 0, 2, 2, 2], [2, 2, 2], [2, 2, 2, 2, 0, 2, 2, 2, 0, 2, 2, 2, 2, 2], [2, 0, 0, 2, 2, 2, 2, 2, 0, 0, 0, 0, 0, 0, 0, 2, 0, 2, 0, 2, 2, 0, 0, 2, 2, 2, 2, 2, 0, 0, 0, 0, 0, 0, 0, 0, 2, 0, 2, 2, 2, 2, 2, 2, 2, 2, 2, 0, 0, 0, 2, 2, 2, 1, 2, 2, 2, 2]]
def mNames : List String := ["ClashDay$Board", "ClashDay$DayReader", "ClashDay$Lines", "ClashDay$Notes", "ClashDay$Planner", "ClashDay$Rule", "ClashDay$RuleReader", "ClashDay$Scene", "ClashDay$Tape", "ClashDay$Trials", "ClashDay$Turns", "ClashDay", "ClashDayModel", "ClashDayLaw", "java/lang/Integer", "java/lang/Math"]
abbrev mMR : Type := MethodName × ByteArray × Nat × Option FieldType × Nat × Nat × Nat × Nat
/-- a method: name, code, variables, what it returns, its class, the kind of its answer (0 none, 1 int, 2 boolean, 3 char, 4 long, 5 a reference), cells that it makes, arguments -/
def mMs0 : List mMR := [
  (⟨"ClashDayLaw", "law", "([I)Z"⟩, code, 4, ret, 13, 2, 440, 1),
  (⟨"ClashDay$Board", "<init>", "()V"⟩, prog_2_method_1_code, 1, (Option.none : Option Jvm.ClassFile.FieldType), 0, 6, 9, 1),
  (⟨"ClashDay$Board", "clear", "()V"⟩, prog_2_method_2_code, 2, (Option.none : Option Jvm.ClassFile.FieldType), 0, 0, 0, 1),
  (⟨"ClashDay$Board", "copyFrom", "(LClashDay$Board;)V"⟩, prog_2_method_3_code, 2, (Option.none : Option Jvm.ClassFile.FieldType), 0, 0, 0, 2),
  (⟨"ClashDay$Board", "addPaper", "(II)V"⟩, prog_2_method_4_code, 3, (Option.none : Option Jvm.ClassFile.FieldType), 0, 0, 0, 3),
  (⟨"ClashDay$Board", "addCandidate", "(III)V"⟩, prog_2_method_5_code, 4, (Option.none : Option Jvm.ClassFile.FieldType), 0, 0, 0, 4),
  (⟨"ClashDay$Board", "isDay", "()Z"⟩, prog_2_method_6_code, 1, (Option.some Jvm.ClassFile.FieldType.boolean), 0, 2, 0, 1),
  (⟨"ClashDay$Board", "hasPaper", "(I)Z"⟩, prog_2_method_7_code, 2, (Option.some Jvm.ClassFile.FieldType.boolean), 0, 2, 0, 2),
  (⟨"ClashDay$Board", "hasCandidate", "(I)Z"⟩, prog_2_method_8_code, 2, (Option.some Jvm.ClassFile.FieldType.boolean), 0, 2, 0, 2),
  (⟨"ClashDay$Board", "isPlanned", "(I)Z"⟩, prog_2_method_9_code, 2, (Option.some Jvm.ClassFile.FieldType.boolean), 0, 2, 0, 2),
  (⟨"ClashDay$Board", "waits", "(I)Z"⟩, prog_2_method_10_code, 2, (Option.some Jvm.ClassFile.FieldType.boolean), 0, 2, 0, 2),
  (⟨"ClashDay$Board", "waiting", "()I"⟩, prog_2_method_11_code, 1, (Option.some Jvm.ClassFile.FieldType.int), 0, 1, 0, 1),
  (⟨"ClashDay$Board", "sitsIn", "(II)Z"⟩, prog_2_method_12_code, 3, (Option.some Jvm.ClassFile.FieldType.boolean), 0, 2, 0, 3),
  (⟨"ClashDay$Board", "sittersOf", "(I)I"⟩, prog_2_method_13_code, 4, (Option.some Jvm.ClassFile.FieldType.int), 0, 1, 0, 2),
  (⟨"ClashDay$Board", "timeOf", "(II)I"⟩, prog_2_method_14_code, 3, (Option.some Jvm.ClassFile.FieldType.int), 0, 1, 0, 3),
  (⟨"ClashDay$Board", "workOf", "(I)I"⟩, prog_2_method_15_code, 4, (Option.some Jvm.ClassFile.FieldType.int), 0, 1, 0, 2)]
def mMs1 : List mMR := [
  (⟨"ClashDay$Board", "beginOf", "(II)I"⟩, prog_2_method_16_code, 3, (Option.some Jvm.ClassFile.FieldType.int), 0, 1, 0, 3),
  (⟨"ClashDay$Board", "freeSeats", "(I)I"⟩, prog_2_method_17_code, 4, (Option.some Jvm.ClassFile.FieldType.int), 0, 1, 0, 2),
  (⟨"ClashDay$Board", "openSlots", "()I"⟩, prog_2_method_18_code, 5, (Option.some Jvm.ClassFile.FieldType.int), 0, 1, 0, 1),
  (⟨"ClashDay$Board", "busiest", "()I"⟩, prog_2_method_19_code, 3, (Option.some Jvm.ClassFile.FieldType.int), 0, 1, 0, 1),
  (⟨"ClashDay$Board", "keptIn", "(II)Z"⟩, prog_2_method_20_code, 3, (Option.some Jvm.ClassFile.FieldType.boolean), 0, 2, 0, 3),
  (⟨"ClashDay$Board", "keptOf", "(I)I"⟩, prog_2_method_21_code, 2, (Option.some Jvm.ClassFile.FieldType.int), 0, 1, 0, 2),
  (⟨"ClashDay$Board", "keptOfAll", "()I"⟩, prog_2_method_22_code, 3, (Option.some Jvm.ClassFile.FieldType.int), 0, 1, 0, 1),
  (⟨"ClashDay$Board", "adopt", "(ILClashDay$Planner;)V"⟩, prog_2_method_23_code, 3, (Option.none : Option Jvm.ClassFile.FieldType), 0, 0, 0, 3),
  (⟨"ClashDay$Board", "release", "(I)V"⟩, prog_2_method_24_code, 2, (Option.none : Option Jvm.ClassFile.FieldType), 0, 0, 0, 2),
  (⟨"ClashDay$Board", "canBeLater", "(I)Z"⟩, prog_2_method_25_code, 2, (Option.some Jvm.ClassFile.FieldType.boolean), 0, 2, 0, 2),
  (⟨"ClashDay$Board", "postpone", "(II)V"⟩, prog_2_method_26_code, 4, (Option.none : Option Jvm.ClassFile.FieldType), 0, 0, 0, 3),
  (⟨"ClashDay$Board", "watchersIn", "(II)I"⟩, prog_2_method_27_code, 5, (Option.some Jvm.ClassFile.FieldType.int), 0, 1, 0, 3),
  (⟨"ClashDay$Board", "mostKeptSlot", "(I)I"⟩, prog_2_method_28_code, 4, (Option.some Jvm.ClassFile.FieldType.int), 0, 1, 0, 2),
  (⟨"ClashDay$Board", "mustNotMeet", "(II)I"⟩, prog_2_method_29_code, 5, (Option.some Jvm.ClassFile.FieldType.int), 0, 1, 0, 3),
  (⟨"ClashDay$Board", "shareOf", "(II)I"⟩, prog_2_method_30_code, 9, (Option.some Jvm.ClassFile.FieldType.int), 0, 1, 0, 3),
  (⟨"ClashDay$Board", "from", "(I)I"⟩, prog_2_method_31_code, 1, (Option.some Jvm.ClassFile.FieldType.int), 0, 1, 0, 1)]
def mMs2 : List mMR := [
  (⟨"ClashDay$Board", "span", "(II)I"⟩, prog_2_method_32_code, 2, (Option.some Jvm.ClassFile.FieldType.int), 0, 1, 0, 2),
  (⟨"ClashDay$DayReader", "<init>", "(LClashDay$Tape;)V"⟩, prog_3_method_1_code, 2, (Option.none : Option Jvm.ClassFile.FieldType), 1, 6, 1, 2),
  (⟨"ClashDay$DayReader", "read", "(LClashDay$Board;)I"⟩, prog_3_method_2_code, 3, (Option.some Jvm.ClassFile.FieldType.int), 1, 1, 0, 2),
  (⟨"ClashDay$DayReader", "readClause", "(LClashDay$Board;I)Z"⟩, prog_3_method_3_code, 5, (Option.some Jvm.ClassFile.FieldType.boolean), 1, 2, 0, 3),
  (⟨"ClashDay$DayReader", "readDay", "(LClashDay$Board;)Z"⟩, prog_3_method_4_code, 2, (Option.some Jvm.ClassFile.FieldType.boolean), 1, 2, 0, 2),
  (⟨"ClashDay$DayReader", "readPaper", "(LClashDay$Board;)Z"⟩, prog_3_method_5_code, 2, (Option.some Jvm.ClassFile.FieldType.boolean), 1, 2, 0, 2),
  (⟨"ClashDay$DayReader", "readCandidate", "(LClashDay$Board;)Z"⟩, prog_3_method_6_code, 3, (Option.some Jvm.ClassFile.FieldType.boolean), 1, 2, 0, 2),
  (⟨"ClashDay$DayReader", "readTaken", "(LClashDay$Board;)Z"⟩, prog_3_method_7_code, 2, (Option.some Jvm.ClassFile.FieldType.boolean), 1, 2, 0, 2),
  (⟨"ClashDay$DayReader", "readNumber", "(III)Z"⟩, prog_3_method_8_code, 5, (Option.some Jvm.ClassFile.FieldType.boolean), 1, 2, 0, 4),
  (⟨"ClashDay$Lines", "<init>", "()V"⟩, prog_4_method_1_code, 1, (Option.none : Option Jvm.ClassFile.FieldType), 2, 6, 6, 1),
  (⟨"ClashDay$Lines", "sign", "(LClashDay$Board;II)C"⟩, prog_4_method_2_code, 5, (Option.some Jvm.ClassFile.FieldType.char), 2, 3, 0, 3),
  (⟨"ClashDay$Lines", "spell", "(LClashDay$Board;II)V"⟩, prog_4_method_3_code, 7, (Option.none : Option Jvm.ClassFile.FieldType), 2, 0, 0, 4),
  (⟨"ClashDay$Lines", "spellRun", "(IIC)V"⟩, prog_4_method_4_code, 4, (Option.none : Option Jvm.ClassFile.FieldType), 2, 0, 0, 4),
  (⟨"ClashDay$Lines", "put", "(IC)V"⟩, prog_4_method_5_code, 3, (Option.none : Option Jvm.ClassFile.FieldType), 2, 0, 0, 3),
  (⟨"ClashDay$Lines", "inCommon", "()I"⟩, prog_4_method_6_code, 3, (Option.some Jvm.ClassFile.FieldType.int), 2, 1, 0, 1),
  (⟨"ClashDay$Lines", "whichAhead", "()I"⟩, prog_4_method_7_code, 2, (Option.some Jvm.ClassFile.FieldType.int), 2, 1, 0, 1)]
def mMs3 : List mMR := [
  (⟨"ClashDay$Lines", "watcherOf", "(LClashDay$Board;III)I"⟩, prog_4_method_8_code, 6, (Option.some Jvm.ClassFile.FieldType.int), 2, 1, 0, 5),
  (⟨"ClashDay$Lines", "watchSlot", "(LClashDay$Board;II)V"⟩, prog_4_method_9_code, 5, (Option.none : Option Jvm.ClassFile.FieldType), 2, 0, 0, 4),
  (⟨"ClashDay$Lines", "wasKept", "(LClashDay$Board;II)Z"⟩, prog_4_method_10_code, 3, (Option.some Jvm.ClassFile.FieldType.boolean), 2, 2, 0, 3),
  (⟨"ClashDay$Lines", "leastThatCan", "(I)I"⟩, prog_4_method_11_code, 3, (Option.some Jvm.ClassFile.FieldType.int), 2, 1, 0, 2),
  (⟨"ClashDay$Notes", "<init>", "()V"⟩, prog_5_method_1_code, 1, (Option.none : Option Jvm.ClassFile.FieldType), 3, 6, 3, 1),
  (⟨"ClashDay$Notes", "copyFrom", "(LClashDay$Notes;)V"⟩, prog_5_method_2_code, 2, (Option.none : Option Jvm.ClassFile.FieldType), 3, 0, 0, 2),
  (⟨"ClashDay$Notes", "isFull", "()Z"⟩, prog_5_method_3_code, 1, (Option.some Jvm.ClassFile.FieldType.boolean), 3, 2, 0, 1),
  (⟨"ClashDay$Notes", "append", "(III)V"⟩, prog_5_method_4_code, 4, (Option.none : Option Jvm.ClassFile.FieldType), 3, 0, 0, 4),
  (⟨"ClashDay$Notes", "lastTurn", "()I"⟩, prog_5_method_5_code, 3, (Option.some Jvm.ClassFile.FieldType.int), 3, 1, 0, 1),
  (⟨"ClashDay$Notes", "agreeWith", "(LClashDay$Board;I)Z"⟩, prog_5_method_6_code, 4, (Option.some Jvm.ClassFile.FieldType.boolean), 3, 2, 0, 3),
  (⟨"ClashDay$Planner", "<init>", "()V"⟩, prog_6_method_1_code, 1, (Option.none : Option Jvm.ClassFile.FieldType), 4, 6, 5, 1),
  (⟨"ClashDay$Planner", "finds", "(LClashDay$Board;II)Z"⟩, prog_6_method_2_code, 4, (Option.some Jvm.ClassFile.FieldType.boolean), 4, 2, 0, 4),
  (⟨"ClashDay$Planner", "settles", "(LClashDay$Board;I)Z"⟩, prog_6_method_3_code, 3, (Option.some Jvm.ClassFile.FieldType.boolean), 4, 2, 0, 3),
  (⟨"ClashDay$Planner", "leastClash", "(LClashDay$Board;I)I"⟩, prog_6_method_4_code, 7, (Option.some Jvm.ClassFile.FieldType.int), 4, 1, 0, 3),
  (⟨"ClashDay$Planner", "prepare", "(LClashDay$Board;II)V"⟩, prog_6_method_5_code, 7, (Option.none : Option Jvm.ClassFile.FieldType), 4, 0, 0, 4),
  (⟨"ClashDay$Planner", "runs", "(II)I"⟩, prog_6_method_6_code, 4, (Option.some Jvm.ClassFile.FieldType.int), 4, 1, 0, 2)]
def mMs4 : List mMR := [
  (⟨"ClashDay$Planner", "follow", "(IIIII)V"⟩, prog_6_method_7_code, 9, (Option.none : Option Jvm.ClassFile.FieldType), 4, 0, 0, 6),
  (⟨"ClashDay$Planner", "leastSlot", "(III)I"⟩, prog_6_method_8_code, 6, (Option.some Jvm.ClassFile.FieldType.int), 4, 1, 0, 4),
  (⟨"ClashDay$Planner", "weigh", "(III)V"⟩, prog_6_method_9_code, 6, (Option.none : Option Jvm.ClassFile.FieldType), 4, 0, 0, 4),
  (⟨"ClashDay$Rule", "<init>", "()V"⟩, prog_7_method_1_code, 1, (Option.none : Option Jvm.ClassFile.FieldType), 5, 6, 3, 1),
  (⟨"ClashDay$Rule", "comparison", "(I)I"⟩, prog_7_method_2_code, 1, (Option.some Jvm.ClassFile.FieldType.int), 5, 1, 0, 1),
  (⟨"ClashDay$Rule", "timesLike", "(I)I"⟩, prog_7_method_3_code, 1, (Option.some Jvm.ClassFile.FieldType.int), 5, 1, 0, 1),
  (⟨"ClashDay$Rule", "plusLike", "(I)I"⟩, prog_7_method_4_code, 1, (Option.some Jvm.ClassFile.FieldType.int), 5, 1, 0, 1),
  (⟨"ClashDay$Rule", "clear", "()V"⟩, prog_7_method_5_code, 1, (Option.none : Option Jvm.ClassFile.FieldType), 5, 0, 0, 1),
  (⟨"ClashDay$Rule", "emit", "(I)V"⟩, prog_7_method_6_code, 2, (Option.none : Option Jvm.ClassFile.FieldType), 5, 0, 0, 2),
  (⟨"ClashDay$Rule", "closeClause", "(I)V"⟩, prog_7_method_7_code, 2, (Option.none : Option Jvm.ClassFile.FieldType), 5, 0, 0, 2),
  (⟨"ClashDay$Rule", "worth", "([J[J)J"⟩, prog_7_method_8_code, 6, (Option.some Jvm.ClassFile.FieldType.long), 5, 4, 0, 3),
  (⟨"ClashDay$Rule", "valueOf", "(II[J[J)J"⟩, prog_7_method_9_code, 8, (Option.some Jvm.ClassFile.FieldType.long), 5, 4, 0, 5),
  (⟨"ClashDay$Rule", "joined", "(IJJ)J"⟩, prog_7_method_10_code, 5, (Option.some Jvm.ClassFile.FieldType.long), 5, 4, 0, 3),
  (⟨"ClashDay$RuleReader", "<init>", "(LClashDay$Tape;)V"⟩, prog_8_method_1_code, 2, (Option.none : Option Jvm.ClassFile.FieldType), 6, 6, 0, 2),
  (⟨"ClashDay$RuleReader", "read", "(LClashDay$Rule;)I"⟩, prog_8_method_2_code, 3, (Option.some Jvm.ClassFile.FieldType.int), 6, 1, 0, 2),
  (⟨"ClashDay$RuleReader", "readClause", "(LClashDay$Rule;I)Z"⟩, prog_8_method_3_code, 4, (Option.some Jvm.ClassFile.FieldType.boolean), 6, 2, 0, 3)]
def mMs5 : List mMR := [
  (⟨"ClashDay$RuleReader", "readTest", "(LClashDay$Rule;I)Z"⟩, prog_8_method_4_code, 6, (Option.some Jvm.ClassFile.FieldType.boolean), 6, 2, 0, 3),
  (⟨"ClashDay$RuleReader", "readFact", "(LClashDay$Rule;I)Z"⟩, prog_8_method_5_code, 6, (Option.some Jvm.ClassFile.FieldType.boolean), 6, 2, 0, 3),
  (⟨"ClashDay$RuleReader", "readSum", "(LClashDay$Rule;)Z"⟩, prog_8_method_6_code, 5, (Option.some Jvm.ClassFile.FieldType.boolean), 6, 2, 0, 2),
  (⟨"ClashDay$RuleReader", "readValue", "(LClashDay$Rule;)Z"⟩, prog_8_method_7_code, 5, (Option.some Jvm.ClassFile.FieldType.boolean), 6, 2, 0, 2),
  (⟨"ClashDay$Scene", "<init>", "()V"⟩, prog_9_method_1_code, 1, (Option.none : Option Jvm.ClassFile.FieldType), 7, 6, 24, 1),
  (⟨"ClashDay$Scene", "copyFrom", "(LClashDay$Scene;)V"⟩, prog_9_method_2_code, 2, (Option.none : Option Jvm.ClassFile.FieldType), 7, 0, 0, 2),
  (⟨"ClashDay$Tape", "<init>", "()V"⟩, prog_10_method_1_code, 1, (Option.none : Option Jvm.ClassFile.FieldType), 8, 6, 1, 1),
  (⟨"ClashDay$Tape", "hasRoom", "(I)Z"⟩, prog_10_method_2_code, 2, (Option.some Jvm.ClassFile.FieldType.boolean), 8, 2, 0, 2),
  (⟨"ClashDay$Tape", "append", "(I)V"⟩, prog_10_method_3_code, 3, (Option.none : Option Jvm.ClassFile.FieldType), 8, 0, 0, 2),
  (⟨"ClashDay$Tape", "rewind", "()V"⟩, prog_10_method_4_code, 1, (Option.none : Option Jvm.ClassFile.FieldType), 8, 0, 0, 1),
  (⟨"ClashDay$Tape", "scan", "()V"⟩, prog_10_method_5_code, 2, (Option.none : Option Jvm.ClassFile.FieldType), 8, 0, 0, 1),
  (⟨"ClashDay$Tape", "wordNumber", "()I"⟩, prog_10_method_6_code, 7, (Option.some Jvm.ClassFile.FieldType.int), 8, 1, 0, 1),
  (⟨"ClashDay$Tape", "isWord", "(I)Z"⟩, prog_10_method_7_code, 2, (Option.some Jvm.ClassFile.FieldType.boolean), 8, 2, 0, 2),
  (⟨"ClashDay$Tape", "goesOn", "()Z"⟩, prog_10_method_8_code, 1, (Option.some Jvm.ClassFile.FieldType.boolean), 8, 2, 0, 1),
  (⟨"ClashDay$Tape", "fail", "(I)Z"⟩, prog_10_method_9_code, 2, (Option.some Jvm.ClassFile.FieldType.boolean), 8, 2, 0, 2),
  (⟨"ClashDay$Tape", "numberFault", "(II)I"⟩, prog_10_method_10_code, 4, (Option.some Jvm.ClassFile.FieldType.int), 8, 1, 0, 3)]
def mMs6 : List mMR := [
  (⟨"ClashDay$Trials", "<init>", "(LClashDay$Planner;LClashDay$Turns;)V"⟩, prog_11_method_1_code, 3, (Option.none : Option Jvm.ClassFile.FieldType), 9, 6, 22, 3),
  (⟨"ClashDay$Trials", "rankRows", "(LClashDay$Board;)V"⟩, prog_11_method_2_code, 4, (Option.none : Option Jvm.ClassFile.FieldType), 9, 0, 0, 2),
  (⟨"ClashDay$Trials", "goOnWithRow", "(IIII)V"⟩, prog_11_method_3_code, 7, (Option.none : Option Jvm.ClassFile.FieldType), 9, 0, 0, 5),
  (⟨"ClashDay$Trials", "worstDelay", "(LClashDay$Board;I)I"⟩, prog_11_method_4_code, 7, (Option.some Jvm.ClassFile.FieldType.int), 9, 1, 0, 3),
  (⟨"ClashDay$Trials", "harmed", "(LClashDay$Board;II)I"⟩, prog_11_method_5_code, 6, (Option.some Jvm.ClassFile.FieldType.int), 9, 1, 0, 4),
  (⟨"ClashDay$Trials", "behind", "(LClashDay$Board;LClashDay$Rule;I)LClashDay$Board;"⟩, prog_11_method_6_code, 5, (Option.some (Jvm.ClassFile.FieldType.object "ClashDay$Board")), 9, 5, 0, 4),
  (⟨"ClashDay$Trials", "turnOf", "(LClashDay$Board;LClashDay$Rule;I)I"⟩, prog_11_method_7_code, 6, (Option.some Jvm.ClassFile.FieldType.int), 9, 1, 0, 4),
  (⟨"ClashDay$Trials", "extrasAsNoted", "(LClashDay$Scene;LClashDay$Rule;I)I"⟩, prog_11_method_8_code, 6, (Option.some Jvm.ClassFile.FieldType.int), 9, 1, 0, 4),
  (⟨"ClashDay$Trials", "restsAsNoted", "(LClashDay$Scene;LClashDay$Rule;I)I"⟩, prog_11_method_9_code, 6, (Option.some Jvm.ClassFile.FieldType.int), 9, 1, 0, 4),
  (⟨"ClashDay$Trials", "rulesAsNoted", "(LClashDay$Scene;[LClashDay$Rule;I)I"⟩, prog_11_method_10_code, 6, (Option.some Jvm.ClassFile.FieldType.int), 9, 1, 0, 4),
  (⟨"ClashDay$Trials", "isAsNoted", "(LClashDay$Notes;LClashDay$Rule;)Z"⟩, prog_11_method_11_code, 5, (Option.some Jvm.ClassFile.FieldType.boolean), 9, 2, 0, 3),
  (⟨"ClashDay$Trials", "foresee", "(LClashDay$Board;[LClashDay$Rule;II)V"⟩, prog_11_method_12_code, 7, (Option.none : Option Jvm.ClassFile.FieldType), 9, 0, 0, 5),
  (⟨"ClashDay$Trials", "slotThatParts", "(I)I"⟩, prog_11_method_13_code, 4, (Option.some Jvm.ClassFile.FieldType.int), 9, 1, 0, 2),
  (⟨"ClashDay$Trials", "mostAlike", "(II)I"⟩, prog_11_method_14_code, 8, (Option.some Jvm.ClassFile.FieldType.int), 9, 1, 0, 3),
  (⟨"ClashDay$Trials", "settledTwos", "(LClashDay$Board;II)I"⟩, prog_11_method_15_code, 6, (Option.some Jvm.ClassFile.FieldType.int), 9, 1, 0, 4),
  (⟨"ClashDay$Trials", "gainOf", "(I)I"⟩, prog_11_method_16_code, 2, (Option.some Jvm.ClassFile.FieldType.int), 9, 1, 0, 2)]
def mMs7 : List mMR := [
  (⟨"ClashDay$Trials", "isSettled", "(I)Z"⟩, prog_11_method_17_code, 5, (Option.some Jvm.ClassFile.FieldType.boolean), 9, 2, 0, 2),
  (⟨"ClashDay$Trials", "fallIll", "(LClashDay$Scene;LClashDay$Rule;III)V"⟩, prog_11_method_18_code, 8, (Option.none : Option Jvm.ClassFile.FieldType), 9, 0, 0, 6),
  (⟨"ClashDay$Trials", "drawIllness", "(I)V"⟩, prog_11_method_19_code, 2, (Option.none : Option Jvm.ClassFile.FieldType), 9, 0, 0, 2),
  (⟨"ClashDay$Trials", "nextDraw", "()I"⟩, prog_11_method_20_code, 1, (Option.some Jvm.ClassFile.FieldType.int), 9, 1, 0, 1),
  (⟨"ClashDay$Turns", "<init>", "(LClashDay$Planner;)V"⟩, prog_12_method_1_code, 2, (Option.none : Option Jvm.ClassFile.FieldType), 10, 6, 2, 2),
  (⟨"ClashDay$Turns", "step", "(LClashDay$Board;LClashDay$Rule;)I"⟩, prog_12_method_2_code, 4, (Option.some Jvm.ClassFile.FieldType.int), 10, 1, 0, 3),
  (⟨"ClashDay$Turns", "leastThatCan", "(LClashDay$Board;)I"⟩, prog_12_method_3_code, 3, (Option.some Jvm.ClassFile.FieldType.int), 10, 1, 0, 2),
  (⟨"ClashDay$Turns", "dearest", "(LClashDay$Board;LClashDay$Rule;)I"⟩, prog_12_method_4_code, 9, (Option.some Jvm.ClassFile.FieldType.int), 10, 1, 0, 3),
  (⟨"ClashDay$Turns", "gatherFacts", "(LClashDay$Board;I)V"⟩, prog_12_method_5_code, 3, (Option.none : Option Jvm.ClassFile.FieldType), 10, 0, 0, 3),
  (⟨"ClashDay", "<init>", "()V"⟩, prog_1_method_1_code, 2, (Option.none : Option Jvm.ClassFile.FieldType), 11, 6, 406, 1),
  (⟨"ClashDay", "feed", "(IIIII)I"⟩, prog_1_method_2_code, 6, (Option.some Jvm.ClassFile.FieldType.int), 11, 1, 0, 6),
  (⟨"ClashDay", "end", "(I)I"⟩, prog_1_method_3_code, 2, (Option.some Jvm.ClassFile.FieldType.int), 11, 1, 0, 2),
  (⟨"ClashDay", "day", "()I"⟩, prog_1_method_4_code, 2, (Option.some Jvm.ClassFile.FieldType.int), 11, 1, 0, 1),
  (⟨"ClashDay", "rule", "()I"⟩, prog_1_method_5_code, 2, (Option.some Jvm.ClassFile.FieldType.int), 11, 1, 0, 1),
  (⟨"ClashDay", "force", "(I)I"⟩, prog_1_method_6_code, 3, (Option.some Jvm.ClassFile.FieldType.int), 11, 1, 0, 2),
  (⟨"ClashDay", "paper", "(II)I"⟩, prog_1_method_7_code, 4, (Option.some Jvm.ClassFile.FieldType.int), 11, 1, 0, 3)]
def mMs8 : List mMR := [
  (⟨"ClashDay", "candidate", "(II)I"⟩, prog_1_method_8_code, 4, (Option.some Jvm.ClassFile.FieldType.int), 11, 1, 0, 3),
  (⟨"ClashDay", "free", "(I)I"⟩, prog_1_method_9_code, 2, (Option.some Jvm.ClassFile.FieldType.int), 11, 1, 0, 2),
  (⟨"ClashDay", "time", "(II)I"⟩, prog_1_method_10_code, 4, (Option.some Jvm.ClassFile.FieldType.int), 11, 1, 0, 3),
  (⟨"ClashDay", "turn", "()I"⟩, prog_1_method_11_code, 1, (Option.some Jvm.ClassFile.FieldType.int), 11, 1, 0, 1),
  (⟨"ClashDay", "plan", "(I)I"⟩, prog_1_method_12_code, 3, (Option.some Jvm.ClassFile.FieldType.int), 11, 1, 0, 2),
  (⟨"ClashDay", "drop", "(I)I"⟩, prog_1_method_13_code, 2, (Option.some Jvm.ClassFile.FieldType.int), 11, 1, 0, 2),
  (⟨"ClashDay", "delay", "(II)I"⟩, prog_1_method_14_code, 4, (Option.some Jvm.ClassFile.FieldType.int), 11, 1, 0, 3),
  (⟨"ClashDay", "take", "(II)I"⟩, prog_1_method_15_code, 5, (Option.some Jvm.ClassFile.FieldType.int), 11, 1, 0, 3),
  (⟨"ClashDay", "undo", "()I"⟩, prog_1_method_16_code, 1, (Option.some Jvm.ClassFile.FieldType.int), 11, 1, 0, 1),
  (⟨"ClashDay", "begins", "(II)I"⟩, prog_1_method_17_code, 4, (Option.some Jvm.ClassFile.FieldType.int), 11, 1, 0, 3),
  (⟨"ClashDay", "could", "(II)I"⟩, prog_1_method_18_code, 4, (Option.some Jvm.ClassFile.FieldType.int), 11, 1, 0, 3),
  (⟨"ClashDay", "orders", "(I)I"⟩, prog_1_method_19_code, 3, (Option.some Jvm.ClassFile.FieldType.int), 11, 1, 0, 2),
  (⟨"ClashDay", "clash", "(II)I"⟩, prog_1_method_20_code, 5, (Option.some Jvm.ClassFile.FieldType.int), 11, 1, 0, 3),
  (⟨"ClashDay", "line", "(II)I"⟩, prog_1_method_21_code, 3, (Option.some Jvm.ClassFile.FieldType.int), 11, 1, 0, 3),
  (⟨"ClashDay", "spelt", "(II)I"⟩, prog_1_method_22_code, 3, (Option.some Jvm.ClassFile.FieldType.int), 11, 1, 0, 3),
  (⟨"ClashDay", "first", "(III)I"⟩, prog_1_method_23_code, 6, (Option.some Jvm.ClassFile.FieldType.int), 11, 1, 0, 4)]
def mMs9 : List mMR := [
  (⟨"ClashDay", "watchers", "(II)I"⟩, prog_1_method_24_code, 4, (Option.some Jvm.ClassFile.FieldType.int), 11, 1, 0, 3),
  (⟨"ClashDay", "chain", "(III)I"⟩, prog_1_method_25_code, 5, (Option.some Jvm.ClassFile.FieldType.int), 11, 1, 0, 4),
  (⟨"ClashDay", "apart", "(II)I"⟩, prog_1_method_26_code, 4, (Option.some Jvm.ClassFile.FieldType.int), 11, 1, 0, 3),
  (⟨"ClashDay", "best", "(I)I"⟩, prog_1_method_27_code, 2, (Option.some Jvm.ClassFile.FieldType.int), 11, 1, 0, 2),
  (⟨"ClashDay", "harm", "(II)I"⟩, prog_1_method_28_code, 4, (Option.some Jvm.ClassFile.FieldType.int), 11, 1, 0, 3),
  (⟨"ClashDay", "ahead", "(II)I"⟩, prog_1_method_29_code, 4, (Option.some Jvm.ClassFile.FieldType.int), 11, 1, 0, 3),
  (⟨"ClashDay", "when", "(I)I"⟩, prog_1_method_30_code, 2, (Option.some Jvm.ClassFile.FieldType.int), 11, 1, 0, 2),
  (⟨"ClashDay", "extras", "(II)I"⟩, prog_1_method_31_code, 4, (Option.some Jvm.ClassFile.FieldType.int), 11, 1, 0, 3),
  (⟨"ClashDay", "resting", "(I)I"⟩, prog_1_method_32_code, 2, (Option.some Jvm.ClassFile.FieldType.int), 11, 1, 0, 2),
  (⟨"ClashDay", "rests", "(III)I"⟩, prog_1_method_33_code, 7, (Option.some Jvm.ClassFile.FieldType.int), 11, 1, 0, 4),
  (⟨"ClashDay", "pence", "(II)I"⟩, prog_1_method_34_code, 4, (Option.some Jvm.ClassFile.FieldType.int), 11, 1, 0, 3),
  (⟨"ClashDay", "note", "(III)I"⟩, prog_1_method_35_code, 6, (Option.some Jvm.ClassFile.FieldType.int), 11, 1, 0, 4),
  (⟨"ClashDay", "ruled", "(I)I"⟩, prog_1_method_36_code, 3, (Option.some Jvm.ClassFile.FieldType.int), 11, 1, 0, 2),
  (⟨"ClashDay", "look", "(II)I"⟩, prog_1_method_37_code, 5, (Option.some Jvm.ClassFile.FieldType.int), 11, 1, 0, 3),
  (⟨"ClashDay", "seed", "(I)I"⟩, prog_1_method_38_code, 3, (Option.some Jvm.ClassFile.FieldType.int), 11, 1, 0, 2),
  (⟨"ClashDay", "ill", "(IIII)I"⟩, prog_1_method_39_code, 5, (Option.some Jvm.ClassFile.FieldType.int), 11, 1, 0, 5)]
def mMs10 : List mMR := [
  (⟨"ClashDay", "count", "(I)I"⟩, prog_1_method_40_code, 3, (Option.some Jvm.ClassFile.FieldType.int), 11, 1, 0, 2),
  (⟨"ClashDay", "image", "(I)I"⟩, prog_1_method_41_code, 2, (Option.some Jvm.ClassFile.FieldType.int), 11, 1, 0, 2),
  (⟨"ClashDay", "back", "(I)I"⟩, prog_1_method_42_code, 2, (Option.some Jvm.ClassFile.FieldType.int), 11, 1, 0, 2),
  (⟨"ClashDay", "isSlot", "(I)Z"⟩, prog_1_method_43_code, 1, (Option.some Jvm.ClassFile.FieldType.boolean), 11, 2, 0, 1),
  (⟨"ClashDay", "ruleInForce", "()LClashDay$Rule;"⟩, prog_1_method_44_code, 2, (Option.some (Jvm.ClassFile.FieldType.object "ClashDay$Rule")), 11, 5, 0, 1),
  (⟨"ClashDay", "remember", "()V"⟩, prog_1_method_45_code, 3, (Option.none : Option Jvm.ClassFile.FieldType), 11, 0, 0, 1),
  (⟨"ClashDayModel", "<init>", "()V"⟩, prog_14_method_1_code, 1, (Option.none : Option Jvm.ClassFile.FieldType), 12, 6, 32, 1),
  (⟨"ClashDayModel", "in", "(JJJ)Z"⟩, prog_14_method_2_code, 6, (Option.some Jvm.ClassFile.FieldType.boolean), 12, 2, 0, 3),
  (⟨"ClashDayModel", "isOf", "(II)Z"⟩, prog_14_method_3_code, 2, (Option.some Jvm.ClassFile.FieldType.boolean), 12, 2, 0, 2),
  (⟨"ClashDayModel", "bits", "(I)I"⟩, prog_14_method_4_code, 3, (Option.some Jvm.ClassFile.FieldType.int), 12, 1, 0, 1),
  (⟨"ClashDayModel", "four", "(I)V"⟩, prog_14_method_5_code, 3, (Option.none : Option Jvm.ClassFile.FieldType), 12, 0, 0, 2),
  (⟨"ClashDayModel", "feed", "(IIIII)I"⟩, prog_14_method_6_code, 6, (Option.some Jvm.ClassFile.FieldType.int), 12, 1, 0, 6),
  (⟨"ClashDayModel", "end", "(I)I"⟩, prog_14_method_7_code, 2, (Option.some Jvm.ClassFile.FieldType.int), 12, 1, 0, 2),
  (⟨"ClashDayModel", "fails", "(II)Z"⟩, prog_14_method_8_code, 3, (Option.some Jvm.ClassFile.FieldType.boolean), 12, 2, 0, 3),
  (⟨"ClashDayModel", "see", "()I"⟩, prog_14_method_9_code, 1, (Option.some Jvm.ClassFile.FieldType.int), 12, 1, 0, 1),
  (⟨"ClashDayModel", "isDigit", "(I)Z"⟩, prog_14_method_10_code, 2, (Option.some Jvm.ClassFile.FieldType.boolean), 12, 2, 0, 2)]
def mMs11 : List mMR := [
  (⟨"ClashDayModel", "isLetter", "(I)Z"⟩, prog_14_method_11_code, 2, (Option.some Jvm.ClassFile.FieldType.boolean), 12, 2, 0, 2),
  (⟨"ClashDayModel", "isWord", "(J)Z"⟩, prog_14_method_12_code, 6, (Option.some Jvm.ClassFile.FieldType.boolean), 12, 2, 0, 2),
  (⟨"ClashDayModel", "passWord", "()V"⟩, prog_14_method_13_code, 1, (Option.none : Option Jvm.ClassFile.FieldType), 12, 0, 0, 1),
  (⟨"ClashDayModel", "takesWord", "(J)Z"⟩, prog_14_method_14_code, 3, (Option.some Jvm.ClassFile.FieldType.boolean), 12, 2, 0, 2),
  (⟨"ClashDayModel", "numberHere", "(II)Z"⟩, prog_14_method_15_code, 5, (Option.some Jvm.ClassFile.FieldType.boolean), 12, 2, 0, 3),
  (⟨"ClashDayModel", "wordHere", "()I"⟩, prog_14_method_16_code, 1, (Option.some Jvm.ClassFile.FieldType.int), 12, 1, 0, 1),
  (⟨"ClashDayModel", "puts", "(II)V"⟩, prog_14_method_17_code, 3, (Option.none : Option Jvm.ClassFile.FieldType), 12, 0, 0, 3),
  (⟨"ClashDayModel", "makes", "(I)Z"⟩, prog_14_method_18_code, 2, (Option.some Jvm.ClassFile.FieldType.boolean), 12, 2, 0, 2),
  (⟨"ClashDayModel", "opens", "(I)Z"⟩, prog_14_method_19_code, 2, (Option.some Jvm.ClassFile.FieldType.boolean), 12, 2, 0, 2),
  (⟨"ClashDayModel", "strength", "(I)I"⟩, prog_14_method_20_code, 1, (Option.some Jvm.ClassFile.FieldType.int), 12, 1, 0, 1),
  (⟨"ClashDayModel", "layDown", "(I)V"⟩, prog_14_method_21_code, 2, (Option.none : Option Jvm.ClassFile.FieldType), 12, 0, 0, 2),
  (⟨"ClashDayModel", "value", "()Z"⟩, prog_14_method_22_code, 3, (Option.some Jvm.ClassFile.FieldType.boolean), 12, 2, 0, 1),
  (⟨"ClashDayModel", "term", "()Z"⟩, prog_14_method_23_code, 2, (Option.some Jvm.ClassFile.FieldType.boolean), 12, 2, 0, 1),
  (⟨"ClashDayModel", "sum", "()Z"⟩, prog_14_method_24_code, 2, (Option.some Jvm.ClassFile.FieldType.boolean), 12, 2, 0, 1),
  (⟨"ClashDayModel", "compare", "()Z"⟩, prog_14_method_25_code, 5, (Option.some Jvm.ClassFile.FieldType.boolean), 12, 2, 0, 1),
  (⟨"ClashDayModel", "fact", "()Z"⟩, prog_14_method_26_code, 3, (Option.some Jvm.ClassFile.FieldType.boolean), 12, 2, 0, 1)]
def mMs12 : List mMR := [
  (⟨"ClashDayModel", "isInside", "()Z"⟩, prog_14_method_27_code, 2, (Option.some Jvm.ClassFile.FieldType.boolean), 12, 2, 0, 1),
  (⟨"ClashDayModel", "closes", "()V"⟩, prog_14_method_28_code, 1, (Option.none : Option Jvm.ClassFile.FieldType), 12, 0, 0, 1),
  (⟨"ClashDayModel", "tested", "()Z"⟩, prog_14_method_29_code, 3, (Option.some Jvm.ClassFile.FieldType.boolean), 12, 2, 0, 1),
  (⟨"ClashDayModel", "isPlanHere", "()Z"⟩, prog_14_method_30_code, 2, (Option.some Jvm.ClassFile.FieldType.boolean), 12, 2, 0, 1),
  (⟨"ClashDayModel", "cellHere", "(III)Z"⟩, prog_14_method_31_code, 4, (Option.some Jvm.ClassFile.FieldType.boolean), 12, 2, 0, 4),
  (⟨"ClashDayModel", "isDayHere", "(I)Z"⟩, prog_14_method_32_code, 2, (Option.some Jvm.ClassFile.FieldType.boolean), 12, 2, 0, 2),
  (⟨"ClashDayModel", "isPaperHere", "(I)Z"⟩, prog_14_method_33_code, 3, (Option.some Jvm.ClassFile.FieldType.boolean), 12, 2, 0, 2),
  (⟨"ClashDayModel", "isCandidateHere", "(I)Z"⟩, prog_14_method_34_code, 3, (Option.some Jvm.ClassFile.FieldType.boolean), 12, 2, 0, 2),
  (⟨"ClashDayModel", "isTakenHere", "()Z"⟩, prog_14_method_35_code, 2, (Option.some Jvm.ClassFile.FieldType.boolean), 12, 2, 0, 1),
  (⟨"ClashDayModel", "dayLineHere", "(I)Z"⟩, prog_14_method_36_code, 2, (Option.some Jvm.ClassFile.FieldType.boolean), 12, 2, 0, 2),
  (⟨"ClashDayModel", "isDayWord", "()Z"⟩, prog_14_method_37_code, 1, (Option.some Jvm.ClassFile.FieldType.boolean), 12, 2, 0, 1),
  (⟨"ClashDayModel", "clauseHere", "()Z"⟩, prog_14_method_38_code, 3, (Option.some Jvm.ClassFile.FieldType.boolean), 12, 2, 0, 1),
  (⟨"ClashDayModel", "readsAll", "()Z"⟩, prog_14_method_39_code, 2, (Option.some Jvm.ClassFile.FieldType.boolean), 12, 2, 0, 1),
  (⟨"ClashDayModel", "rule", "()I"⟩, prog_14_method_40_code, 1, (Option.some Jvm.ClassFile.FieldType.int), 12, 1, 0, 1),
  (⟨"ClashDayModel", "day", "()I"⟩, prog_14_method_41_code, 2, (Option.some Jvm.ClassFile.FieldType.int), 12, 1, 0, 1),
  (⟨"ClashDayModel", "isRule", "(I)Z"⟩, prog_14_method_42_code, 2, (Option.some Jvm.ClassFile.FieldType.boolean), 12, 2, 0, 2)]
def mMs13 : List mMR := [
  (⟨"ClashDayModel", "push", "(J)V"⟩, prog_14_method_43_code, 3, (Option.none : Option Jvm.ClassFile.FieldType), 12, 0, 0, 2),
  (⟨"ClashDayModel", "pop", "()J"⟩, prog_14_method_44_code, 1, (Option.some Jvm.ClassFile.FieldType.long), 12, 4, 0, 1),
  (⟨"ClashDayModel", "one", "(IJJ)J"⟩, prog_14_method_45_code, 5, (Option.some Jvm.ClassFile.FieldType.long), 12, 4, 0, 3),
  (⟨"ClashDayModel", "reckons", "(III)J"⟩, prog_14_method_46_code, 11, (Option.some Jvm.ClassFile.FieldType.long), 12, 4, 0, 4),
  (⟨"ClashDayModel", "isDay", "()Z"⟩, prog_14_method_47_code, 1, (Option.some Jvm.ClassFile.FieldType.boolean), 12, 2, 0, 1),
  (⟨"ClashDayModel", "isPaper", "(I)Z"⟩, prog_14_method_48_code, 2, (Option.some Jvm.ClassFile.FieldType.boolean), 12, 2, 0, 2),
  (⟨"ClashDayModel", "isCandidate", "(I)Z"⟩, prog_14_method_49_code, 2, (Option.some Jvm.ClassFile.FieldType.boolean), 12, 2, 0, 2),
  (⟨"ClashDayModel", "isWaiting", "(I)Z"⟩, prog_14_method_50_code, 2, (Option.some Jvm.ClassFile.FieldType.boolean), 12, 2, 0, 2),
  (⟨"ClashDayModel", "isPlanned", "(I)Z"⟩, prog_14_method_51_code, 2, (Option.some Jvm.ClassFile.FieldType.boolean), 12, 2, 0, 2),
  (⟨"ClashDayModel", "doesSit", "(II)Z"⟩, prog_14_method_52_code, 3, (Option.some Jvm.ClassFile.FieldType.boolean), 12, 2, 0, 3),
  (⟨"ClashDayModel", "beginOf", "(II)I"⟩, prog_14_method_53_code, 3, (Option.some Jvm.ClassFile.FieldType.int), 12, 1, 0, 3),
  (⟨"ClashDayModel", "timeOf", "(II)I"⟩, prog_14_method_54_code, 3, (Option.some Jvm.ClassFile.FieldType.int), 12, 1, 0, 3),
  (⟨"ClashDayModel", "workOf", "(I)I"⟩, prog_14_method_55_code, 4, (Option.some Jvm.ClassFile.FieldType.int), 12, 1, 0, 2),
  (⟨"ClashDayModel", "waitingOnes", "()I"⟩, prog_14_method_56_code, 3, (Option.some Jvm.ClassFile.FieldType.int), 12, 1, 0, 1),
  (⟨"ClashDayModel", "sitsIn", "(II)I"⟩, prog_14_method_57_code, 4, (Option.some Jvm.ClassFile.FieldType.int), 12, 1, 0, 3),
  (⟨"ClashDayModel", "freeIn", "(I)I"⟩, prog_14_method_58_code, 4, (Option.some Jvm.ClassFile.FieldType.int), 12, 1, 0, 2)]
def mMs14 : List mMR := [
  (⟨"ClashDayModel", "isKept", "(II)Z"⟩, prog_14_method_59_code, 4, (Option.some Jvm.ClassFile.FieldType.boolean), 12, 2, 0, 3),
  (⟨"ClashDayModel", "keptOf", "(I)I"⟩, prog_14_method_60_code, 4, (Option.some Jvm.ClassFile.FieldType.int), 12, 1, 0, 2),
  (⟨"ClashDayModel", "keptAll", "()I"⟩, prog_14_method_61_code, 3, (Option.some Jvm.ClassFile.FieldType.int), 12, 1, 0, 1),
  (⟨"ClashDayModel", "beginsAnew", "()V"⟩, prog_14_method_62_code, 2, (Option.none : Option Jvm.ClassFile.FieldType), 12, 0, 0, 1),
  (⟨"ClashDayModel", "force", "(I)I"⟩, prog_14_method_63_code, 3, (Option.some Jvm.ClassFile.FieldType.int), 12, 1, 0, 2),
  (⟨"ClashDayModel", "paper", "(II)I"⟩, prog_14_method_64_code, 5, (Option.some Jvm.ClassFile.FieldType.int), 12, 1, 0, 3),
  (⟨"ClashDayModel", "candidate", "(II)I"⟩, prog_14_method_65_code, 3, (Option.some Jvm.ClassFile.FieldType.int), 12, 1, 0, 3),
  (⟨"ClashDayModel", "free", "(I)I"⟩, prog_14_method_66_code, 2, (Option.some Jvm.ClassFile.FieldType.int), 12, 1, 0, 2),
  (⟨"ClashDayModel", "time", "(II)I"⟩, prog_14_method_67_code, 3, (Option.some Jvm.ClassFile.FieldType.int), 12, 1, 0, 3),
  (⟨"ClashDayModel", "waysOf", "(I)I"⟩, prog_14_method_68_code, 3, (Option.some Jvm.ClassFile.FieldType.int), 12, 1, 0, 1),
  (⟨"ClashDayModel", "orderOf", "(I)V"⟩, prog_14_method_69_code, 8, (Option.none : Option Jvm.ClassFile.FieldType), 12, 0, 0, 2),
  (⟨"ClashDayModel", "areFree", "(II)Z"⟩, prog_14_method_70_code, 4, (Option.some Jvm.ClassFile.FieldType.boolean), 12, 2, 0, 3),
  (⟨"ClashDayModel", "dayOf", "(I)I"⟩, prog_14_method_71_code, 1, (Option.some Jvm.ClassFile.FieldType.int), 12, 1, 0, 1),
  (⟨"ClashDayModel", "leastSlot", "(IIIII)I"⟩, prog_14_method_72_code, 8, (Option.some Jvm.ClassFile.FieldType.int), 12, 1, 0, 6),
  (⟨"ClashDayModel", "doesOrder", "(I)Z"⟩, prog_14_method_73_code, 7, (Option.some Jvm.ClassFile.FieldType.boolean), 12, 2, 0, 2),
  (⟨"ClashDayModel", "isSitNow", "(II)Z"⟩, prog_14_method_74_code, 4, (Option.some Jvm.ClassFile.FieldType.boolean), 12, 2, 0, 3)]
def mMs15 : List mMR := [
  (⟨"ClashDayModel", "isDueNow", "(I)Z"⟩, prog_14_method_75_code, 3, (Option.some Jvm.ClassFile.FieldType.boolean), 12, 2, 0, 2),
  (⟨"ClashDayModel", "countsKept", "(I)V"⟩, prog_14_method_76_code, 3, (Option.none : Option Jvm.ClassFile.FieldType), 12, 0, 0, 2),
  (⟨"ClashDayModel", "isBetter", "()Z"⟩, prog_14_method_77_code, 1, (Option.some Jvm.ClassFile.FieldType.boolean), 12, 2, 0, 1),
  (⟨"ClashDayModel", "plansBy", "(II)Z"⟩, prog_14_method_78_code, 5, (Option.some Jvm.ClassFile.FieldType.boolean), 12, 2, 0, 3),
  (⟨"ClashDayModel", "plansOf", "(I)Z"⟩, prog_14_method_79_code, 2, (Option.some Jvm.ClassFile.FieldType.boolean), 12, 2, 0, 2),
  (⟨"ClashDayModel", "laysPlan", "(I)Z"⟩, prog_14_method_80_code, 3, (Option.some Jvm.ClassFile.FieldType.boolean), 12, 2, 0, 2),
  (⟨"ClashDayModel", "waits", "(I)V"⟩, prog_14_method_81_code, 3, (Option.none : Option Jvm.ClassFile.FieldType), 12, 0, 0, 2),
  (⟨"ClashDayModel", "summedBy", "(I)J"⟩, prog_14_method_82_code, 4, (Option.some Jvm.ClassFile.FieldType.long), 12, 4, 0, 2),
  (⟨"ClashDayModel", "busyNow", "()I"⟩, prog_14_method_83_code, 3, (Option.some Jvm.ClassFile.FieldType.int), 12, 1, 0, 1),
  (⟨"ClashDayModel", "sumOf", "(I)J"⟩, prog_14_method_84_code, 2, (Option.some Jvm.ClassFile.FieldType.long), 12, 4, 0, 2),
  (⟨"ClashDayModel", "choice", "()I"⟩, prog_14_method_85_code, 7, (Option.some Jvm.ClassFile.FieldType.int), 12, 1, 0, 1),
  (⟨"ClashDayModel", "passes", "()I"⟩, prog_14_method_86_code, 2, (Option.some Jvm.ClassFile.FieldType.int), 12, 1, 0, 1),
  (⟨"ClashDayModel", "passesAll", "(I)V"⟩, prog_14_method_87_code, 3, (Option.none : Option Jvm.ClassFile.FieldType), 12, 0, 0, 2),
  (⟨"ClashDayModel", "keepsAct", "()V"⟩, prog_14_method_88_code, 2, (Option.none : Option Jvm.ClassFile.FieldType), 12, 0, 0, 1),
  (⟨"ClashDayModel", "undo", "()I"⟩, prog_14_method_89_code, 2, (Option.some Jvm.ClassFile.FieldType.int), 12, 1, 0, 1),
  (⟨"ClashDayModel", "turn", "()I"⟩, prog_14_method_90_code, 2, (Option.some Jvm.ClassFile.FieldType.int), 12, 1, 0, 1)]
def mMs16 : List mMR := [
  (⟨"ClashDayModel", "plan", "(I)I"⟩, prog_14_method_91_code, 2, (Option.some Jvm.ClassFile.FieldType.int), 12, 1, 0, 2),
  (⟨"ClashDayModel", "drop", "(I)I"⟩, prog_14_method_92_code, 2, (Option.some Jvm.ClassFile.FieldType.int), 12, 1, 0, 2),
  (⟨"ClashDayModel", "delays", "(II)V"⟩, prog_14_method_93_code, 4, (Option.none : Option Jvm.ClassFile.FieldType), 12, 0, 0, 3),
  (⟨"ClashDayModel", "delay", "(II)I"⟩, prog_14_method_94_code, 3, (Option.some Jvm.ClassFile.FieldType.int), 12, 1, 0, 3),
  (⟨"ClashDayModel", "take", "(II)I"⟩, prog_14_method_95_code, 4, (Option.some Jvm.ClassFile.FieldType.int), 12, 1, 0, 3),
  (⟨"ClashDayModel", "begins", "(II)I"⟩, prog_14_method_96_code, 3, (Option.some Jvm.ClassFile.FieldType.int), 12, 1, 0, 3),
  (⟨"ClashDayModel", "could", "(II)I"⟩, prog_14_method_97_code, 3, (Option.some Jvm.ClassFile.FieldType.int), 12, 1, 0, 3),
  (⟨"ClashDayModel", "orders", "(I)I"⟩, prog_14_method_98_code, 2, (Option.some Jvm.ClassFile.FieldType.int), 12, 1, 0, 2),
  (⟨"ClashDayModel", "clash", "(II)I"⟩, prog_14_method_99_code, 6, (Option.some Jvm.ClassFile.FieldType.int), 12, 1, 0, 3),
  (⟨"ClashDayModel", "signOf", "(II)I"⟩, prog_14_method_100_code, 4, (Option.some Jvm.ClassFile.FieldType.int), 12, 1, 0, 3),
  (⟨"ClashDayModel", "line", "(II)I"⟩, prog_14_method_101_code, 3, (Option.some Jvm.ClassFile.FieldType.int), 12, 1, 0, 3),
  (⟨"ClashDayModel", "putsSign", "(II)V"⟩, prog_14_method_102_code, 3, (Option.none : Option Jvm.ClassFile.FieldType), 12, 0, 0, 3),
  (⟨"ClashDayModel", "spells", "(II)V"⟩, prog_14_method_103_code, 5, (Option.none : Option Jvm.ClassFile.FieldType), 12, 0, 0, 3),
  (⟨"ClashDayModel", "spelt", "(II)I"⟩, prog_14_method_104_code, 3, (Option.some Jvm.ClassFile.FieldType.int), 12, 1, 0, 3),
  (⟨"ClashDayModel", "first", "(III)I"⟩, prog_14_method_105_code, 5, (Option.some Jvm.ClassFile.FieldType.int), 12, 1, 0, 4),
  (⟨"ClashDayModel", "keptIn", "(I)I"⟩, prog_14_method_106_code, 4, (Option.some Jvm.ClassFile.FieldType.int), 12, 1, 0, 2)]
def mMs17 : List mMR := [
  (⟨"ClashDayModel", "watchers", "(II)I"⟩, prog_14_method_107_code, 7, (Option.some Jvm.ClassFile.FieldType.int), 12, 1, 0, 3),
  (⟨"ClashDayModel", "watches", "(II)V"⟩, prog_14_method_108_code, 5, (Option.none : Option Jvm.ClassFile.FieldType), 12, 0, 0, 3),
  (⟨"ClashDayModel", "chain", "(III)I"⟩, prog_14_method_109_code, 5, (Option.some Jvm.ClassFile.FieldType.int), 12, 1, 0, 4),
  (⟨"ClashDayModel", "mustNotMeet", "(III)Z"⟩, prog_14_method_110_code, 5, (Option.some Jvm.ClassFile.FieldType.boolean), 12, 2, 0, 4),
  (⟨"ClashDayModel", "apart", "(II)I"⟩, prog_14_method_111_code, 5, (Option.some Jvm.ClassFile.FieldType.int), 12, 1, 0, 3),
  (⟨"ClashDayModel", "keeps", "()V"⟩, prog_14_method_112_code, 2, (Option.none : Option Jvm.ClassFile.FieldType), 12, 0, 0, 1),
  (⟨"ClashDayModel", "laysBack", "()V"⟩, prog_14_method_113_code, 2, (Option.none : Option Jvm.ClassFile.FieldType), 12, 0, 0, 1),
  (⟨"ClashDayModel", "rowOf", "(I)V"⟩, prog_14_method_114_code, 8, (Option.none : Option Jvm.ClassFile.FieldType), 12, 0, 0, 2),
  (⟨"ClashDayModel", "triesRow", "()V"⟩, prog_14_method_115_code, 4, (Option.none : Option Jvm.ClassFile.FieldType), 12, 0, 0, 1),
  (⟨"ClashDayModel", "best", "(I)I"⟩, prog_14_method_116_code, 3, (Option.some Jvm.ClassFile.FieldType.int), 12, 1, 0, 2),
  (⟨"ClashDayModel", "stuckMany", "()I"⟩, prog_14_method_117_code, 3, (Option.some Jvm.ClassFile.FieldType.int), 12, 1, 0, 1),
  (⟨"ClashDayModel", "harm", "(II)I"⟩, prog_14_method_118_code, 7, (Option.some Jvm.ClassFile.FieldType.int), 12, 1, 0, 3),
  (⟨"ClashDayModel", "fullSlots", "()I"⟩, prog_14_method_119_code, 3, (Option.some Jvm.ClassFile.FieldType.int), 12, 1, 0, 1),
  (⟨"ClashDayModel", "plannedMany", "()I"⟩, prog_14_method_120_code, 1, (Option.some Jvm.ClassFile.FieldType.int), 12, 1, 0, 1),
  (⟨"ClashDayModel", "ahead", "(II)I"⟩, prog_14_method_121_code, 4, (Option.some Jvm.ClassFile.FieldType.int), 12, 1, 0, 3),
  (⟨"ClashDayModel", "when", "(I)I"⟩, prog_14_method_122_code, 4, (Option.some Jvm.ClassFile.FieldType.int), 12, 1, 0, 2)]
def mMs18 : List mMR := [
  (⟨"ClashDayModel", "isRest", "(II)Z"⟩, prog_14_method_123_code, 4, (Option.some Jvm.ClassFile.FieldType.boolean), 12, 2, 0, 3),
  (⟨"ClashDayModel", "worthOf", "(I)I"⟩, prog_14_method_124_code, 2, (Option.some Jvm.ClassFile.FieldType.int), 12, 1, 0, 2),
  (⟨"ClashDayModel", "fillsRests", "(II)V"⟩, prog_14_method_125_code, 6, (Option.none : Option Jvm.ClassFile.FieldType), 12, 0, 0, 3),
  (⟨"ClashDayModel", "rests", "(III)I"⟩, prog_14_method_126_code, 7, (Option.some Jvm.ClassFile.FieldType.int), 12, 1, 0, 4),
  (⟨"ClashDayModel", "pence", "(II)I"⟩, prog_14_method_127_code, 9, (Option.some Jvm.ClassFile.FieldType.int), 12, 1, 0, 3),
  (⟨"ClashDayModel", "note", "(III)I"⟩, prog_14_method_128_code, 5, (Option.some Jvm.ClassFile.FieldType.int), 12, 1, 0, 4),
  (⟨"ClashDayModel", "areNotesSo", "(I)Z"⟩, prog_14_method_129_code, 3, (Option.some Jvm.ClassFile.FieldType.boolean), 12, 2, 0, 2),
  (⟨"ClashDayModel", "areAllSo", "(II)Z"⟩, prog_14_method_130_code, 6, (Option.some Jvm.ClassFile.FieldType.boolean), 12, 2, 0, 3),
  (⟨"ClashDayModel", "fillsFits", "(I)V"⟩, prog_14_method_131_code, 4, (Option.none : Option Jvm.ClassFile.FieldType), 12, 0, 0, 2),
  (⟨"ClashDayModel", "ruled", "(I)I"⟩, prog_14_method_132_code, 5, (Option.some Jvm.ClassFile.FieldType.int), 12, 1, 0, 2),
  (⟨"ClashDayModel", "alikeAt", "(I)I"⟩, prog_14_method_133_code, 6, (Option.some Jvm.ClassFile.FieldType.int), 12, 1, 0, 2),
  (⟨"ClashDayModel", "look", "(II)I"⟩, prog_14_method_134_code, 7, (Option.some Jvm.ClassFile.FieldType.int), 12, 1, 0, 3),
  (⟨"ClashDayModel", "canBe", "(III)I"⟩, prog_14_method_135_code, 7, (Option.some Jvm.ClassFile.FieldType.int), 12, 1, 0, 4),
  (⟨"ClashDayModel", "extras", "(II)I"⟩, prog_14_method_136_code, 5, (Option.some Jvm.ClassFile.FieldType.int), 12, 1, 0, 3),
  (⟨"ClashDayModel", "resting", "(I)I"⟩, prog_14_method_137_code, 2, (Option.some Jvm.ClassFile.FieldType.int), 12, 1, 0, 2),
  (⟨"ClashDayModel", "seed", "(I)I"⟩, prog_14_method_138_code, 3, (Option.some Jvm.ClassFile.FieldType.int), 12, 1, 0, 2)]
def mMs19 : List mMR := [
  (⟨"ClashDayModel", "draw", "(I)I"⟩, prog_14_method_139_code, 2, (Option.some Jvm.ClassFile.FieldType.int), 12, 1, 0, 2),
  (⟨"ClashDayModel", "ill", "(IIII)I"⟩, prog_14_method_140_code, 9, (Option.some Jvm.ClassFile.FieldType.int), 12, 1, 0, 5),
  (⟨"ClashDayModel", "count", "(I)I"⟩, prog_14_method_141_code, 2, (Option.some Jvm.ClassFile.FieldType.int), 12, 1, 0, 2),
  (⟨"ClashDayModel", "image", "(I)I"⟩, prog_14_method_142_code, 3, (Option.some Jvm.ClassFile.FieldType.int), 12, 1, 0, 2),
  (⟨"ClashDayModel", "back", "(I)I"⟩, prog_14_method_143_code, 3, (Option.some Jvm.ClassFile.FieldType.int), 12, 1, 0, 2),
  (⟨"java/lang/Integer", "bitCount", "(I)I"⟩, prog_15_method_49_code, 1, (Option.some Jvm.ClassFile.FieldType.int), 14, 1, 0, 1),
  (⟨"java/lang/Integer", "numberOfTrailingZeros", "(I)I"⟩, prog_15_method_48_code, 2, (Option.some Jvm.ClassFile.FieldType.int), 14, 1, 0, 1),
  (⟨"java/lang/Math", "max", "(II)I"⟩, prog_16_method_65_code, 2, (Option.some Jvm.ClassFile.FieldType.int), 15, 1, 0, 2),
  (⟨"java/lang/Math", "min", "(II)I"⟩, prog_16_method_69_code, 2, (Option.some Jvm.ClassFile.FieldType.int), 15, 1, 0, 2)]
def mMs : List (List mMR) := [mMs0, mMs1, mMs2, mMs3, mMs4, mMs5, mMs6, mMs7, mMs8, mMs9, mMs10, mMs11, mMs12, mMs13, mMs14, mMs15, mMs16, mMs17, mMs18, mMs19]
/-- of each class: index of the pool, and what it means: a field (class, number, kind), a method (number, cells, arguments, class of the receiver), a class, a number; its place among the words -/
def mLk0 : List (List (Nat × Int × Int × Nat × Nat × Nat)) := [[(3, -1, 0, 0, 0, 229), (9, 0, 6, 2, 1, 255), (15, 0, 7, 2, 1, 258)], [(18, 0, 8, 2, 1, 260), (21, 0, 9, 2, 1, 265), (24, 0, 10, 2, 1, 269), (27, 0, 11, 2, 1, 274), (30, 0, 12, 2, 1, 277)], [(33, 0, 13, 2, 1, 278), (36, 0, 14, 2, 1, 279), (39, 0, 0, 0, 1, 230), (43, 0, 1, 0, 1, 233), (46, 0, 2, 0, 1, 237)], [(49, 0, 3, 0, 1, 243), (52, 0, 4, 0, 1, 248), (55, 0, 5, 0, 1, 252), (58, -2, 0, 0, 0, 719)], [(64, 8, 0, 2, 0, 830), (68, 12, 0, 3, 0, 814), (72, 14, 0, 3, 0, 953), (76, 311, 0, 2, 99, 846)], [(81, 17, 0, 2, 0, 939), (85, 309, 0, 1, 99, 1154), (90, 21, 0, 2, 0, 1185), (93, 4, 11, 2, 0, 392)], [(96, 4, 9, 0, 0, 385), (98, 4, 8, 0, 0, 383), (100, 7, 0, 2, 0, 1006), (103, 312, 0, 2, 99, 901), (106, 24, 0, 2, 0, 1011), (110, 20, 0, 3, 0, 1101)], [(113, 27, 0, 3, 0, 1097), (116, 16, 0, 3, 0, 1131), (119, 32, 0, 2, 99, 1132), (122, 9, 0, 2, 0, 1251), (125, 15, 0, 2, 0, 1252)], [(128, 1073741823, 0, 0, 0, 900)]]
def mLk1 : List (List (Nat × Int × Int × Nat × Nat × Nat)) := [[(3, -1, 0, 0, 0, 194), (9, 1, 1, 2, 1, 196), (15, 1, 0, 2, 1, 195)], [(19, 89, 0, 1, 8, 604), (24, 2, 0, 1, 0, 612), (29, 35, 0, 3, 1, 616)], [(33, 93, 0, 1, 8, 710), (37, 8, 6, 0, 0, 170), (41, 91, 0, 1, 8, 620), (45, 94, 0, 2, 8, 673)], [(49, 0, 2, 0, 0, 239), (52, 0, 3, 0, 0, 245), (55, 90, 0, 1, 8, 677), (58, 36, 0, 2, 1, 678), (62, 37, 0, 2, 1, 690)], [(65, 38, 0, 2, 1, 698), (68, 39, 0, 2, 1, 706), (71, 40, 0, 4, 1, 682), (75, 0, 0, 0, 0, 231), (78, 0, 1, 0, 0, 234)], [(81, 4, 0, 3, 0, 694), (85, 5, 0, 4, 0, 702), (89, 0, 11, 2, 0, 275), (92, 95, 0, 3, 8, 686)], [(96, 8, 5, 0, 0, 169)]]
def mLk2 : List (List (Nat × Int × Int × Nat × Nat × Nat)) := [[(3, -1, 0, 0, 0, 498), (9, 28, 0, 0, 0, 499), (11, 2, 0, 2, 1, 500)], [(16, 2, 1, 2, 1, 502), (20, 2, 2, 2, 1, 504), (23, 2, 3, 2, 1, 505), (26, 20, 0, 3, 0, 1051)], [(32, 0, 2, 0, 0, 238), (36, 12, 0, 3, 0, 1055), (39, 16, 0, 3, 0, 1056), (43, 14, 0, 3, 0, 1057), (46, 42, 0, 3, 99, 1066)], [(50, 44, 0, 4, 2, 1067), (54, 45, 0, 3, 2, 1071), (58, 312, 0, 2, 99, 1083), (63, 46, 0, 1, 2, 1088)], [(67, 49, 0, 4, 2, 1112), (71, 0, 3, 0, 0, 247), (74, 50, 0, 3, 99, 1116), (78, 51, 0, 2, 2, 1119)]]
def mLk3 : List (List (Nat × Int × Int × Nat × Nat × Nat)) := [[(3, -1, 0, 0, 0, 316), (11, 3, 1, 2, 1, 319), (15, 3, 2, 2, 1, 320)], [(18, 3, 3, 2, 1, 321), (21, 3, 0, 0, 1, 317), (25, -2, 0, 0, 0, 1336), (31, 54, 0, 1, 3, 1265)], [(35, 311, 0, 2, 99, 1212), (41, 17, 0, 2, 0, 1217)]]
def mLk4 : List (List (Nat × Int × Int × Nat × Nat × Nat)) := [[(3, -1, 0, 0, 0, 368), (9, 4, 0, 2, 1, 369), (15, 4, 1, 2, 1, 370)], [(18, 4, 2, 2, 1, 371), (21, 4, 3, 2, 1, 372), (24, 4, 11, 2, 1, 390), (27, 62, 0, 4, 4, 883), (31, 4, 6, 0, 1, 375)], [(35, 64, 0, 6, 4, 904), (39, 10, 0, 2, 0, 972), (45, 0, 8, 2, 0, 261)], [(48, 59, 0, 4, 4, 973), (52, 23, 0, 3, 0, 974), (56, 309, 0, 1, 99, 912), (62, 18, 0, 1, 0, 887)], [(66, 0, 1, 0, 0, 235), (69, 4, 4, 0, 1, 373), (70, 0, 10, 2, 0, 270), (73, 4, 5, 0, 1, 374), (75, 0, 6, 2, 0, 256), (76, 14, 0, 3, 0, 891)], [(80, 1048575, 0, 0, 0, 892), (81, 63, 0, 2, 99, 893), (84, -1048576, 0, 0, 0, 896), (85, 31, 0, 1, 99, 897), (88, 66, 0, 4, 4, 908), (92, 65, 0, 4, 4, 919)], [(96, 32, 0, 2, 99, 928), (99, 312, 0, 2, 99, 923), (104, 310, 0, 1, 99, 924), (107, 4, 12, 0, 1, 393), (110, 4, 7, 0, 1, 378)], [(113, 4, 8, 0, 1, 381), (116, 4, 9, 0, 1, 384), (119, 4, 10, 0, 1, 387), (122, -2, 0, 0, 0, 918)]]
def mLk5 : List (List (Nat × Int × Int × Nat × Nat × Nat)) := [[(3, -1, 0, 0, 0, 519), (11, 5, 0, 2, 1, 520)], [(17, 5, 2, 2, 1, 523), (20, 5, 3, 2, 1, 524), (23, 200005, 0, 0, 0, 786), (24, 200006, 0, 0, 0, 787), (25, 200007, 0, 0, 0, 788), (26, 200008, 0, 0, 0, 789), (27, 200009, 0, 0, 0, 790), (28, 200002, 0, 0, 0, 766), (29, 200003, 0, 0, 0, 767), (30, 200004, 0, 0, 0, 768), (31, 200000, 0, 0, 0, 772)], [(32, 200001, 0, 0, 0, 773), (33, 5, 1, 0, 1, 522), (37, 5, 4, 0, 1, 525), (40, 75, 0, 5, 5, 958), (44, 312, 0, 2, 99, 962)], [(50, 100000, 0, 0, 0, 963), (51, 200012, 0, 0, 0, 964), (52, 76, 0, 3, 99, 965)]]
def mLk6 : List (List (Nat × Int × Int × Nat × Nat × Nat)) := [[(3, -1, 0, 0, 0, 208), (9, 6, 0, 2, 1, 209), (15, 89, 0, 1, 8, 731)], [(20, 71, 0, 1, 5, 732), (25, 6, 1, 0, 1, 210), (29, 79, 0, 3, 6, 736)], [(33, 93, 0, 1, 8, 797), (37, 8, 6, 0, 0, 171), (40, 92, 0, 2, 8, 740), (44, 94, 0, 2, 8, 745), (47, 90, 0, 1, 8, 746)], [(50, 82, 0, 2, 6, 747), (54, 5, 1, 0, 0, 521), (57, 80, 0, 3, 6, 774), (60, 73, 0, 2, 5, 793)], [(64, 81, 0, 3, 6, 778), (67, 200010, 0, 0, 0, 791), (68, 72, 0, 2, 5, 759), (71, 200011, 0, 0, 0, 792), (72, 8, 2, 0, 0, 163), (75, 200012, 0, 0, 0, 782), (76, 68, 0, 1, 99, 783)], [(80, 83, 0, 2, 6, 751), (83, 69, 0, 1, 99, 763), (86, 70, 0, 1, 99, 769), (89, 91, 0, 1, 8, 755), (95, 99999, 0, 0, 0, 756)], [(96, 95, 0, 3, 8, 757), (100, 100000, 0, 0, 0, 758), (101, 8, 5, 0, 0, 168)]]
def mLk7 : List (List (Nat × Int × Int × Nat × Nat × Nat)) := [[(3, -1, 0, 0, 0, 223), (9, 0, 0, 15, 0, 224), (11, 1, 9, 1, 0, 226), (12, 7, 0, 2, 1, 331)], [(18, 7, 1, 2, 1, 334), (21, 3, 0, 4, 0, 311), (23, 52, 3, 1, 3, 313), (24, 7, 2, 2, 1, 337), (28, 7, 3, 0, 1, 340)], [(32, 3, 0, 2, 0, 1331), (36, 53, 0, 2, 3, 1332), (39, 7, 4, 0, 1, 342)]]
def mLk8 : List (List (Nat × Int × Int × Nat × Nat × Nat)) := [[(3, -1, 0, 0, 0, 159), (11, 8, 0, 2, 1, 160), (15, 8, 1, 0, 1, 161)], [(19, 8, 4, 0, 1, 166), (22, 8, 6, 0, 1, 172), (25, 90, 0, 1, 8, 608), (28, 8, 3, 0, 1, 165), (31, 8, 2, 0, 1, 164)], [(34, 8, 5, 0, 1, 167), (37, 0, 1, 0, 0, 624), (39, -3, 0, 0, 0, 625), (45, -4, 0, 0, 0, 635)], [(49, 91, 0, 1, 8, 744), (52, 94, 0, 2, 8, 714)]]
def mLk9 : List (List (Nat × Int × Int × Nat × Nat × Nat)) := [[(3, -1, 0, 0, 0, 443), (9, 0, 0, 15, 0, 444), (11, 1, 9, 1, 0, 445), (12, 9, 2, 2, 1, 450)], [(18, 9, 5, 2, 1, 455), (22, 9, 6, 2, 1, 457), (25, 9, 10, 2, 1, 463), (28, 9, 11, 2, 1, 464), (31, 28, 0, 0, 0, 446)], [(33, 9, 12, 2, 1, 465), (36, 9, 0, 2, 1, 448), (40, 9, 1, 2, 1, 449), (44, 3, 0, 2, 0, 1141)], [(48, 0, 3, 0, 0, 242), (52, 309, 0, 1, 99, 1142), (58, 10, 0, 2, 0, 1143), (62, 9, 3, 0, 1, 451)], [(65, 98, 0, 5, 9, 1144), (69, 9, 4, 0, 1, 453), (72, -2, 0, 0, 0, 1148), (78, 60, 0, 3, 4, 1149)], [(84, 21, 0, 2, 0, 1150), (87, 24, 0, 2, 0, 1155), (91, 0, 2, 0, 0, 240), (94, 25, 0, 2, 0, 1164)], [(97, 100, 0, 4, 9, 1165), (101, 26, 0, 3, 0, 1169), (105, 0, 8, 2, 0, 263), (108, 59, 0, 4, 4, 1170)], [(112, 117, 0, 3, 10, 1180), (118, 0, 4, 0, 0, 250), (121, 7, 0, 2, 0, 333), (126, 0, 9, 2, 0, 267)], [(129, 7, 2, 2, 0, 339), (133, 106, 0, 3, 9, 1204), (137, 0, 10, 2, 0, 273), (140, 56, 0, 1, 3, 1208)], [(146, 57, 0, 3, 3, 1213), (149, 101, 0, 4, 9, 1282), (153, 17, 0, 2, 0, 1283), (156, 109, 0, 3, 9, 1288)], [(160, 311, 0, 2, 99, 1292), (165, 111, 0, 2, 9, 1235), (168, 112, 0, 2, 9, 1239), (171, 4, 10, 0, 0, 389), (174, 9, 7, 0, 1, 458)], [(177, 9, 8, 0, 1, 460), (180, 7, 4, 0, 0, 343), (183, 9, 9, 0, 1, 462), (186, 7, 1, 2, 0, 336), (189, 114, 0, 2, 9, 1306)], [(192, 0, 5, 0, 0, 253), (195, 22, 0, 1, 0, 1318), (198, 115, 0, 1, 9, 1310), (201, 1103515245, 0, 0, 0, 1314), (203, 12345, 0, 0, 0, 1315), (205, 2147483648, 0, 0, 0, 1316), (207, 65536, 0, 0, 0, 1317)]]
def mLk10 : List (List (Nat × Int × Int × Nat × Nat × Nat)) := [[(3, -1, 0, 0, 0, 426), (11, 10, 1, 2, 1, 428)], [(17, 10, 2, 2, 1, 429), (20, 10, 0, 2, 1, 427), (24, 118, 0, 2, 10, 874), (28, 119, 0, 3, 10, 931)], [(32, 60, 0, 3, 4, 968), (38, 0, 4, 0, 0, 249), (44, 0, 3, 0, 0, 244), (47, 10, 0, 2, 0, 878)], [(51, 0, 8, 2, 0, 262), (55, 59, 0, 4, 4, 879), (59, 19, 0, 1, 0, 935), (63, 11, 0, 1, 0, 940)], [(66, 309, 0, 1, 99, 944), (72, 120, 0, 3, 10, 945), (76, 74, 0, 3, 5, 954)], [(82, 0, 9, 2, 0, 266), (85, 0, 10, 2, 0, 271), (88, 4, 7, 0, 0, 377), (91, 4, 8, 0, 0, 380), (94, 4, 10, 0, 0, 386)], [(97, 15, 0, 2, 0, 949)]]
def mLk11 : List (List (Nat × Int × Int × Nat × Nat × Nat)) := [[(3, -1, 0, 0, 0, 151), (9, 8, 0, 7, 0, 154), (11, 86, 1, 1, 8, 156), (12, 11, 0, 2, 1, 537)], [(16, 1, 0, 2, 0, 189), (18, 33, 1, 2, 1, 191), (21, 11, 1, 2, 1, 538), (25, 6, 0, 2, 0, 203), (27, 77, 0, 2, 6, 205), (28, 11, 2, 2, 1, 539)], [(32, 5, 0, 5, 0, 216), (34, 11, 3, 2, 1, 540), (38, 7, 0, 6, 0, 218), (40, 84, 24, 1, 7, 220), (41, 11, 5, 2, 1, 542), (45, 11, 6, 2, 1, 543)], [(49, 0, 0, 15, 0, 360), (51, 11, 7, 2, 1, 544), (55, 1, 9, 1, 0, 362), (56, 11, 9, 2, 1, 546), (60, 4, 0, 13, 0, 363), (62, 58, 5, 1, 4, 365), (63, 11, 10, 2, 1, 547)], [(67, 10, 0, 3, 0, 421), (69, 116, 2, 2, 10, 423), (72, 11, 11, 2, 1, 548), (76, 9, 0, 13, 0, 438), (78, 96, 22, 3, 9, 440)], [(81, 11, 12, 2, 1, 549), (85, 2, 0, 4, 0, 493), (87, 41, 6, 1, 2, 495), (88, 11, 13, 2, 1, 550), (92, 67, 3, 1, 5, 516), (93, 87, 0, 2, 8, 584)], [(97, 88, 0, 2, 8, 588), (101, 8, 1, 0, 0, 162), (105, 34, 0, 2, 1, 600), (109, 7, 0, 2, 0, 332)], [(112, 3, 0, 2, 0, 715), (116, 7, 1, 2, 0, 335), (119, 7, 2, 2, 0, 338), (123, 3, 0, 0, 0, 318), (126, 11, 8, 0, 1, 545)], [(129, 0, 3, 0, 0, 246), (132, 11, 4, 0, 1, 541), (135, 78, 0, 2, 6, 727), (138, 7, 3, 0, 0, 341), (141, 7, 0, 2, 0, 806)], [(144, 0, 6, 2, 0, 257), (148, 0, 7, 2, 0, 259), (151, 13, 0, 2, 0, 810), (155, 8, 0, 2, 0, 822), (158, 0, 8, 2, 0, 264)], [(161, 0, 9, 2, 0, 268), (164, 0, 10, 2, 0, 272), (167, 10, 0, 2, 0, 826), (170, 6, 0, 1, 0, 835), (174, 163, 0, 1, 99, 839)], [(177, 17, 0, 2, 0, 842), (180, 12, 0, 3, 0, 853), (184, 14, 0, 3, 0, 854), (188, 0, 4, 0, 0, 251), (191, 165, 0, 1, 11, 862)], [(194, 164, 0, 1, 11, 866), (198, 117, 0, 3, 10, 870), (202, 59, 0, 4, 4, 982), (206, 23, 0, 3, 0, 983)], [(210, 4, 10, 0, 0, 388), (213, 9, 0, 2, 0, 988), (216, 24, 0, 2, 0, 992), (219, 11, 0, 1, 0, 996), (223, 309, 0, 1, 99, 997)], [(228, 25, 0, 2, 0, 1002), (231, 26, 0, 3, 0, 1007), (235, 0, 11, 2, 0, 276), (238, 16, 0, 3, 0, 1024)], [(241, 4, 7, 0, 0, 379), (244, 4, 8, 0, 0, 382), (247, 4, 11, 2, 0, 391), (250, 4, 6, 0, 0, 376), (253, 61, 0, 3, 4, 1040)], [(257, 42, 0, 3, 99, 1048), (261, 43, 0, 4, 2, 1062), (265, 2, 1, 2, 0, 503), (268, 2, 0, 2, 0, 501)], [(272, 46, 0, 1, 2, 1079), (275, 47, 0, 1, 2, 1084), (278, 28, 0, 2, 0, 1093), (281, 27, 0, 3, 0, 1102), (284, 20, 0, 3, 0, 1107), (287, 48, 0, 5, 2, 1108)], [(291, 29, 0, 3, 0, 1127), (294, 97, 0, 2, 9, 1137), (297, 9, 3, 0, 0, 452), (300, 9, 4, 0, 0, 454), (303, 9, 5, 2, 0, 456)], [(306, 99, 0, 3, 9, 1160), (309, 100, 0, 4, 9, 1171), (313, 101, 0, 4, 9, 1176), (317, 0, 5, 0, 0, 254)], [(320, 22, 0, 1, 0, 1181), (323, 1073741823, 0, 0, 0, 1186), (324, 18, 0, 1, 0, 1187), (327, 102, 0, 4, 9, 1192), (331, 103, 0, 4, 9, 1200), (335, 310, 0, 1, 99, 1218)], [(338, 104, 0, 4, 9, 1223), (341, 110, 0, 4, 9, 1231), (344, 30, 0, 3, 0, 1247), (347, 54, 0, 1, 3, 1257), (350, 55, 0, 4, 3, 1261)], [(353, 105, 0, 4, 9, 1270), (357, 107, 0, 5, 9, 1278), (361, 108, 0, 2, 9, 1284), (364, 109, 0, 3, 9, 1293), (367, 7, 4, 0, 0, 344)], [(370, 113, 0, 6, 9, 1302), (374, 9, 7, 0, 0, 459), (377, 9, 8, 0, 0, 461), (380, 0, 0, 0, 0, 232), (383, 0, 1, 0, 0, 236)], [(386, 0, 2, 0, 0, 241), (389, 85, 0, 2, 7, 1327), (392, 7, 5, 3, 0, 345)]]
def mLk12 : List (List (Nat × Int × Int × Nat × Nat × Nat)) := [[(1, -1, 0, 0, 0, 1346), (7, 12, 0, 2, 1, 1347), (13, 12, 3, 2, 1, 1350)], [(17, 12, 4, 2, 1, 1351), (20, 12, 5, 2, 1, 1352), (23, 12, 6, 2, 1, 1353), (26, 12, 7, 2, 1, 1354), (29, 12, 15, 2, 1, 1362)], [(32, 12, 17, 2, 1, 1364), (36, 12, 19, 2, 1, 1366), (39, 12, 20, 2, 1, 1367), (42, 12, 21, 0, 1, 1368), (46, 12, 23, 2, 1, 1370)], [(49, 12, 24, 2, 1, 1371), (52, 12, 25, 2, 1, 1372), (55, 12, 26, 2, 1, 1373), (58, 12, 27, 2, 1, 1374), (61, 12, 36, 2, 1, 1383)], [(64, 12, 38, 2, 1, 1385), (67, 12, 39, 2, 1, 1386), (70, 12, 40, 2, 1, 1387), (73, 12, 41, 2, 1, 1388), (76, 12, 42, 2, 1, 1389), (79, 12, 43, 2, 1, 1390)], [(82, 12, 44, 2, 1, 1391), (85, 12, 45, 2, 1, 1392), (88, 12, 46, 2, 1, 1393), (91, 12, 50, 2, 1, 1397), (94, 12, 51, 2, 1, 1398)], [(98, 12, 52, 2, 1, 1399), (101, 12, 54, 2, 1, 1401), (104, 12, 55, 2, 1, 1402), (107, 12, 56, 2, 1, 1403), (110, 12, 57, 2, 1, 1404)], [(113, 12, 1, 0, 1, 1348), (116, 170, 0, 2, 12, 1527), (120, 12, 9, 0, 1, 1356), (123, 12, 8, 0, 1, 1355), (126, 174, 0, 1, 12, 1547)], [(130, 176, 0, 2, 12, 1560), (134, 177, 0, 2, 12, 1556), (138, 178, 0, 1, 12, 1580), (141, 175, 0, 2, 12, 1592)], [(144, 173, 0, 3, 12, 1568), (148, 12, 10, 0, 1, 1357), (151, 167, 0, 3, 99, 1596), (155, 3348070794885, 0, 0, 0, 1565), (157, 538449491, 0, 0, 0, 1640), (159, 6050369, 0, 0, 0, 1641)], [(161, 595572, 0, 0, 0, 1642), (163, 479437459, 0, 0, 0, 1643), (165, 366100, 0, 0, 0, 1644), (167, 211232360, 0, 0, 0, 1645), (169, 769611, 0, 0, 0, 1646), (171, 87673, 0, 0, 0, 1647), (173, 24739718599, 0, 0, 0, 1648), (175, 677454, 0, 0, 0, 1649)], [(177, 12, 11, 0, 1, 1358), (180, 12, 12, 0, 1, 1359), (183, 12, 13, 0, 1, 1360), (186, 12, 16, 0, 1, 1363), (189, 185, 0, 1, 99, 1680)], [(193, 182, 0, 3, 12, 1632), (197, 99999, 0, 0, 0, 1627), (198, 180, 0, 3, 12, 1588), (201, 183, 0, 2, 12, 1628), (204, 181, 0, 1, 12, 1636), (207, 187, 0, 1, 12, 1623)], [(211, 188, 0, 1, 12, 1619), (214, 189, 0, 1, 12, 1615), (217, 14836, 0, 0, 0, 1663), (219, 184, 0, 2, 12, 1664), (222, 190, 0, 1, 12, 1668)], [(225, 186, 0, 2, 12, 1676), (228, 192, 0, 1, 12, 1683), (231, 191, 0, 1, 12, 1659), (234, 193, 0, 1, 12, 1672), (237, 1476, 0, 0, 0, 1687), (239, 498, 0, 0, 0, 1688)], [(241, 294, 0, 0, 0, 1650), (243, 179, 0, 2, 12, 1651), (246, 194, 0, 1, 12, 1655), (249, 196, 0, 4, 12, 1584), (253, 4153, 0, 0, 0, 1555), (255, 197, 0, 2, 12, 1576)], [(258, 16826546, 0, 0, 0, 1564), (260, 198, 0, 2, 12, 1599), (263, 199, 0, 2, 12, 1603), (266, 200, 0, 1, 12, 1607), (269, 21015726, 0, 0, 0, 1566), (271, 202, 0, 1, 12, 1551)], [(274, 536622, 0, 0, 0, 1567), (276, 12, 14, 0, 1, 1361), (279, 201, 0, 2, 12, 1572), (282, 195, 0, 1, 12, 1611), (285, 203, 0, 1, 12, 1543)], [(288, 12, 2, 0, 1, 1349), (291, 204, 0, 1, 12, 1539), (294, 227, 0, 1, 12, 1693), (297, 12, 37, 0, 1, 1384), (300, 12, 18, 0, 1, 1365), (303, 208, 0, 2, 12, 1859)], [(307, 209, 0, 1, 12, 1863), (311, 210, 0, 3, 99, 1867), (315, 214, 0, 2, 12, 1725), (318, 168, 0, 2, 99, 1718)], [(321, 217, 0, 3, 12, 1714), (324, 219, 0, 3, 12, 1754), (328, 215, 0, 2, 12, 1782), (331, 218, 0, 3, 12, 1750), (334, 216, 0, 2, 12, 1742)], [(337, 222, 0, 3, 12, 1746), (340, 224, 0, 3, 12, 1924), (343, 225, 0, 2, 12, 2015), (346, 207, 0, 2, 12, 1701), (349, 213, 0, 2, 12, 1709)], [(352, 2, 0, 0, 0, 1713), (354, 212, 0, 1, 12, 1733), (357, 29, 0, 0, 0, 1737), (359, 223, 0, 2, 12, 1738), (362, 12, 28, 0, 1, 1375), (365, 233, 0, 1, 99, 1794)], [(368, 236, 0, 1, 99, 1809), (371, 235, 0, 3, 12, 1812), (374, 12, 33, 0, 1, 1380), (377, 12, 35, 0, 1, 1382), (380, 237, 0, 6, 12, 1805)], [(384, 12, 34, 0, 1, 1381), (387, 240, 0, 2, 12, 1820), (390, 239, 0, 3, 12, 1824), (393, 12, 32, 0, 1, 1379), (396, 12, 29, 0, 1, 1376), (399, 12, 30, 0, 1, 1377)], [(402, 12, 31, 0, 1, 1378), (405, 234, 0, 2, 12, 1797), (408, 238, 0, 2, 12, 1801), (411, 241, 0, 2, 12, 1816), (414, 242, 0, 1, 12, 1828)], [(417, 243, 0, 3, 12, 1790), (420, 244, 0, 2, 12, 1786), (423, 211, 0, 4, 12, 1855), (427, 169, 0, 1, 99, 1836), (430, 220, 0, 2, 12, 1839)], [(433, 248, 0, 1, 12, 1843), (436, 221, 0, 1, 12, 1847), (439, 247, 0, 2, 12, 1851), (443, 249, 0, 2, 12, 1832), (446, 250, 0, 1, 12, 1778)], [(449, 245, 0, 2, 12, 1870), (452, 251, 0, 1, 12, 1774), (455, 253, 0, 1, 12, 1770), (458, 246, 0, 2, 12, 1882), (461, 9, 0, 0, 0, 1890), (463, 258, 0, 3, 12, 1891)], [(466, 7, 0, 0, 0, 1907), (468, 265, 0, 3, 12, 1920), (471, 267, 0, 3, 12, 1936), (474, 268, 0, 3, 12, 1932), (477, 6, 0, 0, 0, 1948), (479, 271, 0, 2, 12, 1949)], [(482, 273, 0, 3, 12, 1957), (485, 275, 0, 4, 12, 1965), (488, 12, 47, 0, 1, 1394), (491, 278, 0, 1, 12, 1986), (494, 12, 48, 0, 1, 1395)], [(497, 12, 49, 0, 1, 1396), (500, 5, 0, 0, 0, 1973), (502, 277, 0, 1, 12, 1974), (505, 279, 0, 2, 12, 1978), (508, 280, 0, 1, 12, 1982), (511, 282, 0, 1, 12, 1994)], [(514, 20, 0, 0, 0, 2002), (516, 252, 0, 2, 12, 2003), (519, 285, 0, 1, 12, 2007), (522, 226, 0, 1, 12, 2011), (525, 284, 0, 1, 12, 2019)], [(528, 289, 0, 2, 12, 2035), (531, 290, 0, 3, 12, 2031), (534, 288, 0, 3, 12, 2039), (537, 9999, 0, 0, 0, 2047), (539, 294, 0, 2, 12, 2064), (542, 295, 0, 3, 12, 2060)], [(545, 296, 0, 2, 12, 2056), (548, 298, 0, 2, 12, 2072), (551, 300, 0, 4, 12, 2080), (555, 12, 22, 0, 1, 1369), (558, 12, 53, 1, 1, 1400)], [(562, 1103515245, 0, 0, 0, 2101), (564, 12345, 0, 0, 0, 2102), (566, 2147483648, 0, 0, 0, 2103), (568, 65536, 0, 0, 0, 2104), (570, 100, 0, 0, 0, 2096), (572, 304, 0, 2, 12, 2097), (575, 3, 0, 0, 0, 2113)]]
def mLk13 : List (List (Nat × Int × Int × Nat × Nat × Nat)) := [[(7, 11, 0, 14, 0, 146), (9, 121, 406, 1, 11, 148), (10, 12, 0, 58, 0, 1341), (12, 166, 32, 1, 12, 1343), (13, 122, 0, 6, 11, 580)], [(17, 171, 0, 6, 12, 1523), (18, 123, 0, 2, 11, 592), (22, 172, 0, 2, 12, 1531), (23, 124, 0, 1, 11, 596), (27, 206, 0, 1, 12, 1689), (28, 125, 0, 1, 11, 723), (31, 205, 0, 1, 12, 1535)], [(32, 126, 0, 2, 11, 798), (35, 228, 0, 2, 12, 1697), (36, 127, 0, 3, 11, 802), (40, 229, 0, 3, 12, 1705), (41, 128, 0, 3, 11, 818), (44, 230, 0, 3, 12, 1721), (45, 129, 0, 2, 11, 831)], [(48, 231, 0, 2, 12, 1729), (49, 130, 0, 3, 11, 849), (52, 232, 0, 3, 12, 1758), (53, 131, 0, 1, 11, 858), (56, 255, 0, 1, 12, 1766), (57, 132, 0, 2, 11, 978), (60, 256, 0, 2, 12, 1874), (61, 133, 0, 2, 11, 984)], [(64, 257, 0, 2, 12, 1878), (65, 134, 0, 3, 11, 998), (68, 259, 0, 3, 12, 1886), (69, 135, 0, 3, 11, 1012), (72, 260, 0, 3, 12, 1895), (73, 136, 0, 1, 11, 1016), (76, 254, 0, 1, 12, 1762), (77, 137, 0, 3, 11, 1020)], [(80, 261, 0, 3, 12, 1899), (81, 138, 0, 3, 11, 1028), (84, 262, 0, 3, 12, 1903), (85, 139, 0, 2, 11, 1032), (88, 263, 0, 2, 12, 1908), (89, 140, 0, 3, 11, 1036), (92, 264, 0, 3, 12, 1912), (93, 141, 0, 3, 11, 1044)], [(96, 266, 0, 3, 12, 1916), (97, 142, 0, 3, 11, 1058), (100, 269, 0, 3, 12, 1928), (101, 143, 0, 4, 11, 1075), (105, 270, 0, 4, 12, 1940), (106, 144, 0, 3, 11, 1089), (109, 272, 0, 3, 12, 1944), (110, 145, 0, 4, 11, 1103)], [(113, 274, 0, 4, 12, 1953), (114, 146, 0, 3, 11, 1123), (117, 276, 0, 3, 12, 1961), (118, 147, 0, 2, 11, 1133), (121, 281, 0, 2, 12, 1969), (122, 148, 0, 3, 11, 1156), (125, 283, 0, 3, 12, 1990), (126, 149, 0, 3, 11, 1172)], [(129, 286, 0, 3, 12, 1998), (130, 150, 0, 2, 11, 1188), (133, 287, 0, 2, 12, 2023), (134, 151, 0, 3, 11, 1196), (137, 301, 0, 3, 12, 2076), (138, 152, 0, 2, 11, 1219), (141, 302, 0, 2, 12, 2084), (142, 153, 0, 4, 11, 1227)], [(145, 291, 0, 4, 12, 2027), (146, 154, 0, 3, 11, 1243), (149, 292, 0, 3, 12, 2043), (150, 155, 0, 4, 11, 1253), (153, 293, 0, 4, 12, 2048), (154, 156, 0, 2, 11, 1266), (157, 297, 0, 2, 12, 2052), (158, 157, 0, 3, 11, 1274)], [(161, 299, 0, 3, 12, 2068), (162, 158, 0, 2, 11, 1294), (165, 303, 0, 2, 12, 2088), (166, 159, 0, 5, 11, 1298), (170, 305, 0, 5, 12, 2092), (171, 160, 0, 2, 11, 1319), (174, 306, 0, 2, 12, 2105), (175, 161, 0, 2, 11, 1323)], [(178, 307, 0, 2, 12, 2109), (179, 162, 0, 2, 11, 1337), (182, 308, 0, 2, 12, 2114)]]
def mLk14 : List (List (Nat × Int × Int × Nat × Nat × Nat)) := [[], [], [], [], [], [], [], [], [], [], [], [], [], [], [], [], [(264, 65536, 0, 0, 0, 927), (265, 1431655765, 0, 0, 0, 915), (266, 858993459, 0, 0, 0, 916), (267, 252645135, 0, 0, 0, 917)]]
def mLk15 : List (List (Nat × Int × Int × Nat × Nat × Nat)) := [[]]
def mLk : List (List (List (Nat × Int × Int × Nat × Nat × Nat))) := [mLk0, mLk1, mLk2, mLk3, mLk4, mLk5, mLk6, mLk7, mLk8, mLk9, mLk10, mLk11, mLk12, mLk13, mLk14, mLk15]
