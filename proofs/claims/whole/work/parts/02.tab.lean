/-! the classes, by their numbers; the methods; what each index of a pool means (printed by wip/gen/gen_tab.py) -/
def kT0 : u_T := fun k => match k with
  | 0 => ("ClashDay$Board", "seats", "I", false)
  | 1 => ("ClashDay$Board", "hours", "I", false)
  | 2 => ("ClashDay$Board", "papers", "I", false)
  | 3 => ("ClashDay$Board", "candidates", "I", false)
  | 4 => ("ClashDay$Board", "turn", "I", false)
  | 5 => ("ClashDay$Board", "planned", "I", false)
  | 6 => ("ClashDay$Board", "start", "[I", true)
  | 7 => ("ClashDay$Board", "length", "[I", true)
  | 8 => ("ClashDay$Board", "sits", "[I", true)
  | 9 => ("ClashDay$Board", "extra", "[I", true)
  | 10 => ("ClashDay$Board", "rest", "[I", true)
  | 11 => ("ClashDay$Board", "taken", "[I", true)
  | 12 => ("ClashDay$Board", "begin", "[I", true)
  | 13 => ("ClashDay$Board", "sat", "[I", true)
  | _ => ("ClashDay$Board", "kept", "[I", true)
def kY0 : Nat → FieldType := fun k => match k with
  | 0 => .int
  | 1 => .int
  | 2 => .int
  | 3 => .int
  | 4 => .int
  | 5 => .int
  | 6 => (.array .int)
  | 7 => (.array .int)
  | 8 => (.array .int)
  | 9 => (.array .int)
  | 10 => (.array .int)
  | 11 => (.array .int)
  | 12 => (.array .int)
  | 13 => (.array .int)
  | _ => (.array .int)
def kT1 : u_T := fun k => match k with
  | 0 => ("ClashDay$DayReader", "tape", "LClashDay$Tape;", true)
  | _ => ("ClashDay$DayReader", "numbers", "[I", true)
def kY1 : Nat → FieldType := fun k => match k with
  | 0 => (.object "ClashDay$Tape")
  | _ => (.array .int)
def kT2 : u_T := fun k => match k with
  | 0 => ("ClashDay$Lines", "signs", "[[I", true)
  | 1 => ("ClashDay$Lines", "sizes", "[I", true)
  | 2 => ("ClashDay$Lines", "watcher", "[I", true)
  | _ => ("ClashDay$Lines", "keeps", "[I", true)
def kY2 : Nat → FieldType := fun k => match k with
  | 0 => (.array (.array .int))
  | 1 => (.array .int)
  | 2 => (.array .int)
  | _ => (.array .int)
def kT3 : u_T := fun k => match k with
  | 0 => ("ClashDay$Notes", "size", "I", false)
  | 1 => ("ClashDay$Notes", "turn", "[I", true)
  | 2 => ("ClashDay$Notes", "slot", "[I", true)
  | _ => ("ClashDay$Notes", "seats", "[I", true)
def kY3 : Nat → FieldType := fun k => match k with
  | 0 => .int
  | 1 => (.array .int)
  | 2 => (.array .int)
  | _ => (.array .int)
def kT4 : u_T := fun k => match k with
  | 0 => ("ClashDay$Planner", "start", "[I", true)
  | 1 => ("ClashDay$Planner", "time", "[I", true)
  | 2 => ("ClashDay$Planner", "fits", "[I", true)
  | 3 => ("ClashDay$Planner", "trying", "[I", true)
  | 4 => ("ClashDay$Planner", "hours", "I", false)
  | 5 => ("ClashDay$Planner", "rest", "I", false)
  | 6 => ("ClashDay$Planner", "ways", "I", false)
  | 7 => ("ClashDay$Planner", "nights", "I", false)
  | 8 => ("ClashDay$Planner", "kept", "I", false)
  | 9 => ("ClashDay$Planner", "sat", "I", false)
  | 10 => ("ClashDay$Planner", "lastEnd", "I", false)
  | 11 => ("ClashDay$Planner", "begin", "[I", true)
  | _ => ("ClashDay$Planner", "cost", "I", false)
def kY4 : Nat → FieldType := fun k => match k with
  | 0 => (.array .int)
  | 1 => (.array .int)
  | 2 => (.array .int)
  | 3 => (.array .int)
  | 4 => .int
  | 5 => .int
  | 6 => .int
  | 7 => .int
  | 8 => .int
  | 9 => .int
  | 10 => .int
  | 11 => (.array .int)
  | _ => .int
def kT5 : u_T := fun k => match k with
  | 0 => ("ClashDay$Rule", "code", "[I", true)
  | 1 => ("ClashDay$Rule", "size", "I", false)
  | 2 => ("ClashDay$Rule", "sumEnds", "[I", true)
  | 3 => ("ClashDay$Rule", "clauseEnds", "[I", true)
  | _ => ("ClashDay$Rule", "clauses", "I", false)
def kY5 : Nat → FieldType := fun k => match k with
  | 0 => (.array .int)
  | 1 => .int
  | 2 => (.array .int)
  | 3 => (.array .int)
  | _ => .int
def kT6 : u_T := fun k => match k with
  | 0 => ("ClashDay$RuleReader", "tape", "LClashDay$Tape;", true)
  | _ => ("ClashDay$RuleReader", "values", "I", false)
def kY6 : Nat → FieldType := fun k => match k with
  | 0 => (.object "ClashDay$Tape")
  | _ => .int
def kT7 : u_T := fun k => match k with
  | 0 => ("ClashDay$Scene", "told", "LClashDay$Board;", true)
  | 1 => ("ClashDay$Scene", "now", "LClashDay$Board;", true)
  | 2 => ("ClashDay$Scene", "notes", "LClashDay$Notes;", true)
  | 3 => ("ClashDay$Scene", "inForce", "I", false)
  | 4 => ("ClashDay$Scene", "x", "I", false)
  | _ => ("ClashDay$Scene", "made", "Z", false)
def kY7 : Nat → FieldType := fun k => match k with
  | 0 => (.object "ClashDay$Board")
  | 1 => (.object "ClashDay$Board")
  | 2 => (.object "ClashDay$Notes")
  | 3 => .int
  | 4 => .int
  | _ => .boolean
def kT8 : u_T := fun k => match k with
  | 0 => ("ClashDay$Tape", "bytes", "[C", true)
  | 1 => ("ClashDay$Tape", "size", "I", false)
  | 2 => ("ClashDay$Tape", "kind", "I", false)
  | 3 => ("ClashDay$Tape", "at", "I", false)
  | 4 => ("ClashDay$Tape", "place", "I", false)
  | 5 => ("ClashDay$Tape", "number", "I", false)
  | _ => ("ClashDay$Tape", "fault", "I", false)
def kY8 : Nat → FieldType := fun k => match k with
  | 0 => (.array .char)
  | 1 => .int
  | 2 => .int
  | 3 => .int
  | 4 => .int
  | 5 => .int
  | _ => .int
def kT9 : u_T := fun k => match k with
  | 0 => ("ClashDay$Trials", "planner", "LClashDay$Planner;", true)
  | 1 => ("ClashDay$Trials", "turns", "LClashDay$Turns;", true)
  | 2 => ("ClashDay$Trials", "trial", "LClashDay$Board;", true)
  | 3 => ("ClashDay$Trials", "bestPlanned", "I", false)
  | 4 => ("ClashDay$Trials", "bestKept", "I", false)
  | 5 => ("ClashDay$Trials", "bestRow", "[I", true)
  | 6 => ("ClashDay$Trials", "row", "[I", true)
  | 7 => ("ClashDay$Trials", "illPlanned", "I", false)
  | 8 => ("ClashDay$Trials", "illKept", "I", false)
  | 9 => ("ClashDay$Trials", "drawn", "I", false)
  | 10 => ("ClashDay$Trials", "oneHas", "[I", true)
  | 11 => ("ClashDay$Trials", "otherHas", "[I", true)
  | _ => ("ClashDay$Trials", "foreseen", "[[I", true)
def kY9 : Nat → FieldType := fun k => match k with
  | 0 => (.object "ClashDay$Planner")
  | 1 => (.object "ClashDay$Turns")
  | 2 => (.object "ClashDay$Board")
  | 3 => .int
  | 4 => .int
  | 5 => (.array .int)
  | 6 => (.array .int)
  | 7 => .int
  | 8 => .int
  | 9 => .int
  | 10 => (.array .int)
  | 11 => (.array .int)
  | _ => (.array (.array .int))
def kT10 : u_T := fun k => match k with
  | 0 => ("ClashDay$Turns", "planner", "LClashDay$Planner;", true)
  | 1 => ("ClashDay$Turns", "facts", "[J", true)
  | _ => ("ClashDay$Turns", "stack", "[J", true)
def kY10 : Nat → FieldType := fun k => match k with
  | 0 => (.object "ClashDay$Planner")
  | 1 => (.array .long)
  | _ => (.array .long)
def kT11 : u_T := fun k => match k with
  | 0 => ("ClashDay", "tape", "LClashDay$Tape;", true)
  | 1 => ("ClashDay", "dayReader", "LClashDay$DayReader;", true)
  | 2 => ("ClashDay", "ruleReader", "LClashDay$RuleReader;", true)
  | 3 => ("ClashDay", "rules", "[LClashDay$Rule;", true)
  | 4 => ("ClashDay", "ruleCount", "I", false)
  | 5 => ("ClashDay", "scene", "LClashDay$Scene;", true)
  | 6 => ("ClashDay", "images", "[LClashDay$Scene;", true)
  | 7 => ("ClashDay", "past", "[LClashDay$Board;", true)
  | 8 => ("ClashDay", "pastCount", "I", false)
  | 9 => ("ClashDay", "drawnUp", "LClashDay$Board;", true)
  | 10 => ("ClashDay", "planner", "LClashDay$Planner;", true)
  | 11 => ("ClashDay", "turns", "LClashDay$Turns;", true)
  | 12 => ("ClashDay", "trials", "LClashDay$Trials;", true)
  | _ => ("ClashDay", "lines", "LClashDay$Lines;", true)
def kY11 : Nat → FieldType := fun k => match k with
  | 0 => (.object "ClashDay$Tape")
  | 1 => (.object "ClashDay$DayReader")
  | 2 => (.object "ClashDay$RuleReader")
  | 3 => (.array (.object "ClashDay$Rule"))
  | 4 => .int
  | 5 => (.object "ClashDay$Scene")
  | 6 => (.array (.object "ClashDay$Scene"))
  | 7 => (.array (.object "ClashDay$Board"))
  | 8 => .int
  | 9 => (.object "ClashDay$Board")
  | 10 => (.object "ClashDay$Planner")
  | 11 => (.object "ClashDay$Turns")
  | 12 => (.object "ClashDay$Trials")
  | _ => (.object "ClashDay$Lines")
def kT12 : u_T := fun k => match k with
  | 0 => ("ClashDayModel", "tape", "[B", true)
  | 1 => ("ClashDayModel", "taped", "I", false)
  | 2 => ("ClashDayModel", "rules", "I", false)
  | 3 => ("ClashDayModel", "sign", "[I", true)
  | 4 => ("ClashDayModel", "length", "[I", true)
  | 5 => ("ClashDayModel", "clause", "[I", true)
  | 6 => ("ClashDayModel", "clauses", "[I", true)
  | 7 => ("ClashDayModel", "read", "[I", true)
  | 8 => ("ClashDayModel", "next", "I", false)
  | 9 => ("ClashDayModel", "wrong", "I", false)
  | 10 => ("ClashDayModel", "number", "I", false)
  | 11 => ("ClashDayModel", "text", "I", false)
  | 12 => ("ClashDayModel", "made", "I", false)
  | 13 => ("ClashDayModel", "deep", "I", false)
  | 14 => ("ClashDayModel", "lines", "I", false)
  | 15 => ("ClashDayModel", "open", "[I", true)
  | 16 => ("ClashDayModel", "opened", "I", false)
  | 17 => ("ClashDayModel", "stack", "[J", true)
  | 18 => ("ClashDayModel", "top", "I", false)
  | 19 => ("ClashDayModel", "word", "[J", true)
  | 20 => ("ClashDayModel", "said", "[I", true)
  | 21 => ("ClashDayModel", "force", "I", false)
  | 22 => ("ClashDayModel", "x", "I", false)
  | 23 => ("ClashDayModel", "seatsFree", "[I", true)
  | 24 => ("ClashDayModel", "listed", "[I", true)
  | 25 => ("ClashDayModel", "orderNow", "[I", true)
  | 26 => ("ClashDayModel", "beginNow", "[I", true)
  | 27 => ("ClashDayModel", "planBegin", "[I", true)
  | 28 => ("ClashDayModel", "listedMany", "I", false)
  | 29 => ("ClashDayModel", "planNights", "I", false)
  | 30 => ("ClashDayModel", "planKept", "I", false)
  | 31 => ("ClashDayModel", "planEnd", "I", false)
  | 32 => ("ClashDayModel", "ordersDone", "I", false)
  | 33 => ("ClashDayModel", "nightsNow", "I", false)
  | 34 => ("ClashDayModel", "keptNow", "I", false)
  | 35 => ("ClashDayModel", "endNow", "I", false)
  | 36 => ("ClashDayModel", "wasSaid", "[I", true)
  | 37 => ("ClashDayModel", "undone", "I", false)
  | 38 => ("ClashDayModel", "spelling", "[I", true)
  | 39 => ("ClashDayModel", "long1", "[I", true)
  | 40 => ("ClashDayModel", "watcher", "[I", true)
  | 41 => ("ClashDayModel", "watcherWas", "[I", true)
  | 42 => ("ClashDayModel", "watched", "[I", true)
  | 43 => ("ClashDayModel", "kept", "[I", true)
  | 44 => ("ClashDayModel", "waiter", "[I", true)
  | 45 => ("ClashDayModel", "row", "[I", true)
  | 46 => ("ClashDayModel", "rowBest", "[I", true)
  | 47 => ("ClashDayModel", "waiters", "I", false)
  | 48 => ("ClashDayModel", "plannedMost", "I", false)
  | 49 => ("ClashDayModel", "keptLeast", "I", false)
  | 50 => ("ClashDayModel", "hasBy", "[I", true)
  | 51 => ("ClashDayModel", "isFit", "[Z", true)
  | 52 => ("ClashDayModel", "freeThen", "[I", true)
  | 53 => ("ClashDayModel", "drawX", "J", false)
  | 54 => ("ClashDayModel", "images", "[I", true)
  | 55 => ("ClashDayModel", "imageForce", "[I", true)
  | 56 => ("ClashDayModel", "imageX", "[I", true)
  | _ => ("ClashDayModel", "isMade", "[Z", true)
def kY12 : Nat → FieldType := fun k => match k with
  | 0 => (.array .byte)
  | 1 => .int
  | 2 => .int
  | 3 => (.array .int)
  | 4 => (.array .int)
  | 5 => (.array .int)
  | 6 => (.array .int)
  | 7 => (.array .int)
  | 8 => .int
  | 9 => .int
  | 10 => .int
  | 11 => .int
  | 12 => .int
  | 13 => .int
  | 14 => .int
  | 15 => (.array .int)
  | 16 => .int
  | 17 => (.array .long)
  | 18 => .int
  | 19 => (.array .long)
  | 20 => (.array .int)
  | 21 => .int
  | 22 => .int
  | 23 => (.array .int)
  | 24 => (.array .int)
  | 25 => (.array .int)
  | 26 => (.array .int)
  | 27 => (.array .int)
  | 28 => .int
  | 29 => .int
  | 30 => .int
  | 31 => .int
  | 32 => .int
  | 33 => .int
  | 34 => .int
  | 35 => .int
  | 36 => (.array .int)
  | 37 => .int
  | 38 => (.array .int)
  | 39 => (.array .int)
  | 40 => (.array .int)
  | 41 => (.array .int)
  | 42 => (.array .int)
  | 43 => (.array .int)
  | 44 => (.array .int)
  | 45 => (.array .int)
  | 46 => (.array .int)
  | 47 => .int
  | 48 => .int
  | 49 => .int
  | 50 => (.array .int)
  | 51 => (.array .boolean)
  | 52 => (.array .int)
  | 53 => .long
  | 54 => (.array .int)
  | 55 => (.array .int)
  | 56 => (.array .int)
  | _ => (.array .boolean)
def mCl : List vw_C := [("ClashDay$Board", kT0, 15), ("ClashDay$DayReader", kT1, 2), ("ClashDay$Lines", kT2, 4), ("ClashDay$Notes", kT3, 4), ("ClashDay$Planner", kT4, 13), ("ClashDay$Rule", kT5, 5), ("ClashDay$RuleReader", kT6, 2), ("ClashDay$Scene", kT7, 6), ("ClashDay$Tape", kT8, 7), ("ClashDay$Trials", kT9, 13), ("ClashDay$Turns", kT10, 3), ("ClashDay", kT11, 14), ("ClashDayModel", kT12, 58)]
def mYs : List (Nat → FieldType) := [kY0, kY1, kY2, kY3, kY4, kY5, kY6, kY7, kY8, kY9, kY10, kY11, kY12]
/-- the kind of a field: 0 int, 1 long, 2 a reference, 3 boolean -/
def mFK : List (List Nat) := [[0, 0, 0, 0, 0, 0, 2, 2, 2, 2, 2, 2, 2, 2, 2], [2, 2], [2, 2, 2, 2], [0, 2, 2, 2], [2, 2, 2, 2, 0, 0, 0, 0, 0, 0, 0, 2, 0], [2, 0, 2, 2, 0], [2, 0], [2, 2, 2, 0, 0, 3], [2, 0, 0, 0, 0, 0, 0], [2, 2, 2, 0, 0, 2, 2, 0, 0, 0, 2, 2, 2], [2, 2, 2], [2, 2, 2, 2, 0, 2, 2, 2, 0, 2, 2, 2, 2, 2], [2, 0, 0, 2, 2, 2, 2, 2, 0, 0, 0, 0, 0, 0, 0, 2, 0, 2, 0, 2, 2, 0, 0, 2, 2, 2, 2, 2, 0, 0, 0, 0, 0, 0, 0, 0, 2, 0, 2, 2, 2, 2, 2, 2, 2, 2, 2, 0, 0, 0, 2, 2, 2, 1, 2, 2, 2, 2]]
def mNames : List String := ["ClashDay$Board", "ClashDay$DayReader", "ClashDay$Lines", "ClashDay$Notes", "ClashDay$Planner", "ClashDay$Rule", "ClashDay$RuleReader", "ClashDay$Scene", "ClashDay$Tape", "ClashDay$Trials", "ClashDay$Turns", "ClashDay", "ClashDayModel", "ClashDayLaw", "java/lang/Integer", "java/lang/Math"]
abbrev mMR : Type := MethodName × ByteArray × Nat × Option FieldType × Nat × Nat × Nat × Nat
/-- a method: name, code, variables, what it returns, its class, the kind of its answer (0 none, 1 int, 2 boolean, 3 char, 4 long, 5 a reference), cells that it makes, arguments -/
def mMs0 : List mMR := [
  (⟨"ClashDayLaw", "law", "([I)Z"⟩, code, 4, ret, 13, 2, 440, 1),
  (⟨"ClashDay$Board", "<init>", "()V"⟩, prog_2_method_1_code, 1, (Option.none : Option Jvm.ClassFile.FieldType), 0, 6, 9, 1),
  (⟨"ClashDay$Board", "clear", "()V"⟩, prog_2_method_2_code, 2, (Option.none : Option Jvm.ClassFile.FieldType), 0, 0, 0, 1),
  (⟨"ClashDay$Board", "copyFrom", "(LClashDay$Board;)V"⟩, prog_2_method_3_code, 2, (Option.none : Option Jvm.ClassFile.FieldType), 0, 0, 0, 2),
  (⟨"ClashDay$Board", "addPaper", "(II)V"⟩, prog_2_method_4_code, 3, (Option.none : Option Jvm.ClassFile.FieldType), 0, 0, 0, 3),
  (⟨"ClashDay$Board", "addCandidate", "(III)V"⟩, prog_2_method_5_code, 4, (Option.none : Option Jvm.ClassFile.FieldType), 0, 0, 0, 4),
  (⟨"ClashDay$Board", "isDay", "()Z"⟩, prog_2_method_6_code, 1, (Option.some Jvm.ClassFile.FieldType.boolean), 0, 2, 0, 1),
  (⟨"ClashDay$Board", "hasPaper", "(I)Z"⟩, prog_2_method_7_code, 2, (Option.some Jvm.ClassFile.FieldType.boolean), 0, 2, 0, 2),
  (⟨"ClashDay$Board", "hasCandidate", "(I)Z"⟩, prog_2_method_8_code, 2, (Option.some Jvm.ClassFile.FieldType.boolean), 0, 2, 0, 2),
  (⟨"ClashDay$Board", "isPlanned", "(I)Z"⟩, prog_2_method_9_code, 2, (Option.some Jvm.ClassFile.FieldType.boolean), 0, 2, 0, 2),
  (⟨"ClashDay$Board", "waits", "(I)Z"⟩, prog_2_method_10_code, 2, (Option.some Jvm.ClassFile.FieldType.boolean), 0, 2, 0, 2),
  (⟨"ClashDay$Board", "waiting", "()I"⟩, prog_2_method_11_code, 1, (Option.some Jvm.ClassFile.FieldType.int), 0, 1, 0, 1),
  (⟨"ClashDay$Board", "sitsIn", "(II)Z"⟩, prog_2_method_12_code, 3, (Option.some Jvm.ClassFile.FieldType.boolean), 0, 2, 0, 3),
  (⟨"ClashDay$Board", "sittersOf", "(I)I"⟩, prog_2_method_13_code, 4, (Option.some Jvm.ClassFile.FieldType.int), 0, 1, 0, 2),
  (⟨"ClashDay$Board", "timeOf", "(II)I"⟩, prog_2_method_14_code, 3, (Option.some Jvm.ClassFile.FieldType.int), 0, 1, 0, 3),
  (⟨"ClashDay$Board", "workOf", "(I)I"⟩, prog_2_method_15_code, 4, (Option.some Jvm.ClassFile.FieldType.int), 0, 1, 0, 2)]
def mMs1 : List mMR := [
  (⟨"ClashDay$Board", "beginOf", "(II)I"⟩, prog_2_method_16_code, 3, (Option.some Jvm.ClassFile.FieldType.int), 0, 1, 0, 3),
  (⟨"ClashDay$Board", "freeSeats", "(I)I"⟩, prog_2_method_17_code, 4, (Option.some Jvm.ClassFile.FieldType.int), 0, 1, 0, 2),
  (⟨"ClashDay$Board", "openSlots", "()I"⟩, prog_2_method_18_code, 5, (Option.some Jvm.ClassFile.FieldType.int), 0, 1, 0, 1),
  (⟨"ClashDay$Board", "busiest", "()I"⟩, prog_2_method_19_code, 3, (Option.some Jvm.ClassFile.FieldType.int), 0, 1, 0, 1),
  (⟨"ClashDay$Board", "keptIn", "(II)Z"⟩, prog_2_method_20_code, 3, (Option.some Jvm.ClassFile.FieldType.boolean), 0, 2, 0, 3),
  (⟨"ClashDay$Board", "keptOf", "(I)I"⟩, prog_2_method_21_code, 2, (Option.some Jvm.ClassFile.FieldType.int), 0, 1, 0, 2),
  (⟨"ClashDay$Board", "keptOfAll", "()I"⟩, prog_2_method_22_code, 3, (Option.some Jvm.ClassFile.FieldType.int), 0, 1, 0, 1),
  (⟨"ClashDay$Board", "adopt", "(ILClashDay$Planner;)V"⟩, prog_2_method_23_code, 3, (Option.none : Option Jvm.ClassFile.FieldType), 0, 0, 0, 3),
  (⟨"ClashDay$Board", "release", "(I)V"⟩, prog_2_method_24_code, 2, (Option.none : Option Jvm.ClassFile.FieldType), 0, 0, 0, 2),
  (⟨"ClashDay$Board", "canBeLater", "(I)Z"⟩, prog_2_method_25_code, 2, (Option.some Jvm.ClassFile.FieldType.boolean), 0, 2, 0, 2),
  (⟨"ClashDay$Board", "postpone", "(II)V"⟩, prog_2_method_26_code, 4, (Option.none : Option Jvm.ClassFile.FieldType), 0, 0, 0, 3),
  (⟨"ClashDay$Board", "watchersIn", "(II)I"⟩, prog_2_method_27_code, 5, (Option.some Jvm.ClassFile.FieldType.int), 0, 1, 0, 3),
  (⟨"ClashDay$Board", "mostKeptSlot", "(I)I"⟩, prog_2_method_28_code, 4, (Option.some Jvm.ClassFile.FieldType.int), 0, 1, 0, 2),
  (⟨"ClashDay$Board", "mustNotMeet", "(II)I"⟩, prog_2_method_29_code, 5, (Option.some Jvm.ClassFile.FieldType.int), 0, 1, 0, 3),
  (⟨"ClashDay$Board", "shareOf", "(II)I"⟩, prog_2_method_30_code, 9, (Option.some Jvm.ClassFile.FieldType.int), 0, 1, 0, 3),
  (⟨"ClashDay$Board", "from", "(I)I"⟩, prog_2_method_31_code, 1, (Option.some Jvm.ClassFile.FieldType.int), 0, 1, 0, 1)]
def mMs2 : List mMR := [
  (⟨"ClashDay$Board", "span", "(II)I"⟩, prog_2_method_32_code, 2, (Option.some Jvm.ClassFile.FieldType.int), 0, 1, 0, 2),
  (⟨"ClashDay$DayReader", "<init>", "(LClashDay$Tape;)V"⟩, prog_3_method_1_code, 2, (Option.none : Option Jvm.ClassFile.FieldType), 1, 6, 1, 2),
  (⟨"ClashDay$DayReader", "read", "(LClashDay$Board;)I"⟩, prog_3_method_2_code, 3, (Option.some Jvm.ClassFile.FieldType.int), 1, 1, 0, 2),
  (⟨"ClashDay$DayReader", "readClause", "(LClashDay$Board;I)Z"⟩, prog_3_method_3_code, 5, (Option.some Jvm.ClassFile.FieldType.boolean), 1, 2, 0, 3),
  (⟨"ClashDay$DayReader", "readDay", "(LClashDay$Board;)Z"⟩, prog_3_method_4_code, 2, (Option.some Jvm.ClassFile.FieldType.boolean), 1, 2, 0, 2),
  (⟨"ClashDay$DayReader", "readPaper", "(LClashDay$Board;)Z"⟩, prog_3_method_5_code, 2, (Option.some Jvm.ClassFile.FieldType.boolean), 1, 2, 0, 2),
  (⟨"ClashDay$DayReader", "readCandidate", "(LClashDay$Board;)Z"⟩, prog_3_method_6_code, 3, (Option.some Jvm.ClassFile.FieldType.boolean), 1, 2, 0, 2),
  (⟨"ClashDay$DayReader", "readTaken", "(LClashDay$Board;)Z"⟩, prog_3_method_7_code, 2, (Option.some Jvm.ClassFile.FieldType.boolean), 1, 2, 0, 2),
  (⟨"ClashDay$DayReader", "readNumber", "(III)Z"⟩, prog_3_method_8_code, 5, (Option.some Jvm.ClassFile.FieldType.boolean), 1, 2, 0, 4),
  (⟨"ClashDay$Lines", "<init>", "()V"⟩, prog_4_method_1_code, 1, (Option.none : Option Jvm.ClassFile.FieldType), 2, 6, 6, 1),
  (⟨"ClashDay$Lines", "sign", "(LClashDay$Board;II)C"⟩, prog_4_method_2_code, 5, (Option.some Jvm.ClassFile.FieldType.char), 2, 3, 0, 3),
  (⟨"ClashDay$Lines", "spell", "(LClashDay$Board;II)V"⟩, prog_4_method_3_code, 7, (Option.none : Option Jvm.ClassFile.FieldType), 2, 0, 0, 4),
  (⟨"ClashDay$Lines", "spellRun", "(IIC)V"⟩, prog_4_method_4_code, 4, (Option.none : Option Jvm.ClassFile.FieldType), 2, 0, 0, 4),
  (⟨"ClashDay$Lines", "put", "(IC)V"⟩, prog_4_method_5_code, 3, (Option.none : Option Jvm.ClassFile.FieldType), 2, 0, 0, 3),
  (⟨"ClashDay$Lines", "inCommon", "()I"⟩, prog_4_method_6_code, 3, (Option.some Jvm.ClassFile.FieldType.int), 2, 1, 0, 1),
  (⟨"ClashDay$Lines", "whichAhead", "()I"⟩, prog_4_method_7_code, 2, (Option.some Jvm.ClassFile.FieldType.int), 2, 1, 0, 1)]
def mMs3 : List mMR := [
  (⟨"ClashDay$Lines", "watcherOf", "(LClashDay$Board;III)I"⟩, prog_4_method_8_code, 6, (Option.some Jvm.ClassFile.FieldType.int), 2, 1, 0, 5),
  (⟨"ClashDay$Lines", "watchSlot", "(LClashDay$Board;II)V"⟩, prog_4_method_9_code, 5, (Option.none : Option Jvm.ClassFile.FieldType), 2, 0, 0, 4),
  (⟨"ClashDay$Lines", "wasKept", "(LClashDay$Board;II)Z"⟩, prog_4_method_10_code, 3, (Option.some Jvm.ClassFile.FieldType.boolean), 2, 2, 0, 3),
  (⟨"ClashDay$Lines", "leastThatCan", "(I)I"⟩, prog_4_method_11_code, 3, (Option.some Jvm.ClassFile.FieldType.int), 2, 1, 0, 2),
  (⟨"ClashDay$Notes", "<init>", "()V"⟩, prog_5_method_1_code, 1, (Option.none : Option Jvm.ClassFile.FieldType), 3, 6, 3, 1),
  (⟨"ClashDay$Notes", "copyFrom", "(LClashDay$Notes;)V"⟩, prog_5_method_2_code, 2, (Option.none : Option Jvm.ClassFile.FieldType), 3, 0, 0, 2),
  (⟨"ClashDay$Notes", "isFull", "()Z"⟩, prog_5_method_3_code, 1, (Option.some Jvm.ClassFile.FieldType.boolean), 3, 2, 0, 1),
  (⟨"ClashDay$Notes", "append", "(III)V"⟩, prog_5_method_4_code, 4, (Option.none : Option Jvm.ClassFile.FieldType), 3, 0, 0, 4),
  (⟨"ClashDay$Notes", "lastTurn", "()I"⟩, prog_5_method_5_code, 3, (Option.some Jvm.ClassFile.FieldType.int), 3, 1, 0, 1),
  (⟨"ClashDay$Notes", "agreeWith", "(LClashDay$Board;I)Z"⟩, prog_5_method_6_code, 4, (Option.some Jvm.ClassFile.FieldType.boolean), 3, 2, 0, 3),
  (⟨"ClashDay$Planner", "<init>", "()V"⟩, prog_6_method_1_code, 1, (Option.none : Option Jvm.ClassFile.FieldType), 4, 6, 5, 1),
  (⟨"ClashDay$Planner", "finds", "(LClashDay$Board;II)Z"⟩, prog_6_method_2_code, 4, (Option.some Jvm.ClassFile.FieldType.boolean), 4, 2, 0, 4),
  (⟨"ClashDay$Planner", "settles", "(LClashDay$Board;I)Z"⟩, prog_6_method_3_code, 3, (Option.some Jvm.ClassFile.FieldType.boolean), 4, 2, 0, 3),
  (⟨"ClashDay$Planner", "leastClash", "(LClashDay$Board;I)I"⟩, prog_6_method_4_code, 7, (Option.some Jvm.ClassFile.FieldType.int), 4, 1, 0, 3),
  (⟨"ClashDay$Planner", "prepare", "(LClashDay$Board;II)V"⟩, prog_6_method_5_code, 7, (Option.none : Option Jvm.ClassFile.FieldType), 4, 0, 0, 4),
  (⟨"ClashDay$Planner", "runs", "(II)I"⟩, prog_6_method_6_code, 4, (Option.some Jvm.ClassFile.FieldType.int), 4, 1, 0, 2)]
def mMs4 : List mMR := [
  (⟨"ClashDay$Planner", "follow", "(IIIII)V"⟩, prog_6_method_7_code, 9, (Option.none : Option Jvm.ClassFile.FieldType), 4, 0, 0, 6),
  (⟨"ClashDay$Planner", "leastSlot", "(III)I"⟩, prog_6_method_8_code, 6, (Option.some Jvm.ClassFile.FieldType.int), 4, 1, 0, 4),
  (⟨"ClashDay$Planner", "weigh", "(III)V"⟩, prog_6_method_9_code, 6, (Option.none : Option Jvm.ClassFile.FieldType), 4, 0, 0, 4),
  (⟨"ClashDay$Rule", "<init>", "()V"⟩, prog_7_method_1_code, 1, (Option.none : Option Jvm.ClassFile.FieldType), 5, 6, 3, 1),
  (⟨"ClashDay$Rule", "comparison", "(I)I"⟩, prog_7_method_2_code, 1, (Option.some Jvm.ClassFile.FieldType.int), 5, 1, 0, 1),
  (⟨"ClashDay$Rule", "timesLike", "(I)I"⟩, prog_7_method_3_code, 1, (Option.some Jvm.ClassFile.FieldType.int), 5, 1, 0, 1),
  (⟨"ClashDay$Rule", "plusLike", "(I)I"⟩, prog_7_method_4_code, 1, (Option.some Jvm.ClassFile.FieldType.int), 5, 1, 0, 1),
  (⟨"ClashDay$Rule", "clear", "()V"⟩, prog_7_method_5_code, 1, (Option.none : Option Jvm.ClassFile.FieldType), 5, 0, 0, 1),
  (⟨"ClashDay$Rule", "emit", "(I)V"⟩, prog_7_method_6_code, 2, (Option.none : Option Jvm.ClassFile.FieldType), 5, 0, 0, 2),
  (⟨"ClashDay$Rule", "closeClause", "(I)V"⟩, prog_7_method_7_code, 2, (Option.none : Option Jvm.ClassFile.FieldType), 5, 0, 0, 2),
  (⟨"ClashDay$Rule", "worth", "([J[J)J"⟩, prog_7_method_8_code, 6, (Option.some Jvm.ClassFile.FieldType.long), 5, 4, 0, 3),
  (⟨"ClashDay$Rule", "valueOf", "(II[J[J)J"⟩, prog_7_method_9_code, 8, (Option.some Jvm.ClassFile.FieldType.long), 5, 4, 0, 5),
  (⟨"ClashDay$Rule", "joined", "(IJJ)J"⟩, prog_7_method_10_code, 5, (Option.some Jvm.ClassFile.FieldType.long), 5, 4, 0, 3),
  (⟨"ClashDay$RuleReader", "<init>", "(LClashDay$Tape;)V"⟩, prog_8_method_1_code, 2, (Option.none : Option Jvm.ClassFile.FieldType), 6, 6, 0, 2),
  (⟨"ClashDay$RuleReader", "read", "(LClashDay$Rule;)I"⟩, prog_8_method_2_code, 3, (Option.some Jvm.ClassFile.FieldType.int), 6, 1, 0, 2),
  (⟨"ClashDay$RuleReader", "readClause", "(LClashDay$Rule;I)Z"⟩, prog_8_method_3_code, 4, (Option.some Jvm.ClassFile.FieldType.boolean), 6, 2, 0, 3)]
def mMs5 : List mMR := [
  (⟨"ClashDay$RuleReader", "readTest", "(LClashDay$Rule;I)Z"⟩, prog_8_method_4_code, 6, (Option.some Jvm.ClassFile.FieldType.boolean), 6, 2, 0, 3),
  (⟨"ClashDay$RuleReader", "readFact", "(LClashDay$Rule;I)Z"⟩, prog_8_method_5_code, 6, (Option.some Jvm.ClassFile.FieldType.boolean), 6, 2, 0, 3),
  (⟨"ClashDay$RuleReader", "readSum", "(LClashDay$Rule;)Z"⟩, prog_8_method_6_code, 5, (Option.some Jvm.ClassFile.FieldType.boolean), 6, 2, 0, 2),
  (⟨"ClashDay$RuleReader", "readValue", "(LClashDay$Rule;)Z"⟩, prog_8_method_7_code, 5, (Option.some Jvm.ClassFile.FieldType.boolean), 6, 2, 0, 2),
  (⟨"ClashDay$Scene", "<init>", "()V"⟩, prog_9_method_1_code, 1, (Option.none : Option Jvm.ClassFile.FieldType), 7, 6, 24, 1),
  (⟨"ClashDay$Scene", "copyFrom", "(LClashDay$Scene;)V"⟩, prog_9_method_2_code, 2, (Option.none : Option Jvm.ClassFile.FieldType), 7, 0, 0, 2),
  (⟨"ClashDay$Tape", "<init>", "()V"⟩, prog_10_method_1_code, 1, (Option.none : Option Jvm.ClassFile.FieldType), 8, 6, 1, 1),
  (⟨"ClashDay$Tape", "hasRoom", "(I)Z"⟩, prog_10_method_2_code, 2, (Option.some Jvm.ClassFile.FieldType.boolean), 8, 2, 0, 2),
  (⟨"ClashDay$Tape", "append", "(I)V"⟩, prog_10_method_3_code, 3, (Option.none : Option Jvm.ClassFile.FieldType), 8, 0, 0, 2),
  (⟨"ClashDay$Tape", "rewind", "()V"⟩, prog_10_method_4_code, 1, (Option.none : Option Jvm.ClassFile.FieldType), 8, 0, 0, 1),
  (⟨"ClashDay$Tape", "scan", "()V"⟩, prog_10_method_5_code, 2, (Option.none : Option Jvm.ClassFile.FieldType), 8, 0, 0, 1),
  (⟨"ClashDay$Tape", "wordNumber", "()I"⟩, prog_10_method_6_code, 7, (Option.some Jvm.ClassFile.FieldType.int), 8, 1, 0, 1),
  (⟨"ClashDay$Tape", "isWord", "(I)Z"⟩, prog_10_method_7_code, 2, (Option.some Jvm.ClassFile.FieldType.boolean), 8, 2, 0, 2),
  (⟨"ClashDay$Tape", "goesOn", "()Z"⟩, prog_10_method_8_code, 1, (Option.some Jvm.ClassFile.FieldType.boolean), 8, 2, 0, 1),
  (⟨"ClashDay$Tape", "fail", "(I)Z"⟩, prog_10_method_9_code, 2, (Option.some Jvm.ClassFile.FieldType.boolean), 8, 2, 0, 2),
  (⟨"ClashDay$Tape", "numberFault", "(II)I"⟩, prog_10_method_10_code, 4, (Option.some Jvm.ClassFile.FieldType.int), 8, 1, 0, 3)]
def mMs6 : List mMR := [
  (⟨"ClashDay$Trials", "<init>", "(LClashDay$Planner;LClashDay$Turns;)V"⟩, prog_11_method_1_code, 3, (Option.none : Option Jvm.ClassFile.FieldType), 9, 6, 22, 3),
  (⟨"ClashDay$Trials", "rankRows", "(LClashDay$Board;)V"⟩, prog_11_method_2_code, 4, (Option.none : Option Jvm.ClassFile.FieldType), 9, 0, 0, 2),
  (⟨"ClashDay$Trials", "goOnWithRow", "(IIII)V"⟩, prog_11_method_3_code, 7, (Option.none : Option Jvm.ClassFile.FieldType), 9, 0, 0, 5),
  (⟨"ClashDay$Trials", "worstDelay", "(LClashDay$Board;I)I"⟩, prog_11_method_4_code, 7, (Option.some Jvm.ClassFile.FieldType.int), 9, 1, 0, 3),
  (⟨"ClashDay$Trials", "harmed", "(LClashDay$Board;II)I"⟩, prog_11_method_5_code, 6, (Option.some Jvm.ClassFile.FieldType.int), 9, 1, 0, 4),
  (⟨"ClashDay$Trials", "behind", "(LClashDay$Board;LClashDay$Rule;I)LClashDay$Board;"⟩, prog_11_method_6_code, 5, (Option.some (Jvm.ClassFile.FieldType.object "ClashDay$Board")), 9, 5, 0, 4),
  (⟨"ClashDay$Trials", "turnOf", "(LClashDay$Board;LClashDay$Rule;I)I"⟩, prog_11_method_7_code, 6, (Option.some Jvm.ClassFile.FieldType.int), 9, 1, 0, 4),
  (⟨"ClashDay$Trials", "extrasAsNoted", "(LClashDay$Scene;LClashDay$Rule;I)I"⟩, prog_11_method_8_code, 6, (Option.some Jvm.ClassFile.FieldType.int), 9, 1, 0, 4),
  (⟨"ClashDay$Trials", "restsAsNoted", "(LClashDay$Scene;LClashDay$Rule;I)I"⟩, prog_11_method_9_code, 6, (Option.some Jvm.ClassFile.FieldType.int), 9, 1, 0, 4),
  (⟨"ClashDay$Trials", "rulesAsNoted", "(LClashDay$Scene;[LClashDay$Rule;I)I"⟩, prog_11_method_10_code, 6, (Option.some Jvm.ClassFile.FieldType.int), 9, 1, 0, 4),
  (⟨"ClashDay$Trials", "isAsNoted", "(LClashDay$Notes;LClashDay$Rule;)Z"⟩, prog_11_method_11_code, 5, (Option.some Jvm.ClassFile.FieldType.boolean), 9, 2, 0, 3),
  (⟨"ClashDay$Trials", "foresee", "(LClashDay$Board;[LClashDay$Rule;II)V"⟩, prog_11_method_12_code, 7, (Option.none : Option Jvm.ClassFile.FieldType), 9, 0, 0, 5),
  (⟨"ClashDay$Trials", "slotThatParts", "(I)I"⟩, prog_11_method_13_code, 4, (Option.some Jvm.ClassFile.FieldType.int), 9, 1, 0, 2),
  (⟨"ClashDay$Trials", "mostAlike", "(II)I"⟩, prog_11_method_14_code, 8, (Option.some Jvm.ClassFile.FieldType.int), 9, 1, 0, 3),
  (⟨"ClashDay$Trials", "settledTwos", "(LClashDay$Board;II)I"⟩, prog_11_method_15_code, 6, (Option.some Jvm.ClassFile.FieldType.int), 9, 1, 0, 4),
  (⟨"ClashDay$Trials", "gainOf", "(I)I"⟩, prog_11_method_16_code, 2, (Option.some Jvm.ClassFile.FieldType.int), 9, 1, 0, 2)]
def mMs7 : List mMR := [
  (⟨"ClashDay$Trials", "isSettled", "(I)Z"⟩, prog_11_method_17_code, 5, (Option.some Jvm.ClassFile.FieldType.boolean), 9, 2, 0, 2),
  (⟨"ClashDay$Trials", "fallIll", "(LClashDay$Scene;LClashDay$Rule;III)V"⟩, prog_11_method_18_code, 8, (Option.none : Option Jvm.ClassFile.FieldType), 9, 0, 0, 6),
  (⟨"ClashDay$Trials", "drawIllness", "(I)V"⟩, prog_11_method_19_code, 2, (Option.none : Option Jvm.ClassFile.FieldType), 9, 0, 0, 2),
  (⟨"ClashDay$Trials", "nextDraw", "()I"⟩, prog_11_method_20_code, 1, (Option.some Jvm.ClassFile.FieldType.int), 9, 1, 0, 1),
  (⟨"ClashDay$Turns", "<init>", "(LClashDay$Planner;)V"⟩, prog_12_method_1_code, 2, (Option.none : Option Jvm.ClassFile.FieldType), 10, 6, 2, 2),
  (⟨"ClashDay$Turns", "step", "(LClashDay$Board;LClashDay$Rule;)I"⟩, prog_12_method_2_code, 4, (Option.some Jvm.ClassFile.FieldType.int), 10, 1, 0, 3),
  (⟨"ClashDay$Turns", "leastThatCan", "(LClashDay$Board;)I"⟩, prog_12_method_3_code, 3, (Option.some Jvm.ClassFile.FieldType.int), 10, 1, 0, 2),
  (⟨"ClashDay$Turns", "dearest", "(LClashDay$Board;LClashDay$Rule;)I"⟩, prog_12_method_4_code, 9, (Option.some Jvm.ClassFile.FieldType.int), 10, 1, 0, 3),
  (⟨"ClashDay$Turns", "gatherFacts", "(LClashDay$Board;I)V"⟩, prog_12_method_5_code, 3, (Option.none : Option Jvm.ClassFile.FieldType), 10, 0, 0, 3),
  (⟨"ClashDay", "<init>", "()V"⟩, prog_1_method_1_code, 2, (Option.none : Option Jvm.ClassFile.FieldType), 11, 6, 406, 1),
  (⟨"ClashDay", "feed", "(IIIII)I"⟩, prog_1_method_2_code, 6, (Option.some Jvm.ClassFile.FieldType.int), 11, 1, 0, 6),
  (⟨"ClashDay", "end", "(I)I"⟩, prog_1_method_3_code, 2, (Option.some Jvm.ClassFile.FieldType.int), 11, 1, 0, 2),
  (⟨"ClashDay", "day", "()I"⟩, prog_1_method_4_code, 2, (Option.some Jvm.ClassFile.FieldType.int), 11, 1, 0, 1),
  (⟨"ClashDay", "rule", "()I"⟩, prog_1_method_5_code, 2, (Option.some Jvm.ClassFile.FieldType.int), 11, 1, 0, 1),
  (⟨"ClashDay", "force", "(I)I"⟩, prog_1_method_6_code, 3, (Option.some Jvm.ClassFile.FieldType.int), 11, 1, 0, 2),
  (⟨"ClashDay", "paper", "(II)I"⟩, prog_1_method_7_code, 4, (Option.some Jvm.ClassFile.FieldType.int), 11, 1, 0, 3)]
def mMs8 : List mMR := [
  (⟨"ClashDay", "candidate", "(II)I"⟩, prog_1_method_8_code, 4, (Option.some Jvm.ClassFile.FieldType.int), 11, 1, 0, 3),
  (⟨"ClashDay", "free", "(I)I"⟩, prog_1_method_9_code, 2, (Option.some Jvm.ClassFile.FieldType.int), 11, 1, 0, 2),
  (⟨"ClashDay", "time", "(II)I"⟩, prog_1_method_10_code, 4, (Option.some Jvm.ClassFile.FieldType.int), 11, 1, 0, 3),
  (⟨"ClashDay", "turn", "()I"⟩, prog_1_method_11_code, 1, (Option.some Jvm.ClassFile.FieldType.int), 11, 1, 0, 1),
  (⟨"ClashDay", "plan", "(I)I"⟩, prog_1_method_12_code, 3, (Option.some Jvm.ClassFile.FieldType.int), 11, 1, 0, 2),
  (⟨"ClashDay", "drop", "(I)I"⟩, prog_1_method_13_code, 2, (Option.some Jvm.ClassFile.FieldType.int), 11, 1, 0, 2),
  (⟨"ClashDay", "delay", "(II)I"⟩, prog_1_method_14_code, 4, (Option.some Jvm.ClassFile.FieldType.int), 11, 1, 0, 3),
  (⟨"ClashDay", "take", "(II)I"⟩, prog_1_method_15_code, 5, (Option.some Jvm.ClassFile.FieldType.int), 11, 1, 0, 3),
  (⟨"ClashDay", "undo", "()I"⟩, prog_1_method_16_code, 1, (Option.some Jvm.ClassFile.FieldType.int), 11, 1, 0, 1),
  (⟨"ClashDay", "begins", "(II)I"⟩, prog_1_method_17_code, 4, (Option.some Jvm.ClassFile.FieldType.int), 11, 1, 0, 3),
  (⟨"ClashDay", "could", "(II)I"⟩, prog_1_method_18_code, 4, (Option.some Jvm.ClassFile.FieldType.int), 11, 1, 0, 3),
  (⟨"ClashDay", "orders", "(I)I"⟩, prog_1_method_19_code, 3, (Option.some Jvm.ClassFile.FieldType.int), 11, 1, 0, 2),
  (⟨"ClashDay", "clash", "(II)I"⟩, prog_1_method_20_code, 5, (Option.some Jvm.ClassFile.FieldType.int), 11, 1, 0, 3),
  (⟨"ClashDay", "line", "(II)I"⟩, prog_1_method_21_code, 3, (Option.some Jvm.ClassFile.FieldType.int), 11, 1, 0, 3),
  (⟨"ClashDay", "spelt", "(II)I"⟩, prog_1_method_22_code, 3, (Option.some Jvm.ClassFile.FieldType.int), 11, 1, 0, 3),
  (⟨"ClashDay", "first", "(III)I"⟩, prog_1_method_23_code, 6, (Option.some Jvm.ClassFile.FieldType.int), 11, 1, 0, 4)]
def mMs9 : List mMR := [
  (⟨"ClashDay", "watchers", "(II)I"⟩, prog_1_method_24_code, 4, (Option.some Jvm.ClassFile.FieldType.int), 11, 1, 0, 3),
  (⟨"ClashDay", "chain", "(III)I"⟩, prog_1_method_25_code, 5, (Option.some Jvm.ClassFile.FieldType.int), 11, 1, 0, 4),
  (⟨"ClashDay", "apart", "(II)I"⟩, prog_1_method_26_code, 4, (Option.some Jvm.ClassFile.FieldType.int), 11, 1, 0, 3),
  (⟨"ClashDay", "best", "(I)I"⟩, prog_1_method_27_code, 2, (Option.some Jvm.ClassFile.FieldType.int), 11, 1, 0, 2),
  (⟨"ClashDay", "harm", "(II)I"⟩, prog_1_method_28_code, 4, (Option.some Jvm.ClassFile.FieldType.int), 11, 1, 0, 3),
  (⟨"ClashDay", "ahead", "(II)I"⟩, prog_1_method_29_code, 4, (Option.some Jvm.ClassFile.FieldType.int), 11, 1, 0, 3),
  (⟨"ClashDay", "when", "(I)I"⟩, prog_1_method_30_code, 2, (Option.some Jvm.ClassFile.FieldType.int), 11, 1, 0, 2),
  (⟨"ClashDay", "extras", "(II)I"⟩, prog_1_method_31_code, 4, (Option.some Jvm.ClassFile.FieldType.int), 11, 1, 0, 3),
  (⟨"ClashDay", "resting", "(I)I"⟩, prog_1_method_32_code, 2, (Option.some Jvm.ClassFile.FieldType.int), 11, 1, 0, 2),
  (⟨"ClashDay", "rests", "(III)I"⟩, prog_1_method_33_code, 7, (Option.some Jvm.ClassFile.FieldType.int), 11, 1, 0, 4),
  (⟨"ClashDay", "pence", "(II)I"⟩, prog_1_method_34_code, 4, (Option.some Jvm.ClassFile.FieldType.int), 11, 1, 0, 3),
  (⟨"ClashDay", "note", "(III)I"⟩, prog_1_method_35_code, 6, (Option.some Jvm.ClassFile.FieldType.int), 11, 1, 0, 4),
  (⟨"ClashDay", "ruled", "(I)I"⟩, prog_1_method_36_code, 3, (Option.some Jvm.ClassFile.FieldType.int), 11, 1, 0, 2),
  (⟨"ClashDay", "look", "(II)I"⟩, prog_1_method_37_code, 5, (Option.some Jvm.ClassFile.FieldType.int), 11, 1, 0, 3),
  (⟨"ClashDay", "seed", "(I)I"⟩, prog_1_method_38_code, 3, (Option.some Jvm.ClassFile.FieldType.int), 11, 1, 0, 2),
  (⟨"ClashDay", "ill", "(IIII)I"⟩, prog_1_method_39_code, 5, (Option.some Jvm.ClassFile.FieldType.int), 11, 1, 0, 5)]
def mMs10 : List mMR := [
  (⟨"ClashDay", "count", "(I)I"⟩, prog_1_method_40_code, 3, (Option.some Jvm.ClassFile.FieldType.int), 11, 1, 0, 2),
  (⟨"ClashDay", "image", "(I)I"⟩, prog_1_method_41_code, 2, (Option.some Jvm.ClassFile.FieldType.int), 11, 1, 0, 2),
  (⟨"ClashDay", "back", "(I)I"⟩, prog_1_method_42_code, 2, (Option.some Jvm.ClassFile.FieldType.int), 11, 1, 0, 2),
  (⟨"ClashDay", "isSlot", "(I)Z"⟩, prog_1_method_43_code, 1, (Option.some Jvm.ClassFile.FieldType.boolean), 11, 2, 0, 1),
  (⟨"ClashDay", "ruleInForce", "()LClashDay$Rule;"⟩, prog_1_method_44_code, 2, (Option.some (Jvm.ClassFile.FieldType.object "ClashDay$Rule")), 11, 5, 0, 1),
  (⟨"ClashDay", "remember", "()V"⟩, prog_1_method_45_code, 3, (Option.none : Option Jvm.ClassFile.FieldType), 11, 0, 0, 1),
  (⟨"ClashDayModel", "<init>", "()V"⟩, prog_14_method_1_code, 1, (Option.none : Option Jvm.ClassFile.FieldType), 12, 6, 32, 1),
  (⟨"ClashDayModel", "in", "(JJJ)Z"⟩, prog_14_method_2_code, 6, (Option.some Jvm.ClassFile.FieldType.boolean), 12, 2, 0, 3),
  (⟨"ClashDayModel", "isOf", "(II)Z"⟩, prog_14_method_3_code, 2, (Option.some Jvm.ClassFile.FieldType.boolean), 12, 2, 0, 2),
  (⟨"ClashDayModel", "bits", "(I)I"⟩, prog_14_method_4_code, 3, (Option.some Jvm.ClassFile.FieldType.int), 12, 1, 0, 1),
  (⟨"ClashDayModel", "four", "(I)V"⟩, prog_14_method_5_code, 3, (Option.none : Option Jvm.ClassFile.FieldType), 12, 0, 0, 2),
  (⟨"ClashDayModel", "feed", "(IIIII)I"⟩, prog_14_method_6_code, 6, (Option.some Jvm.ClassFile.FieldType.int), 12, 1, 0, 6),
  (⟨"ClashDayModel", "end", "(I)I"⟩, prog_14_method_7_code, 2, (Option.some Jvm.ClassFile.FieldType.int), 12, 1, 0, 2),
  (⟨"ClashDayModel", "fails", "(II)Z"⟩, prog_14_method_8_code, 3, (Option.some Jvm.ClassFile.FieldType.boolean), 12, 2, 0, 3),
  (⟨"ClashDayModel", "see", "()I"⟩, prog_14_method_9_code, 1, (Option.some Jvm.ClassFile.FieldType.int), 12, 1, 0, 1),
  (⟨"ClashDayModel", "isDigit", "(I)Z"⟩, prog_14_method_10_code, 2, (Option.some Jvm.ClassFile.FieldType.boolean), 12, 2, 0, 2)]
def mMs11 : List mMR := [
  (⟨"ClashDayModel", "isLetter", "(I)Z"⟩, prog_14_method_11_code, 2, (Option.some Jvm.ClassFile.FieldType.boolean), 12, 2, 0, 2),
  (⟨"ClashDayModel", "isWord", "(J)Z"⟩, prog_14_method_12_code, 6, (Option.some Jvm.ClassFile.FieldType.boolean), 12, 2, 0, 2),
  (⟨"ClashDayModel", "passWord", "()V"⟩, prog_14_method_13_code, 1, (Option.none : Option Jvm.ClassFile.FieldType), 12, 0, 0, 1),
  (⟨"ClashDayModel", "takesWord", "(J)Z"⟩, prog_14_method_14_code, 3, (Option.some Jvm.ClassFile.FieldType.boolean), 12, 2, 0, 2),
  (⟨"ClashDayModel", "numberHere", "(II)Z"⟩, prog_14_method_15_code, 5, (Option.some Jvm.ClassFile.FieldType.boolean), 12, 2, 0, 3),
  (⟨"ClashDayModel", "wordHere", "()I"⟩, prog_14_method_16_code, 1, (Option.some Jvm.ClassFile.FieldType.int), 12, 1, 0, 1),
  (⟨"ClashDayModel", "puts", "(II)V"⟩, prog_14_method_17_code, 3, (Option.none : Option Jvm.ClassFile.FieldType), 12, 0, 0, 3),
  (⟨"ClashDayModel", "makes", "(I)Z"⟩, prog_14_method_18_code, 2, (Option.some Jvm.ClassFile.FieldType.boolean), 12, 2, 0, 2),
  (⟨"ClashDayModel", "opens", "(I)Z"⟩, prog_14_method_19_code, 2, (Option.some Jvm.ClassFile.FieldType.boolean), 12, 2, 0, 2),
  (⟨"ClashDayModel", "strength", "(I)I"⟩, prog_14_method_20_code, 1, (Option.some Jvm.ClassFile.FieldType.int), 12, 1, 0, 1),
  (⟨"ClashDayModel", "layDown", "(I)V"⟩, prog_14_method_21_code, 2, (Option.none : Option Jvm.ClassFile.FieldType), 12, 0, 0, 2),
  (⟨"ClashDayModel", "value", "()Z"⟩, prog_14_method_22_code, 3, (Option.some Jvm.ClassFile.FieldType.boolean), 12, 2, 0, 1),
  (⟨"ClashDayModel", "term", "()Z"⟩, prog_14_method_23_code, 2, (Option.some Jvm.ClassFile.FieldType.boolean), 12, 2, 0, 1),
  (⟨"ClashDayModel", "sum", "()Z"⟩, prog_14_method_24_code, 2, (Option.some Jvm.ClassFile.FieldType.boolean), 12, 2, 0, 1),
  (⟨"ClashDayModel", "compare", "()Z"⟩, prog_14_method_25_code, 5, (Option.some Jvm.ClassFile.FieldType.boolean), 12, 2, 0, 1),
  (⟨"ClashDayModel", "fact", "()Z"⟩, prog_14_method_26_code, 3, (Option.some Jvm.ClassFile.FieldType.boolean), 12, 2, 0, 1)]
def mMs12 : List mMR := [
  (⟨"ClashDayModel", "isInside", "()Z"⟩, prog_14_method_27_code, 2, (Option.some Jvm.ClassFile.FieldType.boolean), 12, 2, 0, 1),
  (⟨"ClashDayModel", "closes", "()V"⟩, prog_14_method_28_code, 1, (Option.none : Option Jvm.ClassFile.FieldType), 12, 0, 0, 1),
  (⟨"ClashDayModel", "tested", "()Z"⟩, prog_14_method_29_code, 3, (Option.some Jvm.ClassFile.FieldType.boolean), 12, 2, 0, 1),
  (⟨"ClashDayModel", "isPlanHere", "()Z"⟩, prog_14_method_30_code, 2, (Option.some Jvm.ClassFile.FieldType.boolean), 12, 2, 0, 1),
  (⟨"ClashDayModel", "cellHere", "(III)Z"⟩, prog_14_method_31_code, 4, (Option.some Jvm.ClassFile.FieldType.boolean), 12, 2, 0, 4),
  (⟨"ClashDayModel", "isDayHere", "(I)Z"⟩, prog_14_method_32_code, 2, (Option.some Jvm.ClassFile.FieldType.boolean), 12, 2, 0, 2),
  (⟨"ClashDayModel", "isPaperHere", "(I)Z"⟩, prog_14_method_33_code, 3, (Option.some Jvm.ClassFile.FieldType.boolean), 12, 2, 0, 2),
  (⟨"ClashDayModel", "isCandidateHere", "(I)Z"⟩, prog_14_method_34_code, 3, (Option.some Jvm.ClassFile.FieldType.boolean), 12, 2, 0, 2),
  (⟨"ClashDayModel", "isTakenHere", "()Z"⟩, prog_14_method_35_code, 2, (Option.some Jvm.ClassFile.FieldType.boolean), 12, 2, 0, 1),
  (⟨"ClashDayModel", "dayLineHere", "(I)Z"⟩, prog_14_method_36_code, 2, (Option.some Jvm.ClassFile.FieldType.boolean), 12, 2, 0, 2),
  (⟨"ClashDayModel", "isDayWord", "()Z"⟩, prog_14_method_37_code, 1, (Option.some Jvm.ClassFile.FieldType.boolean), 12, 2, 0, 1),
  (⟨"ClashDayModel", "clauseHere", "()Z"⟩, prog_14_method_38_code, 3, (Option.some Jvm.ClassFile.FieldType.boolean), 12, 2, 0, 1),
  (⟨"ClashDayModel", "readsAll", "()Z"⟩, prog_14_method_39_code, 2, (Option.some Jvm.ClassFile.FieldType.boolean), 12, 2, 0, 1),
  (⟨"ClashDayModel", "rule", "()I"⟩, prog_14_method_40_code, 1, (Option.some Jvm.ClassFile.FieldType.int), 12, 1, 0, 1),
  (⟨"ClashDayModel", "day", "()I"⟩, prog_14_method_41_code, 2, (Option.some Jvm.ClassFile.FieldType.int), 12, 1, 0, 1),
  (⟨"ClashDayModel", "isRule", "(I)Z"⟩, prog_14_method_42_code, 2, (Option.some Jvm.ClassFile.FieldType.boolean), 12, 2, 0, 2)]
def mMs13 : List mMR := [
  (⟨"ClashDayModel", "push", "(J)V"⟩, prog_14_method_43_code, 3, (Option.none : Option Jvm.ClassFile.FieldType), 12, 0, 0, 2),
  (⟨"ClashDayModel", "pop", "()J"⟩, prog_14_method_44_code, 1, (Option.some Jvm.ClassFile.FieldType.long), 12, 4, 0, 1),
  (⟨"ClashDayModel", "one", "(IJJ)J"⟩, prog_14_method_45_code, 5, (Option.some Jvm.ClassFile.FieldType.long), 12, 4, 0, 3),
  (⟨"ClashDayModel", "reckons", "(III)J"⟩, prog_14_method_46_code, 11, (Option.some Jvm.ClassFile.FieldType.long), 12, 4, 0, 4),
  (⟨"ClashDayModel", "isDay", "()Z"⟩, prog_14_method_47_code, 1, (Option.some Jvm.ClassFile.FieldType.boolean), 12, 2, 0, 1),
  (⟨"ClashDayModel", "isPaper", "(I)Z"⟩, prog_14_method_48_code, 2, (Option.some Jvm.ClassFile.FieldType.boolean), 12, 2, 0, 2),
  (⟨"ClashDayModel", "isCandidate", "(I)Z"⟩, prog_14_method_49_code, 2, (Option.some Jvm.ClassFile.FieldType.boolean), 12, 2, 0, 2),
  (⟨"ClashDayModel", "isWaiting", "(I)Z"⟩, prog_14_method_50_code, 2, (Option.some Jvm.ClassFile.FieldType.boolean), 12, 2, 0, 2),
  (⟨"ClashDayModel", "isPlanned", "(I)Z"⟩, prog_14_method_51_code, 2, (Option.some Jvm.ClassFile.FieldType.boolean), 12, 2, 0, 2),
  (⟨"ClashDayModel", "doesSit", "(II)Z"⟩, prog_14_method_52_code, 3, (Option.some Jvm.ClassFile.FieldType.boolean), 12, 2, 0, 3),
  (⟨"ClashDayModel", "beginOf", "(II)I"⟩, prog_14_method_53_code, 3, (Option.some Jvm.ClassFile.FieldType.int), 12, 1, 0, 3),
  (⟨"ClashDayModel", "timeOf", "(II)I"⟩, prog_14_method_54_code, 3, (Option.some Jvm.ClassFile.FieldType.int), 12, 1, 0, 3),
  (⟨"ClashDayModel", "workOf", "(I)I"⟩, prog_14_method_55_code, 4, (Option.some Jvm.ClassFile.FieldType.int), 12, 1, 0, 2),
  (⟨"ClashDayModel", "waitingOnes", "()I"⟩, prog_14_method_56_code, 3, (Option.some Jvm.ClassFile.FieldType.int), 12, 1, 0, 1),
  (⟨"ClashDayModel", "sitsIn", "(II)I"⟩, prog_14_method_57_code, 4, (Option.some Jvm.ClassFile.FieldType.int), 12, 1, 0, 3),
  (⟨"ClashDayModel", "freeIn", "(I)I"⟩, prog_14_method_58_code, 4, (Option.some Jvm.ClassFile.FieldType.int), 12, 1, 0, 2)]
def mMs14 : List mMR := [
  (⟨"ClashDayModel", "isKept", "(II)Z"⟩, prog_14_method_59_code, 4, (Option.some Jvm.ClassFile.FieldType.boolean), 12, 2, 0, 3),
  (⟨"ClashDayModel", "keptOf", "(I)I"⟩, prog_14_method_60_code, 4, (Option.some Jvm.ClassFile.FieldType.int), 12, 1, 0, 2),
  (⟨"ClashDayModel", "keptAll", "()I"⟩, prog_14_method_61_code, 3, (Option.some Jvm.ClassFile.FieldType.int), 12, 1, 0, 1),
  (⟨"ClashDayModel", "beginsAnew", "()V"⟩, prog_14_method_62_code, 2, (Option.none : Option Jvm.ClassFile.FieldType), 12, 0, 0, 1),
  (⟨"ClashDayModel", "force", "(I)I"⟩, prog_14_method_63_code, 3, (Option.some Jvm.ClassFile.FieldType.int), 12, 1, 0, 2),
  (⟨"ClashDayModel", "paper", "(II)I"⟩, prog_14_method_64_code, 5, (Option.some Jvm.ClassFile.FieldType.int), 12, 1, 0, 3),
  (⟨"ClashDayModel", "candidate", "(II)I"⟩, prog_14_method_65_code, 3, (Option.some Jvm.ClassFile.FieldType.int), 12, 1, 0, 3),
  (⟨"ClashDayModel", "free", "(I)I"⟩, prog_14_method_66_code, 2, (Option.some Jvm.ClassFile.FieldType.int), 12, 1, 0, 2),
  (⟨"ClashDayModel", "time", "(II)I"⟩, prog_14_method_67_code, 3, (Option.some Jvm.ClassFile.FieldType.int), 12, 1, 0, 3),
  (⟨"ClashDayModel", "waysOf", "(I)I"⟩, prog_14_method_68_code, 3, (Option.some Jvm.ClassFile.FieldType.int), 12, 1, 0, 1),
  (⟨"ClashDayModel", "orderOf", "(I)V"⟩, prog_14_method_69_code, 8, (Option.none : Option Jvm.ClassFile.FieldType), 12, 0, 0, 2),
  (⟨"ClashDayModel", "areFree", "(II)Z"⟩, prog_14_method_70_code, 4, (Option.some Jvm.ClassFile.FieldType.boolean), 12, 2, 0, 3),
  (⟨"ClashDayModel", "dayOf", "(I)I"⟩, prog_14_method_71_code, 1, (Option.some Jvm.ClassFile.FieldType.int), 12, 1, 0, 1),
  (⟨"ClashDayModel", "leastSlot", "(IIIII)I"⟩, prog_14_method_72_code, 8, (Option.some Jvm.ClassFile.FieldType.int), 12, 1, 0, 6),
  (⟨"ClashDayModel", "doesOrder", "(I)Z"⟩, prog_14_method_73_code, 7, (Option.some Jvm.ClassFile.FieldType.boolean), 12, 2, 0, 2),
  (⟨"ClashDayModel", "isSitNow", "(II)Z"⟩, prog_14_method_74_code, 4, (Option.some Jvm.ClassFile.FieldType.boolean), 12, 2, 0, 3)]
def mMs15 : List mMR := [
  (⟨"ClashDayModel", "isDueNow", "(I)Z"⟩, prog_14_method_75_code, 3, (Option.some Jvm.ClassFile.FieldType.boolean), 12, 2, 0, 2),
  (⟨"ClashDayModel", "countsKept", "(I)V"⟩, prog_14_method_76_code, 3, (Option.none : Option Jvm.ClassFile.FieldType), 12, 0, 0, 2),
  (⟨"ClashDayModel", "isBetter", "()Z"⟩, prog_14_method_77_code, 1, (Option.some Jvm.ClassFile.FieldType.boolean), 12, 2, 0, 1),
  (⟨"ClashDayModel", "plansBy", "(II)Z"⟩, prog_14_method_78_code, 5, (Option.some Jvm.ClassFile.FieldType.boolean), 12, 2, 0, 3),
  (⟨"ClashDayModel", "plansOf", "(I)Z"⟩, prog_14_method_79_code, 2, (Option.some Jvm.ClassFile.FieldType.boolean), 12, 2, 0, 2),
  (⟨"ClashDayModel", "laysPlan", "(I)Z"⟩, prog_14_method_80_code, 3, (Option.some Jvm.ClassFile.FieldType.boolean), 12, 2, 0, 2),
  (⟨"ClashDayModel", "waits", "(I)V"⟩, prog_14_method_81_code, 3, (Option.none : Option Jvm.ClassFile.FieldType), 12, 0, 0, 2),
  (⟨"ClashDayModel", "summedBy", "(I)J"⟩, prog_14_method_82_code, 4, (Option.some Jvm.ClassFile.FieldType.long), 12, 4, 0, 2),
  (⟨"ClashDayModel", "busyNow", "()I"⟩, prog_14_method_83_code, 3, (Option.some Jvm.ClassFile.FieldType.int), 12, 1, 0, 1),
  (⟨"ClashDayModel", "sumOf", "(I)J"⟩, prog_14_method_84_code, 2, (Option.some Jvm.ClassFile.FieldType.long), 12, 4, 0, 2),
  (⟨"ClashDayModel", "choice", "()I"⟩, prog_14_method_85_code, 7, (Option.some Jvm.ClassFile.FieldType.int), 12, 1, 0, 1),
  (⟨"ClashDayModel", "passes", "()I"⟩, prog_14_method_86_code, 2, (Option.some Jvm.ClassFile.FieldType.int), 12, 1, 0, 1),
  (⟨"ClashDayModel", "passesAll", "(I)V"⟩, prog_14_method_87_code, 3, (Option.none : Option Jvm.ClassFile.FieldType), 12, 0, 0, 2),
  (⟨"ClashDayModel", "keepsAct", "()V"⟩, prog_14_method_88_code, 2, (Option.none : Option Jvm.ClassFile.FieldType), 12, 0, 0, 1),
  (⟨"ClashDayModel", "undo", "()I"⟩, prog_14_method_89_code, 2, (Option.some Jvm.ClassFile.FieldType.int), 12, 1, 0, 1),
  (⟨"ClashDayModel", "turn", "()I"⟩, prog_14_method_90_code, 2, (Option.some Jvm.ClassFile.FieldType.int), 12, 1, 0, 1)]
def mMs16 : List mMR := [
  (⟨"ClashDayModel", "plan", "(I)I"⟩, prog_14_method_91_code, 2, (Option.some Jvm.ClassFile.FieldType.int), 12, 1, 0, 2),
  (⟨"ClashDayModel", "drop", "(I)I"⟩, prog_14_method_92_code, 2, (Option.some Jvm.ClassFile.FieldType.int), 12, 1, 0, 2),
  (⟨"ClashDayModel", "delays", "(II)V"⟩, prog_14_method_93_code, 4, (Option.none : Option Jvm.ClassFile.FieldType), 12, 0, 0, 3),
  (⟨"ClashDayModel", "delay", "(II)I"⟩, prog_14_method_94_code, 3, (Option.some Jvm.ClassFile.FieldType.int), 12, 1, 0, 3),
  (⟨"ClashDayModel", "take", "(II)I"⟩, prog_14_method_95_code, 4, (Option.some Jvm.ClassFile.FieldType.int), 12, 1, 0, 3),
  (⟨"ClashDayModel", "begins", "(II)I"⟩, prog_14_method_96_code, 3, (Option.some Jvm.ClassFile.FieldType.int), 12, 1, 0, 3),
  (⟨"ClashDayModel", "could", "(II)I"⟩, prog_14_method_97_code, 3, (Option.some Jvm.ClassFile.FieldType.int), 12, 1, 0, 3),
  (⟨"ClashDayModel", "orders", "(I)I"⟩, prog_14_method_98_code, 2, (Option.some Jvm.ClassFile.FieldType.int), 12, 1, 0, 2),
  (⟨"ClashDayModel", "clash", "(II)I"⟩, prog_14_method_99_code, 6, (Option.some Jvm.ClassFile.FieldType.int), 12, 1, 0, 3),
  (⟨"ClashDayModel", "signOf", "(II)I"⟩, prog_14_method_100_code, 4, (Option.some Jvm.ClassFile.FieldType.int), 12, 1, 0, 3),
  (⟨"ClashDayModel", "line", "(II)I"⟩, prog_14_method_101_code, 3, (Option.some Jvm.ClassFile.FieldType.int), 12, 1, 0, 3),
  (⟨"ClashDayModel", "putsSign", "(II)V"⟩, prog_14_method_102_code, 3, (Option.none : Option Jvm.ClassFile.FieldType), 12, 0, 0, 3),
  (⟨"ClashDayModel", "spells", "(II)V"⟩, prog_14_method_103_code, 5, (Option.none : Option Jvm.ClassFile.FieldType), 12, 0, 0, 3),
  (⟨"ClashDayModel", "spelt", "(II)I"⟩, prog_14_method_104_code, 3, (Option.some Jvm.ClassFile.FieldType.int), 12, 1, 0, 3),
  (⟨"ClashDayModel", "first", "(III)I"⟩, prog_14_method_105_code, 5, (Option.some Jvm.ClassFile.FieldType.int), 12, 1, 0, 4),
  (⟨"ClashDayModel", "keptIn", "(I)I"⟩, prog_14_method_106_code, 4, (Option.some Jvm.ClassFile.FieldType.int), 12, 1, 0, 2)]
def mMs17 : List mMR := [
  (⟨"ClashDayModel", "watchers", "(II)I"⟩, prog_14_method_107_code, 7, (Option.some Jvm.ClassFile.FieldType.int), 12, 1, 0, 3),
  (⟨"ClashDayModel", "watches", "(II)V"⟩, prog_14_method_108_code, 5, (Option.none : Option Jvm.ClassFile.FieldType), 12, 0, 0, 3),
  (⟨"ClashDayModel", "chain", "(III)I"⟩, prog_14_method_109_code, 5, (Option.some Jvm.ClassFile.FieldType.int), 12, 1, 0, 4),
  (⟨"ClashDayModel", "mustNotMeet", "(III)Z"⟩, prog_14_method_110_code, 5, (Option.some Jvm.ClassFile.FieldType.boolean), 12, 2, 0, 4),
  (⟨"ClashDayModel", "apart", "(II)I"⟩, prog_14_method_111_code, 5, (Option.some Jvm.ClassFile.FieldType.int), 12, 1, 0, 3),
  (⟨"ClashDayModel", "keeps", "()V"⟩, prog_14_method_112_code, 2, (Option.none : Option Jvm.ClassFile.FieldType), 12, 0, 0, 1),
  (⟨"ClashDayModel", "laysBack", "()V"⟩, prog_14_method_113_code, 2, (Option.none : Option Jvm.ClassFile.FieldType), 12, 0, 0, 1),
  (⟨"ClashDayModel", "rowOf", "(I)V"⟩, prog_14_method_114_code, 8, (Option.none : Option Jvm.ClassFile.FieldType), 12, 0, 0, 2),
  (⟨"ClashDayModel", "triesRow", "()V"⟩, prog_14_method_115_code, 4, (Option.none : Option Jvm.ClassFile.FieldType), 12, 0, 0, 1),
  (⟨"ClashDayModel", "best", "(I)I"⟩, prog_14_method_116_code, 3, (Option.some Jvm.ClassFile.FieldType.int), 12, 1, 0, 2),
  (⟨"ClashDayModel", "stuckMany", "()I"⟩, prog_14_method_117_code, 3, (Option.some Jvm.ClassFile.FieldType.int), 12, 1, 0, 1),
  (⟨"ClashDayModel", "harm", "(II)I"⟩, prog_14_method_118_code, 7, (Option.some Jvm.ClassFile.FieldType.int), 12, 1, 0, 3),
  (⟨"ClashDayModel", "fullSlots", "()I"⟩, prog_14_method_119_code, 3, (Option.some Jvm.ClassFile.FieldType.int), 12, 1, 0, 1),
  (⟨"ClashDayModel", "plannedMany", "()I"⟩, prog_14_method_120_code, 1, (Option.some Jvm.ClassFile.FieldType.int), 12, 1, 0, 1),
  (⟨"ClashDayModel", "ahead", "(II)I"⟩, prog_14_method_121_code, 4, (Option.some Jvm.ClassFile.FieldType.int), 12, 1, 0, 3),
  (⟨"ClashDayModel", "when", "(I)I"⟩, prog_14_method_122_code, 4, (Option.some Jvm.ClassFile.FieldType.int), 12, 1, 0, 2)]
def mMs18 : List mMR := [
  (⟨"ClashDayModel", "isRest", "(II)Z"⟩, prog_14_method_123_code, 4, (Option.some Jvm.ClassFile.FieldType.boolean), 12, 2, 0, 3),
  (⟨"ClashDayModel", "worthOf", "(I)I"⟩, prog_14_method_124_code, 2, (Option.some Jvm.ClassFile.FieldType.int), 12, 1, 0, 2),
  (⟨"ClashDayModel", "fillsRests", "(II)V"⟩, prog_14_method_125_code, 6, (Option.none : Option Jvm.ClassFile.FieldType), 12, 0, 0, 3),
  (⟨"ClashDayModel", "rests", "(III)I"⟩, prog_14_method_126_code, 7, (Option.some Jvm.ClassFile.FieldType.int), 12, 1, 0, 4),
  (⟨"ClashDayModel", "pence", "(II)I"⟩, prog_14_method_127_code, 9, (Option.some Jvm.ClassFile.FieldType.int), 12, 1, 0, 3),
  (⟨"ClashDayModel", "note", "(III)I"⟩, prog_14_method_128_code, 5, (Option.some Jvm.ClassFile.FieldType.int), 12, 1, 0, 4),
  (⟨"ClashDayModel", "areNotesSo", "(I)Z"⟩, prog_14_method_129_code, 3, (Option.some Jvm.ClassFile.FieldType.boolean), 12, 2, 0, 2),
  (⟨"ClashDayModel", "areAllSo", "(II)Z"⟩, prog_14_method_130_code, 6, (Option.some Jvm.ClassFile.FieldType.boolean), 12, 2, 0, 3),
  (⟨"ClashDayModel", "fillsFits", "(I)V"⟩, prog_14_method_131_code, 4, (Option.none : Option Jvm.ClassFile.FieldType), 12, 0, 0, 2),
  (⟨"ClashDayModel", "ruled", "(I)I"⟩, prog_14_method_132_code, 5, (Option.some Jvm.ClassFile.FieldType.int), 12, 1, 0, 2),
  (⟨"ClashDayModel", "alikeAt", "(I)I"⟩, prog_14_method_133_code, 6, (Option.some Jvm.ClassFile.FieldType.int), 12, 1, 0, 2),
  (⟨"ClashDayModel", "look", "(II)I"⟩, prog_14_method_134_code, 7, (Option.some Jvm.ClassFile.FieldType.int), 12, 1, 0, 3),
  (⟨"ClashDayModel", "canBe", "(III)I"⟩, prog_14_method_135_code, 7, (Option.some Jvm.ClassFile.FieldType.int), 12, 1, 0, 4),
  (⟨"ClashDayModel", "extras", "(II)I"⟩, prog_14_method_136_code, 5, (Option.some Jvm.ClassFile.FieldType.int), 12, 1, 0, 3),
  (⟨"ClashDayModel", "resting", "(I)I"⟩, prog_14_method_137_code, 2, (Option.some Jvm.ClassFile.FieldType.int), 12, 1, 0, 2),
  (⟨"ClashDayModel", "seed", "(I)I"⟩, prog_14_method_138_code, 3, (Option.some Jvm.ClassFile.FieldType.int), 12, 1, 0, 2)]
def mMs19 : List mMR := [
  (⟨"ClashDayModel", "draw", "(I)I"⟩, prog_14_method_139_code, 2, (Option.some Jvm.ClassFile.FieldType.int), 12, 1, 0, 2),
  (⟨"ClashDayModel", "ill", "(IIII)I"⟩, prog_14_method_140_code, 9, (Option.some Jvm.ClassFile.FieldType.int), 12, 1, 0, 5),
  (⟨"ClashDayModel", "count", "(I)I"⟩, prog_14_method_141_code, 2, (Option.some Jvm.ClassFile.FieldType.int), 12, 1, 0, 2),
  (⟨"ClashDayModel", "image", "(I)I"⟩, prog_14_method_142_code, 3, (Option.some Jvm.ClassFile.FieldType.int), 12, 1, 0, 2),
  (⟨"ClashDayModel", "back", "(I)I"⟩, prog_14_method_143_code, 3, (Option.some Jvm.ClassFile.FieldType.int), 12, 1, 0, 2),
  (⟨"java/lang/Integer", "bitCount", "(I)I"⟩, prog_15_method_49_code, 1, (Option.some Jvm.ClassFile.FieldType.int), 14, 1, 0, 1),
  (⟨"java/lang/Integer", "numberOfTrailingZeros", "(I)I"⟩, prog_15_method_48_code, 2, (Option.some Jvm.ClassFile.FieldType.int), 14, 1, 0, 1)]
def mMs : List (List mMR) := [mMs0, mMs1, mMs2, mMs3, mMs4, mMs5, mMs6, mMs7, mMs8, mMs9, mMs10, mMs11, mMs12, mMs13, mMs14, mMs15, mMs16, mMs17, mMs18, mMs19]
/-- of each class: index of the pool, and what it means: a field (class, number, kind), a method (number, cells, arguments, class of the receiver), a class, a number; its place among the words -/
abbrev mLR : Type := Nat × Int × Int × Nat × Nat × Nat × Nat
def mLk0 : List (List mLR) := [[(3, -1, 0, 0, 0, 1104, 7), (9, 0, 6, 2, 1, 1130, 0), (15, 0, 7, 2, 1, 1133, 0)], [(18, 0, 8, 2, 1, 1135, 0), (21, 0, 9, 2, 1, 1140, 0), (24, 0, 10, 2, 1, 1144, 0), (27, 0, 11, 2, 1, 1149, 0), (30, 0, 12, 2, 1, 1152, 0)], [(33, 0, 13, 2, 1, 1153, 0), (36, 0, 14, 2, 1, 1154, 0), (39, 0, 0, 0, 1, 1105, 0), (43, 0, 1, 0, 1, 1108, 0), (46, 0, 2, 0, 1, 1112, 0)], [(49, 0, 3, 0, 1, 1118, 0), (52, 0, 4, 0, 1, 1123, 0), (55, 0, 5, 0, 1, 1127, 0), (58, -2, 0, 0, 0, 3114, 1)], [(64, 8, 0, 2, 0, 3225, 6), (68, 12, 0, 3, 0, 3209, 6), (72, 14, 0, 3, 0, 4108, 6), (76, -5, 0, 0, 0, 4001, 1)], [(81, 17, 0, 2, 0, 4094, 6), (85, 309, 0, 1, 99, 5069, 1), (90, 21, 0, 2, 0, 5100, 6), (93, 4, 11, 2, 0, 2027, 0)], [(96, 4, 9, 0, 0, 2020, 0), (98, 4, 8, 0, 0, 2018, 0), (100, 7, 0, 2, 0, 4161, 6), (103, -6, 0, 0, 0, 4056, 1), (106, 24, 0, 2, 0, 4166, 6), (110, 20, 0, 3, 0, 5016, 6)], [(113, 27, 0, 3, 0, 5012, 6), (116, 16, 0, 3, 0, 5046, 6), (119, 32, 0, 2, 99, 5047, 1), (122, 9, 0, 2, 0, 5166, 6), (125, 15, 0, 2, 0, 5167, 6)], [(128, 1073741823, 0, 0, 0, 4055, 3)]]
def mLk1 : List (List mLR) := [[(3, -1, 0, 0, 0, 1069, 7), (9, 1, 1, 2, 1, 1071, 0), (15, 1, 0, 2, 1, 1070, 0)], [(19, 89, 0, 1, 8, 2239, 6), (24, 2, 0, 1, 0, 3007, 6), (29, 35, 0, 3, 1, 3011, 6)], [(33, 93, 0, 1, 8, 3105, 6), (37, 8, 6, 0, 0, 1045, 0), (41, 91, 0, 1, 8, 3015, 6), (45, 94, 0, 2, 8, 3068, 6)], [(49, 0, 2, 0, 0, 1114, 0), (52, 0, 3, 0, 0, 1120, 0), (55, 90, 0, 1, 8, 3072, 6), (58, 36, 0, 2, 1, 3073, 6), (62, 37, 0, 2, 1, 3085, 6)], [(65, 38, 0, 2, 1, 3093, 6), (68, 39, 0, 2, 1, 3101, 6), (71, 40, 0, 4, 1, 3077, 6), (75, 0, 0, 0, 0, 1106, 0), (78, 0, 1, 0, 0, 1109, 0)], [(81, 4, 0, 3, 0, 3089, 6), (85, 5, 0, 4, 0, 3097, 6), (89, 0, 11, 2, 0, 1150, 0), (92, 95, 0, 3, 8, 3081, 6)], [(96, 8, 5, 0, 0, 1044, 0)]]
def mLk2 : List (List mLR) := [[(3, -1, 0, 0, 0, 2133, 7), (9, 28, 0, 0, 0, 2134, 2), (11, 2, 0, 2, 1, 2135, 0)], [(16, 2, 1, 2, 1, 2137, 0), (20, 2, 2, 2, 1, 2139, 0), (23, 2, 3, 2, 1, 2140, 0), (26, 20, 0, 3, 0, 4206, 6)], [(32, 0, 2, 0, 0, 1113, 0), (36, 12, 0, 3, 0, 4210, 6), (39, 16, 0, 3, 0, 4211, 6), (43, 14, 0, 3, 0, 4212, 6), (46, 42, 0, 3, 99, 4221, 1)], [(50, 44, 0, 4, 2, 4222, 6), (54, 45, 0, 3, 2, 4226, 6), (58, -6, 0, 0, 0, 4238, 1), (63, 46, 0, 1, 2, 5003, 6)], [(67, 49, 0, 4, 2, 5027, 6), (71, 0, 3, 0, 0, 1122, 0), (74, 50, 0, 3, 99, 5031, 1), (78, 51, 0, 2, 2, 5034, 6)]]
def mLk3 : List (List mLR) := [[(3, -1, 0, 0, 0, 1191, 7), (11, 3, 1, 2, 1, 1194, 0), (15, 3, 2, 2, 1, 1195, 0)], [(18, 3, 3, 2, 1, 1196, 0), (21, 3, 0, 0, 1, 1192, 0), (25, -2, 0, 0, 0, 6011, 1), (31, 54, 0, 1, 3, 5180, 6)], [(35, -5, 0, 0, 0, 5127, 1), (41, 17, 0, 2, 0, 5132, 6)]]
def mLk4 : List (List mLR) := [[(3, -1, 0, 0, 0, 2003, 7), (9, 4, 0, 2, 1, 2004, 0), (15, 4, 1, 2, 1, 2005, 0)], [(18, 4, 2, 2, 1, 2006, 0), (21, 4, 3, 2, 1, 2007, 0), (24, 4, 11, 2, 1, 2025, 0), (27, 62, 0, 4, 4, 4038, 6), (31, 4, 6, 0, 1, 2010, 0)], [(35, 64, 0, 6, 4, 4059, 6), (39, 10, 0, 2, 0, 4127, 6), (45, 0, 8, 2, 0, 1136, 0)], [(48, 59, 0, 4, 4, 4128, 6), (52, 23, 0, 3, 0, 4129, 6), (56, 309, 0, 1, 99, 4067, 1), (62, 18, 0, 1, 0, 4042, 6)], [(66, 0, 1, 0, 0, 1110, 0), (69, 4, 4, 0, 1, 2008, 0), (70, 0, 10, 2, 0, 1145, 0), (73, 4, 5, 0, 1, 2009, 0), (75, 0, 6, 2, 0, 1131, 0), (76, 14, 0, 3, 0, 4046, 6)], [(80, 1048575, 0, 0, 0, 4047, 3), (81, 63, 0, 2, 99, 4048, 1), (84, -1048576, 0, 0, 0, 4051, 3), (85, 31, 0, 1, 99, 4052, 1), (88, 66, 0, 4, 4, 4063, 6), (92, 65, 0, 4, 4, 4074, 6)], [(96, 32, 0, 2, 99, 4083, 1), (99, -6, 0, 0, 0, 4078, 1), (104, 310, 0, 1, 99, 4079, 1), (107, 4, 12, 0, 1, 2028, 0), (110, 4, 7, 0, 1, 2013, 0)], [(113, 4, 8, 0, 1, 2016, 0), (116, 4, 9, 0, 1, 2019, 0), (119, 4, 10, 0, 1, 2022, 0), (122, -2, 0, 0, 0, 4073, 1)]]
def mLk5 : List (List mLR) := [[(3, -1, 0, 0, 0, 2154, 7), (11, 5, 0, 2, 1, 2155, 0)], [(17, 5, 2, 2, 1, 2158, 0), (20, 5, 3, 2, 1, 2159, 0), (23, 200005, 0, 0, 0, 3181, 3), (24, 200006, 0, 0, 0, 3182, 3), (25, 200007, 0, 0, 0, 3183, 3), (26, 200008, 0, 0, 0, 3184, 3), (27, 200009, 0, 0, 0, 3185, 3), (28, 200002, 0, 0, 0, 3161, 3), (29, 200003, 0, 0, 0, 3162, 3), (30, 200004, 0, 0, 0, 3163, 3), (31, 200000, 0, 0, 0, 3167, 3)], [(32, 200001, 0, 0, 0, 3168, 3), (33, 5, 1, 0, 1, 2157, 0), (37, 5, 4, 0, 1, 2160, 0), (40, 75, 0, 5, 5, 4113, 6), (44, -6, 0, 0, 0, 4117, 1)], [(50, 100000, 0, 0, 0, 4118, 3), (51, 200012, 0, 0, 0, 4119, 3), (52, 76, 0, 3, 99, 4120, 1)]]
def mLk6 : List (List mLR) := [[(3, -1, 0, 0, 0, 1083, 7), (9, 6, 0, 2, 1, 1084, 0), (15, 89, 0, 1, 8, 3126, 6)], [(20, 71, 0, 1, 5, 3127, 6), (25, 6, 1, 0, 1, 1085, 0), (29, 79, 0, 3, 6, 3131, 6)], [(33, 93, 0, 1, 8, 3192, 6), (37, 8, 6, 0, 0, 1046, 0), (40, 92, 0, 2, 8, 3135, 6), (44, 94, 0, 2, 8, 3140, 6), (47, 90, 0, 1, 8, 3141, 6)], [(50, 82, 0, 2, 6, 3142, 6), (54, 5, 1, 0, 0, 2156, 0), (57, 80, 0, 3, 6, 3169, 6), (60, 73, 0, 2, 5, 3188, 6)], [(64, 81, 0, 3, 6, 3173, 6), (67, 200010, 0, 0, 0, 3186, 3), (68, 72, 0, 2, 5, 3154, 6), (71, 200011, 0, 0, 0, 3187, 3), (72, 8, 2, 0, 0, 1038, 0), (75, 200012, 0, 0, 0, 3177, 3), (76, 68, 0, 1, 99, 3178, 1)], [(80, 83, 0, 2, 6, 3146, 6), (83, 69, 0, 1, 99, 3158, 1), (86, 70, 0, 1, 99, 3164, 1), (89, 91, 0, 1, 8, 3150, 6), (95, 99999, 0, 0, 0, 3151, 3)], [(96, 95, 0, 3, 8, 3152, 6), (100, 100000, 0, 0, 0, 3153, 3), (101, 8, 5, 0, 0, 1043, 0)]]
def mLk7 : List (List mLR) := [[(3, -1, 0, 0, 0, 1098, 7), (9, 0, 0, 15, 0, 1099, 2), (11, 1, 9, 1, 0, 1101, 7), (12, 7, 0, 2, 1, 1206, 0)], [(18, 7, 1, 2, 1, 1209, 0), (21, 3, 0, 4, 0, 1186, 2), (23, 52, 3, 1, 3, 1188, 7), (24, 7, 2, 2, 1, 1212, 0), (28, 7, 3, 0, 1, 1215, 0)], [(32, 3, 0, 2, 0, 6006, 6), (36, 53, 0, 2, 3, 6007, 6), (39, 7, 4, 0, 1, 1217, 0)]]
def mLk8 : List (List mLR) := [[(3, -1, 0, 0, 0, 1034, 7), (11, 8, 0, 2, 1, 1035, 0), (15, 8, 1, 0, 1, 1036, 0)], [(19, 8, 4, 0, 1, 1041, 0), (22, 8, 6, 0, 1, 1047, 0), (25, 90, 0, 1, 8, 3003, 6), (28, 8, 3, 0, 1, 1040, 0), (31, 8, 2, 0, 1, 1039, 0)], [(34, 8, 5, 0, 1, 1042, 0), (37, 0, 1, 0, 0, 3019, 5), (39, -3, 0, 0, 0, 3020, 6), (45, -4, 0, 0, 0, 3030, 6)], [(49, 91, 0, 1, 8, 3139, 6), (52, 94, 0, 2, 8, 3109, 6)]]
def mLk9 : List (List mLR) := [[(3, -1, 0, 0, 0, 2078, 7), (9, 0, 0, 15, 0, 2079, 2), (11, 1, 9, 1, 0, 2080, 7), (12, 9, 2, 2, 1, 2085, 0)], [(18, 9, 5, 2, 1, 2090, 0), (22, 9, 6, 2, 1, 2092, 0), (25, 9, 10, 2, 1, 2098, 0), (28, 9, 11, 2, 1, 2099, 0), (31, 28, 0, 0, 0, 2081, 2)], [(33, 9, 12, 2, 1, 2100, 0), (36, 9, 0, 2, 1, 2083, 0), (40, 9, 1, 2, 1, 2084, 0), (44, 3, 0, 2, 0, 5056, 6)], [(48, 0, 3, 0, 0, 1117, 0), (52, 309, 0, 1, 99, 5057, 1), (58, 10, 0, 2, 0, 5058, 6), (62, 9, 3, 0, 1, 2086, 0)], [(65, 98, 0, 5, 9, 5059, 6), (69, 9, 4, 0, 1, 2088, 0), (72, -2, 0, 0, 0, 5063, 1), (78, 60, 0, 3, 4, 5064, 6)], [(84, 21, 0, 2, 0, 5065, 6), (87, 24, 0, 2, 0, 5070, 6), (91, 0, 2, 0, 0, 1115, 0), (94, 25, 0, 2, 0, 5079, 6)], [(97, 100, 0, 4, 9, 5080, 6), (101, 26, 0, 3, 0, 5084, 6), (105, 0, 8, 2, 0, 1138, 0), (108, 59, 0, 4, 4, 5085, 6)], [(112, 117, 0, 3, 10, 5095, 6), (118, 0, 4, 0, 0, 1125, 0), (121, 7, 0, 2, 0, 1208, 0), (126, 0, 9, 2, 0, 1142, 0)], [(129, 7, 2, 2, 0, 1214, 0), (133, 106, 0, 3, 9, 5119, 6), (137, 0, 10, 2, 0, 1148, 0), (140, 56, 0, 1, 3, 5123, 6)], [(146, 57, 0, 3, 3, 5128, 6), (149, 101, 0, 4, 9, 5197, 6), (153, 17, 0, 2, 0, 5198, 6), (156, 109, 0, 3, 9, 5203, 6)], [(160, -5, 0, 0, 0, 5207, 1), (165, 111, 0, 2, 9, 5150, 6), (168, 112, 0, 2, 9, 5154, 6), (171, 4, 10, 0, 0, 2024, 0), (174, 9, 7, 0, 1, 2093, 0)], [(177, 9, 8, 0, 1, 2095, 0), (180, 7, 4, 0, 0, 1218, 0), (183, 9, 9, 0, 1, 2097, 0), (186, 7, 1, 2, 0, 1211, 0), (189, 114, 0, 2, 9, 5221, 6)], [(192, 0, 5, 0, 0, 1128, 0), (195, 22, 0, 1, 0, 5233, 6), (198, 115, 0, 1, 9, 5225, 6), (201, 1103515245, 0, 0, 0, 5229, 4), (203, 12345, 0, 0, 0, 5230, 4), (205, 2147483648, 0, 0, 0, 5231, 4), (207, 65536, 0, 0, 0, 5232, 3)]]
def mLk10 : List (List mLR) := [[(3, -1, 0, 0, 0, 2061, 7), (11, 10, 1, 2, 1, 2063, 0)], [(17, 10, 2, 2, 1, 2064, 0), (20, 10, 0, 2, 1, 2062, 0), (24, 118, 0, 2, 10, 4029, 6), (28, 119, 0, 3, 10, 4086, 6)], [(32, 60, 0, 3, 4, 4123, 6), (38, 0, 4, 0, 0, 1124, 0), (44, 0, 3, 0, 0, 1119, 0), (47, 10, 0, 2, 0, 4033, 6)], [(51, 0, 8, 2, 0, 1137, 0), (55, 59, 0, 4, 4, 4034, 6), (59, 19, 0, 1, 0, 4090, 6), (63, 11, 0, 1, 0, 4095, 6)], [(66, 309, 0, 1, 99, 4099, 1), (72, 120, 0, 3, 10, 4100, 6), (76, 74, 0, 3, 5, 4109, 6)], [(82, 0, 9, 2, 0, 1141, 0), (85, 0, 10, 2, 0, 1146, 0), (88, 4, 7, 0, 0, 2012, 0), (91, 4, 8, 0, 0, 2015, 0), (94, 4, 10, 0, 0, 2021, 0)], [(97, 15, 0, 2, 0, 4104, 6)]]
def mLk11 : List (List mLR) := [[(3, -1, 0, 0, 0, 1026, 7), (9, 8, 0, 7, 0, 1029, 2), (11, 86, 1, 1, 8, 1031, 7), (12, 11, 0, 2, 1, 2172, 0)], [(16, 1, 0, 2, 0, 1064, 2), (18, 33, 1, 2, 1, 1066, 7), (21, 11, 1, 2, 1, 2173, 0), (25, 6, 0, 2, 0, 1078, 2), (27, 77, 0, 2, 6, 1080, 7), (28, 11, 2, 2, 1, 2174, 0)], [(32, 5, 0, 5, 0, 1091, 2), (34, 11, 3, 2, 1, 2175, 0), (38, 7, 0, 6, 0, 1093, 2), (40, 84, 24, 1, 7, 1095, 7), (41, 11, 5, 2, 1, 2177, 0), (45, 11, 6, 2, 1, 2178, 0)], [(49, 0, 0, 15, 0, 1235, 2), (51, 11, 7, 2, 1, 2179, 0), (55, 1, 9, 1, 0, 1237, 7), (56, 11, 9, 2, 1, 2181, 0), (60, 4, 0, 13, 0, 1238, 2), (62, 58, 5, 1, 4, 2000, 7), (63, 11, 10, 2, 1, 2182, 0)], [(67, 10, 0, 3, 0, 2056, 2), (69, 116, 2, 2, 10, 2058, 7), (72, 11, 11, 2, 1, 2183, 0), (76, 9, 0, 13, 0, 2073, 2), (78, 96, 22, 3, 9, 2075, 7)], [(81, 11, 12, 2, 1, 2184, 0), (85, 2, 0, 4, 0, 2128, 2), (87, 41, 6, 1, 2, 2130, 7), (88, 11, 13, 2, 1, 2185, 0), (92, 67, 3, 1, 5, 2151, 7), (93, 87, 0, 2, 8, 2219, 6)], [(97, 88, 0, 2, 8, 2223, 6), (101, 8, 1, 0, 0, 1037, 0), (105, 34, 0, 2, 1, 2235, 6), (109, 7, 0, 2, 0, 1207, 0)], [(112, 3, 0, 2, 0, 3110, 6), (116, 7, 1, 2, 0, 1210, 0), (119, 7, 2, 2, 0, 1213, 0), (123, 3, 0, 0, 0, 1193, 0), (126, 11, 8, 0, 1, 2180, 0)], [(129, 0, 3, 0, 0, 1121, 0), (132, 11, 4, 0, 1, 2176, 0), (135, 78, 0, 2, 6, 3122, 6), (138, 7, 3, 0, 0, 1216, 0), (141, 7, 0, 2, 0, 3201, 6)], [(144, 0, 6, 2, 0, 1132, 0), (148, 0, 7, 2, 0, 1134, 0), (151, 13, 0, 2, 0, 3205, 6), (155, 8, 0, 2, 0, 3217, 6), (158, 0, 8, 2, 0, 1139, 0)], [(161, 0, 9, 2, 0, 1143, 0), (164, 0, 10, 2, 0, 1147, 0), (167, 10, 0, 2, 0, 3221, 6), (170, 6, 0, 1, 0, 3230, 6), (174, 163, 0, 1, 99, 3234, 1)], [(177, 17, 0, 2, 0, 3237, 6), (180, 12, 0, 3, 0, 4008, 6), (184, 14, 0, 3, 0, 4009, 6), (188, 0, 4, 0, 0, 1126, 0), (191, 165, 0, 1, 11, 4017, 6)], [(194, 164, 0, 1, 11, 4021, 6), (198, 117, 0, 3, 10, 4025, 6), (202, 59, 0, 4, 4, 4137, 6), (206, 23, 0, 3, 0, 4138, 6)], [(210, 4, 10, 0, 0, 2023, 0), (213, 9, 0, 2, 0, 4143, 6), (216, 24, 0, 2, 0, 4147, 6), (219, 11, 0, 1, 0, 4151, 6), (223, 309, 0, 1, 99, 4152, 1)], [(228, 25, 0, 2, 0, 4157, 6), (231, 26, 0, 3, 0, 4162, 6), (235, 0, 11, 2, 0, 1151, 0), (238, 16, 0, 3, 0, 4179, 6)], [(241, 4, 7, 0, 0, 2014, 0), (244, 4, 8, 0, 0, 2017, 0), (247, 4, 11, 2, 0, 2026, 0), (250, 4, 6, 0, 0, 2011, 0), (253, 61, 0, 3, 4, 4195, 6)], [(257, 42, 0, 3, 99, 4203, 1), (261, 43, 0, 4, 2, 4217, 6), (265, 2, 1, 2, 0, 2138, 0), (268, 2, 0, 2, 0, 2136, 0)], [(272, 46, 0, 1, 2, 4234, 6), (275, 47, 0, 1, 2, 4239, 6), (278, 28, 0, 2, 0, 5008, 6), (281, 27, 0, 3, 0, 5017, 6), (284, 20, 0, 3, 0, 5022, 6), (287, 48, 0, 5, 2, 5023, 6)], [(291, 29, 0, 3, 0, 5042, 6), (294, 97, 0, 2, 9, 5052, 6), (297, 9, 3, 0, 0, 2087, 0), (300, 9, 4, 0, 0, 2089, 0), (303, 9, 5, 2, 0, 2091, 0)], [(306, 99, 0, 3, 9, 5075, 6), (309, 100, 0, 4, 9, 5086, 6), (313, 101, 0, 4, 9, 5091, 6), (317, 0, 5, 0, 0, 1129, 0)], [(320, 22, 0, 1, 0, 5096, 6), (323, 1073741823, 0, 0, 0, 5101, 3), (324, 18, 0, 1, 0, 5102, 6), (327, 102, 0, 4, 9, 5107, 6), (331, 103, 0, 4, 9, 5115, 6), (335, 310, 0, 1, 99, 5133, 1)], [(338, 104, 0, 4, 9, 5138, 6), (341, 110, 0, 4, 9, 5146, 6), (344, 30, 0, 3, 0, 5162, 6), (347, 54, 0, 1, 3, 5172, 6), (350, 55, 0, 4, 3, 5176, 6)], [(353, 105, 0, 4, 9, 5185, 6), (357, 107, 0, 5, 9, 5193, 6), (361, 108, 0, 2, 9, 5199, 6), (364, 109, 0, 3, 9, 5208, 6), (367, 7, 4, 0, 0, 1219, 0)], [(370, 113, 0, 6, 9, 5217, 6), (374, 9, 7, 0, 0, 2094, 0), (377, 9, 8, 0, 0, 2096, 0), (380, 0, 0, 0, 0, 1107, 0), (383, 0, 1, 0, 0, 1111, 0)], [(386, 0, 2, 0, 0, 1116, 0), (389, 85, 0, 2, 7, 6002, 6), (392, 7, 5, 3, 0, 1220, 0)]]
def mLk12 : List (List mLR) := [[(1, -1, 0, 0, 0, 6021, 7), (7, 12, 0, 2, 1, 6022, 0), (13, 12, 3, 2, 1, 6025, 0)], [(17, 12, 4, 2, 1, 6026, 0), (20, 12, 5, 2, 1, 6027, 0), (23, 12, 6, 2, 1, 6028, 0), (26, 12, 7, 2, 1, 6029, 0), (29, 12, 15, 2, 1, 6037, 0)], [(32, 12, 17, 2, 1, 6039, 0), (36, 12, 19, 2, 1, 6041, 0), (39, 12, 20, 2, 1, 6042, 0), (42, 12, 21, 0, 1, 6043, 0), (46, 12, 23, 2, 1, 6045, 0)], [(49, 12, 24, 2, 1, 6046, 0), (52, 12, 25, 2, 1, 6047, 0), (55, 12, 26, 2, 1, 6048, 0), (58, 12, 27, 2, 1, 6049, 0), (61, 12, 36, 2, 1, 6058, 0)], [(64, 12, 38, 2, 1, 6060, 0), (67, 12, 39, 2, 1, 6061, 0), (70, 12, 40, 2, 1, 6062, 0), (73, 12, 41, 2, 1, 6063, 0), (76, 12, 42, 2, 1, 6064, 0), (79, 12, 43, 2, 1, 6065, 0)], [(82, 12, 44, 2, 1, 6066, 0), (85, 12, 45, 2, 1, 6067, 0), (88, 12, 46, 2, 1, 6068, 0), (91, 12, 50, 2, 1, 6072, 0), (94, 12, 51, 2, 1, 6073, 0)], [(98, 12, 52, 2, 1, 6074, 0), (101, 12, 54, 2, 1, 6076, 0), (104, 12, 55, 2, 1, 6077, 0), (107, 12, 56, 2, 1, 6078, 0), (110, 12, 57, 2, 1, 6079, 0)], [(113, 12, 1, 0, 1, 6023, 0), (116, 170, 0, 2, 12, 6202, 6), (120, 12, 9, 0, 1, 6031, 0), (123, 12, 8, 0, 1, 6030, 0), (126, 174, 0, 1, 12, 6222, 6)], [(130, 176, 0, 2, 12, 6235, 6), (134, 177, 0, 2, 12, 6231, 6), (138, 178, 0, 1, 12, 7015, 6), (141, 175, 0, 2, 12, 7027, 6)], [(144, 173, 0, 3, 12, 7003, 6), (148, 12, 10, 0, 1, 6032, 0), (151, 167, 0, 3, 99, 7031, 1), (155, 3348070794885, 0, 0, 0, 7000, 4), (157, 538449491, 0, 0, 0, 7075, 4), (159, 6050369, 0, 0, 0, 7076, 4)], [(161, 595572, 0, 0, 0, 7077, 4), (163, 479437459, 0, 0, 0, 7078, 4), (165, 366100, 0, 0, 0, 7079, 4), (167, 211232360, 0, 0, 0, 7080, 4), (169, 769611, 0, 0, 0, 7081, 4), (171, 87673, 0, 0, 0, 7082, 4), (173, 24739718599, 0, 0, 0, 7083, 4), (175, 677454, 0, 0, 0, 7084, 4)], [(177, 12, 11, 0, 1, 6033, 0), (180, 12, 12, 0, 1, 6034, 0), (183, 12, 13, 0, 1, 6035, 0), (186, 12, 16, 0, 1, 6038, 0), (189, 185, 0, 1, 99, 7115, 1)], [(193, 182, 0, 3, 12, 7067, 6), (197, 99999, 0, 0, 0, 7062, 3), (198, 180, 0, 3, 12, 7023, 6), (201, 183, 0, 2, 12, 7063, 6), (204, 181, 0, 1, 12, 7071, 6), (207, 187, 0, 1, 12, 7058, 6)], [(211, 188, 0, 1, 12, 7054, 6), (214, 189, 0, 1, 12, 7050, 6), (217, 14836, 0, 0, 0, 7098, 4), (219, 184, 0, 2, 12, 7099, 6), (222, 190, 0, 1, 12, 7103, 6)], [(225, 186, 0, 2, 12, 7111, 6), (228, 192, 0, 1, 12, 7118, 6), (231, 191, 0, 1, 12, 7094, 6), (234, 193, 0, 1, 12, 7107, 6), (237, 1476, 0, 0, 0, 7122, 4), (239, 498, 0, 0, 0, 7123, 4)], [(241, 294, 0, 0, 0, 7085, 4), (243, 179, 0, 2, 12, 7086, 6), (246, 194, 0, 1, 12, 7090, 6), (249, 196, 0, 4, 12, 7019, 6), (253, 4153, 0, 0, 0, 6230, 4), (255, 197, 0, 2, 12, 7011, 6)], [(258, 16826546, 0, 0, 0, 6239, 4), (260, 198, 0, 2, 12, 7034, 6), (263, 199, 0, 2, 12, 7038, 6), (266, 200, 0, 1, 12, 7042, 6), (269, 21015726, 0, 0, 0, 7001, 4), (271, 202, 0, 1, 12, 6226, 6)], [(274, 536622, 0, 0, 0, 7002, 4), (276, 12, 14, 0, 1, 6036, 0), (279, 201, 0, 2, 12, 7007, 6), (282, 195, 0, 1, 12, 7046, 6), (285, 203, 0, 1, 12, 6218, 6)], [(288, 12, 2, 0, 1, 6024, 0), (291, 204, 0, 1, 12, 6214, 6), (294, 227, 0, 1, 12, 7128, 6), (297, 12, 37, 0, 1, 6059, 0), (300, 12, 18, 0, 1, 6040, 0), (303, 208, 0, 2, 12, 8054, 6)], [(307, 209, 0, 1, 12, 8058, 6), (311, 210, 0, 3, 99, 8062, 1), (315, 214, 0, 2, 12, 7160, 6), (318, 168, 0, 2, 99, 7153, 1)], [(321, 217, 0, 3, 12, 7149, 6), (324, 219, 0, 3, 12, 7189, 6), (328, 215, 0, 2, 12, 7217, 6), (331, 218, 0, 3, 12, 7185, 6), (334, 216, 0, 2, 12, 7177, 6)], [(337, 222, 0, 3, 12, 7181, 6), (340, 224, 0, 3, 12, 8119, 6), (343, 225, 0, 2, 12, 8210, 6), (346, 207, 0, 2, 12, 7136, 6), (349, 213, 0, 2, 12, 7144, 6)], [(352, 2, 0, 0, 0, 7148, 4), (354, 212, 0, 1, 12, 7168, 6), (357, 29, 0, 0, 0, 7172, 4), (359, 223, 0, 2, 12, 7173, 6), (362, 12, 28, 0, 1, 6050, 0), (365, 233, 0, 1, 99, 7229, 1)], [(368, 236, 0, 1, 99, 8004, 1), (371, 235, 0, 3, 12, 8007, 6), (374, 12, 33, 0, 1, 6055, 0), (377, 12, 35, 0, 1, 6057, 0), (380, 237, 0, 6, 12, 8000, 6)], [(384, 12, 34, 0, 1, 6056, 0), (387, 240, 0, 2, 12, 8015, 6), (390, 239, 0, 3, 12, 8019, 6), (393, 12, 32, 0, 1, 6054, 0), (396, 12, 29, 0, 1, 6051, 0), (399, 12, 30, 0, 1, 6052, 0)], [(402, 12, 31, 0, 1, 6053, 0), (405, 234, 0, 2, 12, 7232, 6), (408, 238, 0, 2, 12, 7236, 6), (411, 241, 0, 2, 12, 8011, 6), (414, 242, 0, 1, 12, 8023, 6)], [(417, 243, 0, 3, 12, 7225, 6), (420, 244, 0, 2, 12, 7221, 6), (423, 211, 0, 4, 12, 8050, 6), (427, 169, 0, 1, 99, 8031, 1), (430, 220, 0, 2, 12, 8034, 6)], [(433, 248, 0, 1, 12, 8038, 6), (436, 221, 0, 1, 12, 8042, 6), (439, 247, 0, 2, 12, 8046, 6), (443, 249, 0, 2, 12, 8027, 6), (446, 250, 0, 1, 12, 7213, 6)], [(449, 245, 0, 2, 12, 8065, 6), (452, 251, 0, 1, 12, 7209, 6), (455, 253, 0, 1, 12, 7205, 6), (458, 246, 0, 2, 12, 8077, 6), (461, 9, 0, 0, 0, 8085, 4), (463, 258, 0, 3, 12, 8086, 6)], [(466, 7, 0, 0, 0, 8102, 4), (468, 265, 0, 3, 12, 8115, 6), (471, 267, 0, 3, 12, 8131, 6), (474, 268, 0, 3, 12, 8127, 6), (477, 6, 0, 0, 0, 8143, 4), (479, 271, 0, 2, 12, 8144, 6)], [(482, 273, 0, 3, 12, 8152, 6), (485, 275, 0, 4, 12, 8160, 6), (488, 12, 47, 0, 1, 6069, 0), (491, 278, 0, 1, 12, 8181, 6), (494, 12, 48, 0, 1, 6070, 0)], [(497, 12, 49, 0, 1, 6071, 0), (500, 5, 0, 0, 0, 8168, 4), (502, 277, 0, 1, 12, 8169, 6), (505, 279, 0, 2, 12, 8173, 6), (508, 280, 0, 1, 12, 8177, 6), (511, 282, 0, 1, 12, 8189, 6)], [(514, 20, 0, 0, 0, 8197, 4), (516, 252, 0, 2, 12, 8198, 6), (519, 285, 0, 1, 12, 8202, 6), (522, 226, 0, 1, 12, 8206, 6), (525, 284, 0, 1, 12, 8214, 6)], [(528, 289, 0, 2, 12, 8230, 6), (531, 290, 0, 3, 12, 8226, 6), (534, 288, 0, 3, 12, 8234, 6), (537, 9999, 0, 0, 0, 9002, 4), (539, 294, 0, 2, 12, 9019, 6), (542, 295, 0, 3, 12, 9015, 6)], [(545, 296, 0, 2, 12, 9011, 6), (548, 298, 0, 2, 12, 9027, 6), (551, 300, 0, 4, 12, 9035, 6), (555, 12, 22, 0, 1, 6044, 0), (558, 12, 53, 1, 1, 6075, 0)], [(562, 1103515245, 0, 0, 0, 9056, 4), (564, 12345, 0, 0, 0, 9057, 4), (566, 2147483648, 0, 0, 0, 9058, 4), (568, 65536, 0, 0, 0, 9059, 4), (570, 100, 0, 0, 0, 9051, 4), (572, 304, 0, 2, 12, 9052, 6), (575, 3, 0, 0, 0, 9068, 4)]]
def mLk13 : List (List mLR) := [[(7, 11, 0, 14, 0, 1021, 2), (9, 121, 406, 1, 11, 1023, 7), (10, 12, 0, 58, 0, 6016, 2), (12, 166, 32, 1, 12, 6018, 7), (13, 122, 0, 6, 11, 2215, 6)], [(17, 171, 0, 6, 12, 6198, 6), (18, 123, 0, 2, 11, 2227, 6), (22, 172, 0, 2, 12, 6206, 6), (23, 124, 0, 1, 11, 2231, 6), (27, 206, 0, 1, 12, 7124, 6), (28, 125, 0, 1, 11, 3118, 6), (31, 205, 0, 1, 12, 6210, 6)], [(32, 126, 0, 2, 11, 3193, 6), (35, 228, 0, 2, 12, 7132, 6), (36, 127, 0, 3, 11, 3197, 6), (40, 229, 0, 3, 12, 7140, 6), (41, 128, 0, 3, 11, 3213, 6), (44, 230, 0, 3, 12, 7156, 6), (45, 129, 0, 2, 11, 3226, 6)], [(48, 231, 0, 2, 12, 7164, 6), (49, 130, 0, 3, 11, 4004, 6), (52, 232, 0, 3, 12, 7193, 6), (53, 131, 0, 1, 11, 4013, 6), (56, 255, 0, 1, 12, 7201, 6), (57, 132, 0, 2, 11, 4133, 6), (60, 256, 0, 2, 12, 8069, 6), (61, 133, 0, 2, 11, 4139, 6)], [(64, 257, 0, 2, 12, 8073, 6), (65, 134, 0, 3, 11, 4153, 6), (68, 259, 0, 3, 12, 8081, 6), (69, 135, 0, 3, 11, 4167, 6), (72, 260, 0, 3, 12, 8090, 6), (73, 136, 0, 1, 11, 4171, 6), (76, 254, 0, 1, 12, 7197, 6), (77, 137, 0, 3, 11, 4175, 6)], [(80, 261, 0, 3, 12, 8094, 6), (81, 138, 0, 3, 11, 4183, 6), (84, 262, 0, 3, 12, 8098, 6), (85, 139, 0, 2, 11, 4187, 6), (88, 263, 0, 2, 12, 8103, 6), (89, 140, 0, 3, 11, 4191, 6), (92, 264, 0, 3, 12, 8107, 6), (93, 141, 0, 3, 11, 4199, 6)], [(96, 266, 0, 3, 12, 8111, 6), (97, 142, 0, 3, 11, 4213, 6), (100, 269, 0, 3, 12, 8123, 6), (101, 143, 0, 4, 11, 4230, 6), (105, 270, 0, 4, 12, 8135, 6), (106, 144, 0, 3, 11, 5004, 6), (109, 272, 0, 3, 12, 8139, 6), (110, 145, 0, 4, 11, 5018, 6)], [(113, 274, 0, 4, 12, 8148, 6), (114, 146, 0, 3, 11, 5038, 6), (117, 276, 0, 3, 12, 8156, 6), (118, 147, 0, 2, 11, 5048, 6), (121, 281, 0, 2, 12, 8164, 6), (122, 148, 0, 3, 11, 5071, 6), (125, 283, 0, 3, 12, 8185, 6), (126, 149, 0, 3, 11, 5087, 6)], [(129, 286, 0, 3, 12, 8193, 6), (130, 150, 0, 2, 11, 5103, 6), (133, 287, 0, 2, 12, 8218, 6), (134, 151, 0, 3, 11, 5111, 6), (137, 301, 0, 3, 12, 9031, 6), (138, 152, 0, 2, 11, 5134, 6), (141, 302, 0, 2, 12, 9039, 6), (142, 153, 0, 4, 11, 5142, 6)], [(145, 291, 0, 4, 12, 8222, 6), (146, 154, 0, 3, 11, 5158, 6), (149, 292, 0, 3, 12, 8238, 6), (150, 155, 0, 4, 11, 5168, 6), (153, 293, 0, 4, 12, 9003, 6), (154, 156, 0, 2, 11, 5181, 6), (157, 297, 0, 2, 12, 9007, 6), (158, 157, 0, 3, 11, 5189, 6)], [(161, 299, 0, 3, 12, 9023, 6), (162, 158, 0, 2, 11, 5209, 6), (165, 303, 0, 2, 12, 9043, 6), (166, 159, 0, 5, 11, 5213, 6), (170, 305, 0, 5, 12, 9047, 6), (171, 160, 0, 2, 11, 5234, 6), (174, 306, 0, 2, 12, 9060, 6), (175, 161, 0, 2, 11, 5238, 6)], [(178, 307, 0, 2, 12, 9064, 6), (179, 162, 0, 2, 11, 6012, 6), (182, 308, 0, 2, 12, 9069, 6)]]
def mLk14 : List (List mLR) := [[], [], [], [], [], [], [], [], [], [], [], [], [], [], [], [], [(264, 65536, 0, 0, 0, 4082, 3), (265, 1431655765, 0, 0, 0, 4070, 3), (266, 858993459, 0, 0, 0, 4071, 3), (267, 252645135, 0, 0, 0, 4072, 3)]]
def mLk15 : List (List mLR) := [[]]
def mLk : List (List (List mLR)) := [mLk0, mLk1, mLk2, mLk3, mLk4, mLk5, mLk6, mLk7, mLk8, mLk9, mLk10, mLk11, mLk12, mLk13, mLk14, mLk15]
/-- of each method: the places of its words: code, instance or static, selects, initialized; 1 if it is static -/
def mPl0 : List (Nat × Nat × Nat × Nat × Nat) := [(0, 0, 0, 1000, 1), (1103, 1102, 0, 1006, 0), (3010, 3008, 3009, 1006, 0), (3113, 3111, 3112, 1006, 0), (3092, 3090, 3091, 1006, 0), (3100, 3098, 3099, 1006, 0), (3233, 3231, 3232, 1006, 0), (3204, 3202, 3203, 1006, 0), (3220, 3218, 3219, 1006, 0), (4146, 4144, 4145, 1006, 0), (3224, 3222, 3223, 1006, 0), (4098, 4096, 4097, 1006, 0), (3212, 3210, 3211, 1006, 0), (3208, 3206, 3207, 1006, 0), (4012, 4010, 4011, 1006, 0), (4107, 4105, 4106, 1006, 0), (4182, 4180, 4181, 1006, 0), (4000, 3238, 3239, 1006, 0), (4045, 4043, 4044, 1006, 0), (4093, 4091, 4092, 1006, 0), (4209, 4207, 4208, 1006, 0), (5068, 5066, 5067, 1006, 0), (5099, 5097, 5098, 1006, 0), (4132, 4130, 4131, 1006, 0), (4150, 4148, 4149, 1006, 0), (4160, 4158, 4159, 1006, 0), (4165, 4163, 4164, 1006, 0), (5015, 5013, 5014, 1006, 0), (5011, 5009, 5010, 1006, 0), (5045, 5043, 5044, 1006, 0), (5165, 5163, 5164, 1006, 0), (4054, 4053, 0, 1006, 1), (4085, 4084, 0, 1006, 1), (1068, 1067, 0, 1003, 0), (2238, 2236, 2237, 1003, 0), (3014, 3013, 0, 1003, 0), (3076, 3075, 1, 1003, 0), (3088, 3087, 3, 1003, 0), (3096, 3095, 4, 1003, 0), (3104, 3103, 5, 1003, 0)]
def mPl1 : List (Nat × Nat × Nat × Nat × Nat) := [(3080, 3079, 2, 1003, 0), (2132, 2131, 0, 1011, 0), (4205, 4204, 0, 1011, 1), (4220, 4218, 4219, 1011, 0), (4225, 4224, 21, 1011, 0), (4229, 4228, 22, 1011, 0), (4237, 4235, 4236, 1011, 0), (5002, 5000, 5001, 1011, 0), (5026, 5024, 5025, 1011, 0), (5030, 5029, 23, 1011, 0), (5033, 5032, 0, 1011, 1), (5037, 5036, 24, 1011, 0), (1190, 1189, 0, 1007, 0), (6010, 6008, 6009, 1007, 0), (5175, 5173, 5174, 1007, 0), (5179, 5177, 5178, 1007, 0), (5126, 5124, 5125, 1007, 0), (5131, 5129, 5130, 1007, 0), (2002, 2001, 0, 1008, 0), (4037, 4035, 4036, 1008, 0), (4126, 4124, 4125, 1008, 0), (4198, 4196, 4197, 1008, 0), (4041, 4040, 14, 1008, 0), (4050, 4049, 0, 1008, 1), (4062, 4061, 15, 1008, 0), (4077, 4076, 17, 1008, 0), (4066, 4065, 16, 1008, 0), (2153, 2152, 0, 1012, 0), (3180, 3179, 0, 1012, 1), (3160, 3159, 0, 1012, 1), (3166, 3165, 0, 1012, 1), (3130, 3128, 3129, 1012, 0), (3157, 3155, 3156, 1012, 0), (3191, 3189, 3190, 1012, 0), (4112, 4110, 4111, 1012, 0), (4116, 4115, 20, 1012, 0), (4122, 4121, 0, 1012, 1), (1082, 1081, 0, 1004, 0), (3125, 3123, 3124, 1004, 0), (3134, 3133, 6, 1004, 0)]
def mPl2 : List (Nat × Nat × Nat × Nat × Nat) := [(3172, 3171, 9, 1004, 0), (3176, 3175, 10, 1004, 0), (3145, 3144, 7, 1004, 0), (3149, 3148, 8, 1004, 0), (1097, 1096, 0, 1005, 0), (6005, 6003, 6004, 1005, 0), (1033, 1032, 0, 1002, 0), (2222, 2220, 2221, 1002, 0), (2226, 2224, 2225, 1002, 0), (3002, 3000, 3001, 1002, 0), (3006, 3004, 3005, 1002, 0), (3018, 3016, 3017, 1002, 0), (3138, 3136, 3137, 1002, 0), (3108, 3106, 3107, 1002, 0), (3071, 3069, 3070, 1002, 0), (3084, 3082, 3083, 1002, 0), (2077, 2076, 0, 1010, 0), (5055, 5053, 5054, 1010, 0), (5062, 5061, 25, 1010, 0), (5078, 5076, 5077, 1010, 0), (5083, 5081, 5082, 1010, 0), (5094, 5092, 5093, 1010, 0), (5110, 5108, 5109, 1010, 0), (5118, 5116, 5117, 1010, 0), (5141, 5139, 5140, 1010, 0), (5188, 5186, 5187, 1010, 0), (5122, 5121, 26, 1010, 0), (5196, 5194, 5195, 1010, 0), (5202, 5200, 5201, 1010, 0), (5206, 5204, 5205, 1010, 0), (5149, 5147, 5148, 1010, 0), (5153, 5152, 27, 1010, 0), (5157, 5156, 28, 1010, 0), (5220, 5218, 5219, 1010, 0), (5224, 5223, 29, 1010, 0), (5228, 5227, 30, 1010, 0), (2060, 2059, 0, 1009, 0), (4028, 4026, 4027, 1009, 0), (4032, 4031, 13, 1009, 0), (4089, 4088, 18, 1009, 0)]
def mPl3 : List (Nat × Nat × Nat × Nat × Nat) := [(4103, 4102, 19, 1009, 0), (1025, 1024, 0, 1001, 0), (2218, 2216, 2217, 1001, 0), (2230, 2228, 2229, 1001, 0), (2234, 2232, 2233, 1001, 0), (3121, 3119, 3120, 1001, 0), (3196, 3194, 3195, 1001, 0), (3200, 3198, 3199, 1001, 0), (3216, 3214, 3215, 1001, 0), (3229, 3227, 3228, 1001, 0), (4007, 4005, 4006, 1001, 0), (4016, 4014, 4015, 1001, 0), (4136, 4134, 4135, 1001, 0), (4142, 4140, 4141, 1001, 0), (4156, 4154, 4155, 1001, 0), (4170, 4168, 4169, 1001, 0), (4174, 4172, 4173, 1001, 0), (4178, 4176, 4177, 1001, 0), (4186, 4184, 4185, 1001, 0), (4190, 4188, 4189, 1001, 0), (4194, 4192, 4193, 1001, 0), (4202, 4200, 4201, 1001, 0), (4216, 4214, 4215, 1001, 0), (4233, 4231, 4232, 1001, 0), (5007, 5005, 5006, 1001, 0), (5021, 5019, 5020, 1001, 0), (5041, 5039, 5040, 1001, 0), (5051, 5049, 5050, 1001, 0), (5074, 5072, 5073, 1001, 0), (5090, 5088, 5089, 1001, 0), (5106, 5104, 5105, 1001, 0), (5114, 5112, 5113, 1001, 0), (5137, 5135, 5136, 1001, 0), (5145, 5143, 5144, 1001, 0), (5161, 5159, 5160, 1001, 0), (5171, 5169, 5170, 1001, 0), (5184, 5182, 5183, 1001, 0), (5192, 5190, 5191, 1001, 0), (5212, 5210, 5211, 1001, 0), (5216, 5214, 5215, 1001, 0)]
def mPl4 : List (Nat × Nat × Nat × Nat × Nat) := [(5237, 5235, 5236, 1001, 0), (6001, 5239, 6000, 1001, 0), (6015, 6013, 6014, 1001, 0), (3236, 3235, 0, 1001, 1), (4024, 4023, 12, 1001, 0), (4020, 4019, 11, 1001, 0), (6020, 6019, 0, 1013, 0), (7033, 7032, 0, 1013, 1), (7155, 7154, 0, 1013, 1), (8033, 8032, 0, 1013, 1), (6205, 6204, 31, 1013, 0), (6201, 6199, 6200, 1013, 0), (6209, 6207, 6208, 1013, 0), (7006, 7005, 38, 1013, 0), (6225, 6224, 34, 1013, 0), (7030, 7029, 44, 1013, 0), (6238, 6237, 37, 1013, 0), (6234, 6233, 36, 1013, 0), (7018, 7017, 41, 1013, 0), (7089, 7088, 55, 1013, 0), (7026, 7025, 43, 1013, 0), (7074, 7073, 54, 1013, 0), (7070, 7069, 53, 1013, 0), (7066, 7065, 52, 1013, 0), (7102, 7101, 58, 1013, 0), (7117, 7116, 0, 1013, 1), (7114, 7113, 61, 1013, 0), (7061, 7060, 51, 1013, 0), (7057, 7056, 50, 1013, 0), (7053, 7052, 49, 1013, 0), (7106, 7105, 59, 1013, 0), (7097, 7096, 57, 1013, 0), (7121, 7120, 62, 1013, 0), (7110, 7109, 60, 1013, 0), (7093, 7092, 56, 1013, 0), (7049, 7048, 48, 1013, 0), (7022, 7021, 42, 1013, 0), (7014, 7013, 40, 1013, 0), (7037, 7036, 45, 1013, 0), (7041, 7040, 46, 1013, 0)]
def mPl5 : List (Nat × Nat × Nat × Nat × Nat) := [(7045, 7044, 47, 1013, 0), (7010, 7009, 39, 1013, 0), (6229, 6228, 35, 1013, 0), (6221, 6220, 33, 1013, 0), (6217, 6216, 32, 1013, 0), (6213, 6211, 6212, 1013, 0), (7127, 7125, 7126, 1013, 0), (7139, 7138, 64, 1013, 0), (8057, 8056, 94, 1013, 0), (8061, 8060, 95, 1013, 0), (8064, 8063, 0, 1013, 1), (8053, 8052, 93, 1013, 0), (7171, 7170, 68, 1013, 0), (7147, 7146, 65, 1013, 0), (7163, 7162, 67, 1013, 0), (7220, 7219, 77, 1013, 0), (7180, 7179, 70, 1013, 0), (7152, 7151, 66, 1013, 0), (7188, 7187, 72, 1013, 0), (7192, 7191, 73, 1013, 0), (8037, 8036, 89, 1013, 0), (8045, 8044, 91, 1013, 0), (7184, 7183, 71, 1013, 0), (7176, 7175, 69, 1013, 0), (8122, 8121, 100, 1013, 0), (8213, 8212, 114, 1013, 0), (8209, 8208, 113, 1013, 0), (7131, 7130, 63, 1013, 0), (7135, 7133, 7134, 1013, 0), (7143, 7141, 7142, 1013, 0), (7159, 7157, 7158, 1013, 0), (7167, 7165, 7166, 1013, 0), (7196, 7194, 7195, 1013, 0), (7231, 7230, 0, 1013, 1), (7235, 7234, 80, 1013, 0), (8010, 8009, 83, 1013, 0), (8006, 8005, 0, 1013, 1), (8003, 8002, 82, 1013, 0), (7239, 7238, 81, 1013, 0), (8022, 8021, 86, 1013, 0)]
def mPl6 : List (Nat × Nat × Nat × Nat × Nat) := [(8018, 8017, 85, 1013, 0), (8014, 8013, 84, 1013, 0), (8026, 8025, 87, 1013, 0), (7228, 7227, 79, 1013, 0), (7224, 7223, 78, 1013, 0), (8068, 8067, 96, 1013, 0), (8080, 8079, 97, 1013, 0), (8049, 8048, 92, 1013, 0), (8041, 8040, 90, 1013, 0), (8030, 8029, 88, 1013, 0), (7216, 7215, 76, 1013, 0), (7212, 7211, 75, 1013, 0), (8201, 8200, 111, 1013, 0), (7208, 7207, 74, 1013, 0), (7200, 7198, 7199, 1013, 0), (7204, 7202, 7203, 1013, 0), (8072, 8070, 8071, 1013, 0), (8076, 8074, 8075, 1013, 0), (8089, 8088, 98, 1013, 0), (8084, 8082, 8083, 1013, 0), (8093, 8091, 8092, 1013, 0), (8097, 8095, 8096, 1013, 0), (8101, 8099, 8100, 1013, 0), (8106, 8104, 8105, 1013, 0), (8110, 8108, 8109, 1013, 0), (8118, 8117, 99, 1013, 0), (8114, 8112, 8113, 1013, 0), (8134, 8133, 102, 1013, 0), (8130, 8129, 101, 1013, 0), (8126, 8124, 8125, 1013, 0), (8138, 8136, 8137, 1013, 0), (8147, 8146, 103, 1013, 0), (8142, 8140, 8141, 1013, 0), (8155, 8154, 104, 1013, 0), (8151, 8149, 8150, 1013, 0), (8163, 8162, 105, 1013, 0), (8159, 8157, 8158, 1013, 0), (8172, 8171, 106, 1013, 0), (8184, 8183, 109, 1013, 0), (8176, 8175, 107, 1013, 0)]
def mPl7 : List (Nat × Nat × Nat × Nat × Nat) := [(8180, 8179, 108, 1013, 0), (8167, 8165, 8166, 1013, 0), (8192, 8191, 110, 1013, 0), (8188, 8186, 8187, 1013, 0), (8217, 8216, 115, 1013, 0), (8205, 8204, 112, 1013, 0), (8196, 8194, 8195, 1013, 0), (8221, 8219, 8220, 1013, 0), (8237, 8236, 118, 1013, 0), (8233, 8232, 117, 1013, 0), (8229, 8228, 116, 1013, 0), (8225, 8223, 8224, 1013, 0), (9001, 8239, 9000, 1013, 0), (9006, 9004, 9005, 1013, 0), (9022, 9021, 121, 1013, 0), (9018, 9017, 120, 1013, 0), (9014, 9013, 119, 1013, 0), (9010, 9008, 9009, 1013, 0), (9030, 9029, 122, 1013, 0), (9026, 9024, 9025, 1013, 0), (9038, 9037, 123, 1013, 0), (9034, 9032, 9033, 1013, 0), (9042, 9040, 9041, 1013, 0), (9046, 9044, 9045, 1013, 0), (9055, 9054, 124, 1013, 0), (9050, 9048, 9049, 1013, 0), (9063, 9061, 9062, 1013, 0), (9067, 9065, 9066, 1013, 0), (9072, 9070, 9071, 1013, 0), (4069, 4068, 0, 1020, 1), (4081, 4080, 0, 1020, 1)]
def mPl : List (List (Nat × Nat × Nat × Nat × Nat)) := [mPl0, mPl1, mPl2, mPl3, mPl4, mPl5, mPl6, mPl7]
