/-! the tables are as the words say -/
def plA (mj : Nat) : Nat × Nat × Nat × Nat × Nat := (mPl.getD (mj / 40) []).getD (mj % 40) (0, 0, 0, 0, 0)
def lw_ch : List (List Cond) := [k2_sels lw_privs, tables_1_1, tables_1_2, tables_1_3, tables_1_4, tables_1_5, tables_1_6, tables_1_7, tables_1_8, tables_1_9]
theorem lw_ch_in : ∀ l ∈ lw_ch, ∀ w ∈ l, w ∈ lw_tbl := by
  intro l hl w hw
  unfold lw_tbl tables_1
  simp only [lw_ch, List.mem_cons, List.not_mem_nil, or_false] at hl
  simp only [List.mem_append]
  rcases hl with rfl | rfl | rfl | rfl | rfl | rfl | rfl | rfl | rfl | rfl <;> simp only [hw, true_or, or_true]
def wAt (p : Nat) (w : Cond) : Bool := decide ((lw_ch.getD (p / 1000) [])[p % 1000]? = some w)
theorem wAt_tbl {p : Nat} {w : Cond} (h : wAt p w = true) : w ∈ lw_tbl := by
  have h1 := List.mem_of_getElem? (of_decide_eq_true h)
  rw [List.getD_eq_getElem?_getD] at h1
  cases hc : lw_ch[p / 1000]? with
  | none => rw [hc] at h1; exact absurd h1 List.not_mem_nil
  | some l => rw [hc] at h1; exact lw_ch_in l (List.mem_of_getElem? hc) w h1
theorem wAt_in {p : Nat} {w : Cond} (h : wAt p w = true) (hg : goodWord w = true) : w ∈ mT := List.mem_filter.mpr ⟨wAt_tbl h, hg⟩
def ckR (rk : Nat) (r : Option FieldType) (nm : String) : Bool := match rk, r with
  | 0, none => true
  | 6, none => nm == "<init>"
  | 1, some .int => true
  | 2, some .boolean => true
  | 3, some .char => true
  | 4, some .long => true
  | 5, some (.object _) => true
  | _, _ => false
def ckM (mj : Nat) : Bool :=
  wAt (plA mj).1 (.code (mY mj) (mB mj) (mML mj) (mRet mj)) && wAt (plA mj).2.2.2.1 (.initialized (mY mj).cls) && (mY mj).cls != "java/lang/invoke/MethodHandle" && (mY mj).cls != "java/lang/invoke/VarHandle" && plainName (mY mj).cls && decide (mML mj ≤ 40) && ckR (mRk mj) (mRet mj) (mY mj).name &&
  (match (plA mj).2.2.2.2 with
    | 1 => wAt (plA mj).2.1 (.static (mY mj)) && decide ((parseMethodDescriptor (mY mj).desc).map (fun d => d.parameters.length) = some (mNa mj))
    | _ => wAt (plA mj).2.1 (.instanceMethod (mY mj)) && (mRk mj == 6 || wAt (plA mj).2.2.1 (.selects (mY mj).cls (mY mj) (mY mj))) && decide ((parseMethodDescriptor (mY mj).desc).map (fun d => d.parameters.length + 1) = some (mNa mj)))
def sLen : MethodName := ⟨"java/lang/String", "length", "()I"⟩
def sChr : MethodName := ⟨"java/lang/String", "charAt", "(I)C"⟩
def clIs (ci : Nat) (C : String) : Bool := match mCl[ci]? with
  | some r => r.1 == C
  | none => false
def ckL (cn : Nat) (q : mLR) : Bool := match q.2.2.2.2.2.2 with
  | 0 => (match mCl[q.2.1.toNat]? with
    | some r => decide (0 ≤ q.2.1) && decide (0 ≤ q.2.2.1) && decide (q.2.2.1.toNat < r.2.2) && wAt q.2.2.2.2.2.1 (.fieldLink (mNames.getD cn "") q.1 r.1 (r.2.1 q.2.2.1.toNat).2.1 (r.2.1 q.2.2.1.toNat).2.2.1) && mFKd q.2.1.toNat q.2.2.1.toNat == q.2.2.2.1 && (q.2.2.2.2.1 != 1 || r.1 == mNames.getD cn "")
    | none => false)
  | 1 => (match q.2.1 with
    | .ofNat mj => decide (0 < mj ∧ mj < 311) && wAt q.2.2.2.2.2.1 (.methodLink (mNames.getD cn "") q.1 (mY mj)) && (plA mj).2.2.2.2 == 1 && q.2.2.1 == (mCe mj : Int) && q.2.2.2.1 == mNa mj
    | .negSucc 1 => wAt q.2.2.2.2.2.1 (.methodLink (mNames.getD cn "") q.1 arraycopyName)
    | .negSucc 4 => wAt q.2.2.2.2.2.1 (.methodLink (mNames.getD cn "") q.1 Lib.Math.max.name)
    | .negSucc 5 => wAt q.2.2.2.2.2.1 (.methodLink (mNames.getD cn "") q.1 Lib.Math.min.name)
    | _ => false)
  | 6 => (match q.2.1 with
    | .ofNat mj => decide (0 < mj ∧ mj < 311) && wAt q.2.2.2.2.2.1 (.methodLink (mNames.getD cn "") q.1 (mY mj)) && (plA mj).2.2.2.2 == 0 && mRk mj != 6 && q.2.2.1 == (mCe mj : Int) && q.2.2.2.1 == mNa mj && clIs q.2.2.2.2.1 (mY mj).cls
    | .negSucc 2 => cn == 8 && wAt q.2.2.2.2.2.1 (.methodLink (mNames.getD cn "") q.1 sLen)
    | .negSucc 3 => cn == 8 && wAt q.2.2.2.2.2.1 (.methodLink (mNames.getD cn "") q.1 sChr)
    | _ => false)
  | 7 => (match q.2.1 with
    | .ofNat mj => decide (0 < mj ∧ mj < 311) && (wAt q.2.2.2.2.2.1 (.methodLink (mNames.getD cn "") q.1 (mY mj)) || wAt q.2.2.2.2.2.1 (.methodLinkNest (mNames.getD cn "") q.1 (mY mj) "ClashDay")) && (plA mj).2.2.2.2 == 0 && mRk mj == 6 && q.2.2.1 == (mCe mj : Int) && q.2.2.2.1 == mNa mj && clIs q.2.2.2.2.1 (mY mj).cls
    | .negSucc 0 => wAt q.2.2.2.2.2.1 (.methodLink (mNames.getD cn "") q.1 Lib.objectInit)
    | _ => false)
  | 2 => (match q.2.1 with
    | .ofNat 28 => wAt q.2.2.2.2.2.1 (.classLink (mNames.getD cn "") q.1 "[[I")
    | .ofNat ci => (match mCl[ci]? with
      | some r => wAt q.2.2.2.2.2.1 (.classLink (mNames.getD cn "") q.1 r.1) && q.2.2.2.1 == r.2.2
      | none => false)
    | _ => false)
  | 3 => wAt q.2.2.2.2.2.1 (.constant (mNames.getD cn "") q.1 (Int32.ofInt q.2.1)) && decide (-2147483648 ≤ q.2.1 ∧ q.2.1 < 2147483648) && q.2.2.1 == 0
  | 4 => wAt q.2.2.2.2.2.1 (.constantLong (mNames.getD cn "") q.1 (Int64.ofInt q.2.1)) && decide (-9223372036854775808 ≤ q.2.1 ∧ q.2.1 < 9223372036854775808)
  | 5 => cn == 8 && q.1 == 37 && q.2.2.1 == 1
  | _ => false
set_option maxRecDepth 100000 in
theorem ckL_0 : mLk0.all (fun g => g.all (ckL 0)) = true := by decide +kernel
set_option maxRecDepth 100000 in
theorem ckL_1 : mLk1.all (fun g => g.all (ckL 1)) = true := by decide +kernel
set_option maxRecDepth 100000 in
theorem ckL_2 : mLk2.all (fun g => g.all (ckL 2)) = true := by decide +kernel
set_option maxRecDepth 100000 in
theorem ckL_3 : mLk3.all (fun g => g.all (ckL 3)) = true := by decide +kernel
set_option maxRecDepth 100000 in
theorem ckL_4 : mLk4.all (fun g => g.all (ckL 4)) = true := by decide +kernel
set_option maxRecDepth 100000 in
theorem ckL_5 : mLk5.all (fun g => g.all (ckL 5)) = true := by decide +kernel
set_option maxRecDepth 100000 in
theorem ckL_6 : mLk6.all (fun g => g.all (ckL 6)) = true := by decide +kernel
set_option maxRecDepth 100000 in
theorem ckL_7 : mLk7.all (fun g => g.all (ckL 7)) = true := by decide +kernel
set_option maxRecDepth 100000 in
theorem ckL_8 : mLk8.all (fun g => g.all (ckL 8)) = true := by decide +kernel
set_option maxRecDepth 100000 in
theorem ckL_9 : mLk9.all (fun g => g.all (ckL 9)) = true := by decide +kernel
set_option maxRecDepth 100000 in
theorem ckL_10 : mLk10.all (fun g => g.all (ckL 10)) = true := by decide +kernel
set_option maxRecDepth 100000 in
theorem ckL_11 : mLk11.all (fun g => g.all (ckL 11)) = true := by decide +kernel
set_option maxRecDepth 100000 in
theorem ckL_12 : mLk12.all (fun g => g.all (ckL 12)) = true := by decide +kernel
set_option maxRecDepth 100000 in
theorem ckL_13 : mLk13.all (fun g => g.all (ckL 13)) = true := by decide +kernel
set_option maxRecDepth 100000 in
theorem ckL_14 : mLk14.all (fun g => g.all (ckL 14)) = true := by decide +kernel
set_option maxRecDepth 100000 in
theorem ckL_15 : mLk15.all (fun g => g.all (ckL 15)) = true := by decide +kernel
def lay0 : List Nat := [1155, 1157, 1159, 1161, 1163, 1165, 1167, 1169, 1171, 1173, 1175, 1177, 1179, 1181, 1183]
set_option maxRecDepth 100000 in
theorem layk_0 : ∀ j, j < 15 → wAt (lay0.getD j 0) (u_lay "ClashDay$Board" kT0 j) = true := by decide +kernel
set_option maxRecDepth 100000 in
theorem cty_0 : ∀ j, j < 15 → parseFieldDescriptor (kT0 j).2.2.1 = some (kY0 j) := by decide +kernel
set_option maxRecDepth 100000 in
theorem cnm_0 : ∀ a, a < 15 → ∀ b, b < 15 → a ≠ b → (kT0 a).2.1 ≠ (kT0 b).2.1 := by decide +kernel
set_option maxRecDepth 100000 in
theorem cdf_0 : ∀ j, j < 15 → defaultValue (kY0 j) = (if mFKd 0 j = 1 then .long 0 else if mFKd 0 j = 2 then .null else .int 0) := by decide +kernel
set_option maxRecDepth 100000 in
theorem cwi_0 : wAt 1100 (.instantiable "ClashDay$Board" 15) = true ∧ wAt 1006 (.initialized "ClashDay$Board") = true := by decide +kernel
set_option maxRecDepth 100000 in
theorem cfk_0 : ∀ j, j < 15 → (kT0 j).1 = "ClashDay$Board" ∧ ((mFKd 0 j = 0 ∧ kY0 j = .int ∧ (kT0 j).2.2.2 = false) ∨ (mFKd 0 j = 1 ∧ kY0 j = .long ∧ (kT0 j).2.2.2 = false) ∨ (mFKd 0 j = 3 ∧ kY0 j = .boolean ∧ (kT0 j).2.2.2 = false) ∨ (mFKd 0 j = 2 ∧ (kT0 j).2.2.2 = true ∧ (kY0 j).isReference = true)) := by decide +kernel
def lay1 : List Nat := [1072, 1074]
set_option maxRecDepth 100000 in
theorem layk_1 : ∀ j, j < 2 → wAt (lay1.getD j 0) (u_lay "ClashDay$DayReader" kT1 j) = true := by decide +kernel
set_option maxRecDepth 100000 in
theorem cty_1 : ∀ j, j < 2 → parseFieldDescriptor (kT1 j).2.2.1 = some (kY1 j) := by decide +kernel
set_option maxRecDepth 100000 in
theorem cnm_1 : ∀ a, a < 2 → ∀ b, b < 2 → a ≠ b → (kT1 a).2.1 ≠ (kT1 b).2.1 := by decide +kernel
set_option maxRecDepth 100000 in
theorem cdf_1 : ∀ j, j < 2 → defaultValue (kY1 j) = (if mFKd 1 j = 1 then .long 0 else if mFKd 1 j = 2 then .null else .int 0) := by decide +kernel
set_option maxRecDepth 100000 in
theorem cwi_1 : wAt 1065 (.instantiable "ClashDay$DayReader" 2) = true ∧ wAt 1003 (.initialized "ClashDay$DayReader") = true := by decide +kernel
set_option maxRecDepth 100000 in
theorem cfk_1 : ∀ j, j < 2 → (kT1 j).1 = "ClashDay$DayReader" ∧ ((mFKd 1 j = 0 ∧ kY1 j = .int ∧ (kT1 j).2.2.2 = false) ∨ (mFKd 1 j = 1 ∧ kY1 j = .long ∧ (kT1 j).2.2.2 = false) ∨ (mFKd 1 j = 3 ∧ kY1 j = .boolean ∧ (kT1 j).2.2.2 = false) ∨ (mFKd 1 j = 2 ∧ (kT1 j).2.2.2 = true ∧ (kY1 j).isReference = true)) := by decide +kernel
def lay2 : List Nat := [2141, 2143, 2145, 2147]
set_option maxRecDepth 100000 in
theorem layk_2 : ∀ j, j < 4 → wAt (lay2.getD j 0) (u_lay "ClashDay$Lines" kT2 j) = true := by decide +kernel
set_option maxRecDepth 100000 in
theorem cty_2 : ∀ j, j < 4 → parseFieldDescriptor (kT2 j).2.2.1 = some (kY2 j) := by decide +kernel
set_option maxRecDepth 100000 in
theorem cnm_2 : ∀ a, a < 4 → ∀ b, b < 4 → a ≠ b → (kT2 a).2.1 ≠ (kT2 b).2.1 := by decide +kernel
set_option maxRecDepth 100000 in
theorem cdf_2 : ∀ j, j < 4 → defaultValue (kY2 j) = (if mFKd 2 j = 1 then .long 0 else if mFKd 2 j = 2 then .null else .int 0) := by decide +kernel
set_option maxRecDepth 100000 in
theorem cwi_2 : wAt 2129 (.instantiable "ClashDay$Lines" 4) = true ∧ wAt 1011 (.initialized "ClashDay$Lines") = true := by decide +kernel
set_option maxRecDepth 100000 in
theorem cfk_2 : ∀ j, j < 4 → (kT2 j).1 = "ClashDay$Lines" ∧ ((mFKd 2 j = 0 ∧ kY2 j = .int ∧ (kT2 j).2.2.2 = false) ∨ (mFKd 2 j = 1 ∧ kY2 j = .long ∧ (kT2 j).2.2.2 = false) ∨ (mFKd 2 j = 3 ∧ kY2 j = .boolean ∧ (kT2 j).2.2.2 = false) ∨ (mFKd 2 j = 2 ∧ (kT2 j).2.2.2 = true ∧ (kY2 j).isReference = true)) := by decide +kernel
def lay3 : List Nat := [1197, 1199, 1201, 1203]
set_option maxRecDepth 100000 in
theorem layk_3 : ∀ j, j < 4 → wAt (lay3.getD j 0) (u_lay "ClashDay$Notes" kT3 j) = true := by decide +kernel
set_option maxRecDepth 100000 in
theorem cty_3 : ∀ j, j < 4 → parseFieldDescriptor (kT3 j).2.2.1 = some (kY3 j) := by decide +kernel
set_option maxRecDepth 100000 in
theorem cnm_3 : ∀ a, a < 4 → ∀ b, b < 4 → a ≠ b → (kT3 a).2.1 ≠ (kT3 b).2.1 := by decide +kernel
set_option maxRecDepth 100000 in
theorem cdf_3 : ∀ j, j < 4 → defaultValue (kY3 j) = (if mFKd 3 j = 1 then .long 0 else if mFKd 3 j = 2 then .null else .int 0) := by decide +kernel
set_option maxRecDepth 100000 in
theorem cwi_3 : wAt 1187 (.instantiable "ClashDay$Notes" 4) = true ∧ wAt 1007 (.initialized "ClashDay$Notes") = true := by decide +kernel
set_option maxRecDepth 100000 in
theorem cfk_3 : ∀ j, j < 4 → (kT3 j).1 = "ClashDay$Notes" ∧ ((mFKd 3 j = 0 ∧ kY3 j = .int ∧ (kT3 j).2.2.2 = false) ∨ (mFKd 3 j = 1 ∧ kY3 j = .long ∧ (kT3 j).2.2.2 = false) ∨ (mFKd 3 j = 3 ∧ kY3 j = .boolean ∧ (kT3 j).2.2.2 = false) ∨ (mFKd 3 j = 2 ∧ (kT3 j).2.2.2 = true ∧ (kY3 j).isReference = true)) := by decide +kernel
def lay4 : List Nat := [2029, 2031, 2033, 2035, 2037, 2039, 2041, 2043, 2045, 2047, 2049, 2051, 2053]
set_option maxRecDepth 100000 in
theorem layk_4 : ∀ j, j < 13 → wAt (lay4.getD j 0) (u_lay "ClashDay$Planner" kT4 j) = true := by decide +kernel
set_option maxRecDepth 100000 in
theorem cty_4 : ∀ j, j < 13 → parseFieldDescriptor (kT4 j).2.2.1 = some (kY4 j) := by decide +kernel
set_option maxRecDepth 100000 in
theorem cnm_4 : ∀ a, a < 13 → ∀ b, b < 13 → a ≠ b → (kT4 a).2.1 ≠ (kT4 b).2.1 := by decide +kernel
set_option maxRecDepth 100000 in
theorem cdf_4 : ∀ j, j < 13 → defaultValue (kY4 j) = (if mFKd 4 j = 1 then .long 0 else if mFKd 4 j = 2 then .null else .int 0) := by decide +kernel
set_option maxRecDepth 100000 in
theorem cwi_4 : wAt 1239 (.instantiable "ClashDay$Planner" 13) = true ∧ wAt 1008 (.initialized "ClashDay$Planner") = true := by decide +kernel
set_option maxRecDepth 100000 in
theorem cfk_4 : ∀ j, j < 13 → (kT4 j).1 = "ClashDay$Planner" ∧ ((mFKd 4 j = 0 ∧ kY4 j = .int ∧ (kT4 j).2.2.2 = false) ∨ (mFKd 4 j = 1 ∧ kY4 j = .long ∧ (kT4 j).2.2.2 = false) ∨ (mFKd 4 j = 3 ∧ kY4 j = .boolean ∧ (kT4 j).2.2.2 = false) ∨ (mFKd 4 j = 2 ∧ (kT4 j).2.2.2 = true ∧ (kY4 j).isReference = true)) := by decide +kernel
def lay5 : List Nat := [2161, 2163, 2165, 2167, 2169]
set_option maxRecDepth 100000 in
theorem layk_5 : ∀ j, j < 5 → wAt (lay5.getD j 0) (u_lay "ClashDay$Rule" kT5 j) = true := by decide +kernel
set_option maxRecDepth 100000 in
theorem cty_5 : ∀ j, j < 5 → parseFieldDescriptor (kT5 j).2.2.1 = some (kY5 j) := by decide +kernel
set_option maxRecDepth 100000 in
theorem cnm_5 : ∀ a, a < 5 → ∀ b, b < 5 → a ≠ b → (kT5 a).2.1 ≠ (kT5 b).2.1 := by decide +kernel
set_option maxRecDepth 100000 in
theorem cdf_5 : ∀ j, j < 5 → defaultValue (kY5 j) = (if mFKd 5 j = 1 then .long 0 else if mFKd 5 j = 2 then .null else .int 0) := by decide +kernel
set_option maxRecDepth 100000 in
theorem cwi_5 : wAt 2150 (.instantiable "ClashDay$Rule" 5) = true ∧ wAt 1012 (.initialized "ClashDay$Rule") = true := by decide +kernel
set_option maxRecDepth 100000 in
theorem cfk_5 : ∀ j, j < 5 → (kT5 j).1 = "ClashDay$Rule" ∧ ((mFKd 5 j = 0 ∧ kY5 j = .int ∧ (kT5 j).2.2.2 = false) ∨ (mFKd 5 j = 1 ∧ kY5 j = .long ∧ (kT5 j).2.2.2 = false) ∨ (mFKd 5 j = 3 ∧ kY5 j = .boolean ∧ (kT5 j).2.2.2 = false) ∨ (mFKd 5 j = 2 ∧ (kT5 j).2.2.2 = true ∧ (kY5 j).isReference = true)) := by decide +kernel
def lay6 : List Nat := [1086, 1088]
set_option maxRecDepth 100000 in
theorem layk_6 : ∀ j, j < 2 → wAt (lay6.getD j 0) (u_lay "ClashDay$RuleReader" kT6 j) = true := by decide +kernel
set_option maxRecDepth 100000 in
theorem cty_6 : ∀ j, j < 2 → parseFieldDescriptor (kT6 j).2.2.1 = some (kY6 j) := by decide +kernel
set_option maxRecDepth 100000 in
theorem cnm_6 : ∀ a, a < 2 → ∀ b, b < 2 → a ≠ b → (kT6 a).2.1 ≠ (kT6 b).2.1 := by decide +kernel
set_option maxRecDepth 100000 in
theorem cdf_6 : ∀ j, j < 2 → defaultValue (kY6 j) = (if mFKd 6 j = 1 then .long 0 else if mFKd 6 j = 2 then .null else .int 0) := by decide +kernel
set_option maxRecDepth 100000 in
theorem cwi_6 : wAt 1079 (.instantiable "ClashDay$RuleReader" 2) = true ∧ wAt 1004 (.initialized "ClashDay$RuleReader") = true := by decide +kernel
set_option maxRecDepth 100000 in
theorem cfk_6 : ∀ j, j < 2 → (kT6 j).1 = "ClashDay$RuleReader" ∧ ((mFKd 6 j = 0 ∧ kY6 j = .int ∧ (kT6 j).2.2.2 = false) ∨ (mFKd 6 j = 1 ∧ kY6 j = .long ∧ (kT6 j).2.2.2 = false) ∨ (mFKd 6 j = 3 ∧ kY6 j = .boolean ∧ (kT6 j).2.2.2 = false) ∨ (mFKd 6 j = 2 ∧ (kT6 j).2.2.2 = true ∧ (kY6 j).isReference = true)) := by decide +kernel
def lay7 : List Nat := [1221, 1223, 1225, 1227, 1229, 1231]
set_option maxRecDepth 100000 in
theorem layk_7 : ∀ j, j < 6 → wAt (lay7.getD j 0) (u_lay "ClashDay$Scene" kT7 j) = true := by decide +kernel
set_option maxRecDepth 100000 in
theorem cty_7 : ∀ j, j < 6 → parseFieldDescriptor (kT7 j).2.2.1 = some (kY7 j) := by decide +kernel
set_option maxRecDepth 100000 in
theorem cnm_7 : ∀ a, a < 6 → ∀ b, b < 6 → a ≠ b → (kT7 a).2.1 ≠ (kT7 b).2.1 := by decide +kernel
set_option maxRecDepth 100000 in
theorem cdf_7 : ∀ j, j < 6 → defaultValue (kY7 j) = (if mFKd 7 j = 1 then .long 0 else if mFKd 7 j = 2 then .null else .int 0) := by decide +kernel
set_option maxRecDepth 100000 in
theorem cwi_7 : wAt 1094 (.instantiable "ClashDay$Scene" 6) = true ∧ wAt 1005 (.initialized "ClashDay$Scene") = true := by decide +kernel
set_option maxRecDepth 100000 in
theorem cfk_7 : ∀ j, j < 6 → (kT7 j).1 = "ClashDay$Scene" ∧ ((mFKd 7 j = 0 ∧ kY7 j = .int ∧ (kT7 j).2.2.2 = false) ∨ (mFKd 7 j = 1 ∧ kY7 j = .long ∧ (kT7 j).2.2.2 = false) ∨ (mFKd 7 j = 3 ∧ kY7 j = .boolean ∧ (kT7 j).2.2.2 = false) ∨ (mFKd 7 j = 2 ∧ (kT7 j).2.2.2 = true ∧ (kY7 j).isReference = true)) := by decide +kernel
def lay8 : List Nat := [1048, 1050, 1052, 1054, 1056, 1058, 1060]
set_option maxRecDepth 100000 in
theorem layk_8 : ∀ j, j < 7 → wAt (lay8.getD j 0) (u_lay "ClashDay$Tape" kT8 j) = true := by decide +kernel
set_option maxRecDepth 100000 in
theorem cty_8 : ∀ j, j < 7 → parseFieldDescriptor (kT8 j).2.2.1 = some (kY8 j) := by decide +kernel
set_option maxRecDepth 100000 in
theorem cnm_8 : ∀ a, a < 7 → ∀ b, b < 7 → a ≠ b → (kT8 a).2.1 ≠ (kT8 b).2.1 := by decide +kernel
set_option maxRecDepth 100000 in
theorem cdf_8 : ∀ j, j < 7 → defaultValue (kY8 j) = (if mFKd 8 j = 1 then .long 0 else if mFKd 8 j = 2 then .null else .int 0) := by decide +kernel
set_option maxRecDepth 100000 in
theorem cwi_8 : wAt 1030 (.instantiable "ClashDay$Tape" 7) = true ∧ wAt 1002 (.initialized "ClashDay$Tape") = true := by decide +kernel
set_option maxRecDepth 100000 in
theorem cfk_8 : ∀ j, j < 7 → (kT8 j).1 = "ClashDay$Tape" ∧ ((mFKd 8 j = 0 ∧ kY8 j = .int ∧ (kT8 j).2.2.2 = false) ∨ (mFKd 8 j = 1 ∧ kY8 j = .long ∧ (kT8 j).2.2.2 = false) ∨ (mFKd 8 j = 3 ∧ kY8 j = .boolean ∧ (kT8 j).2.2.2 = false) ∨ (mFKd 8 j = 2 ∧ (kT8 j).2.2.2 = true ∧ (kY8 j).isReference = true)) := by decide +kernel
def lay9 : List Nat := [2101, 2103, 2105, 2107, 2109, 2111, 2113, 2115, 2117, 2119, 2121, 2123, 2125]
set_option maxRecDepth 100000 in
theorem layk_9 : ∀ j, j < 13 → wAt (lay9.getD j 0) (u_lay "ClashDay$Trials" kT9 j) = true := by decide +kernel
set_option maxRecDepth 100000 in
theorem cty_9 : ∀ j, j < 13 → parseFieldDescriptor (kT9 j).2.2.1 = some (kY9 j) := by decide +kernel
set_option maxRecDepth 100000 in
theorem cnm_9 : ∀ a, a < 13 → ∀ b, b < 13 → a ≠ b → (kT9 a).2.1 ≠ (kT9 b).2.1 := by decide +kernel
set_option maxRecDepth 100000 in
theorem cdf_9 : ∀ j, j < 13 → defaultValue (kY9 j) = (if mFKd 9 j = 1 then .long 0 else if mFKd 9 j = 2 then .null else .int 0) := by decide +kernel
set_option maxRecDepth 100000 in
theorem cwi_9 : wAt 2074 (.instantiable "ClashDay$Trials" 13) = true ∧ wAt 1010 (.initialized "ClashDay$Trials") = true := by decide +kernel
set_option maxRecDepth 100000 in
theorem cfk_9 : ∀ j, j < 13 → (kT9 j).1 = "ClashDay$Trials" ∧ ((mFKd 9 j = 0 ∧ kY9 j = .int ∧ (kT9 j).2.2.2 = false) ∨ (mFKd 9 j = 1 ∧ kY9 j = .long ∧ (kT9 j).2.2.2 = false) ∨ (mFKd 9 j = 3 ∧ kY9 j = .boolean ∧ (kT9 j).2.2.2 = false) ∨ (mFKd 9 j = 2 ∧ (kT9 j).2.2.2 = true ∧ (kY9 j).isReference = true)) := by decide +kernel
def lay10 : List Nat := [2065, 2067, 2069]
set_option maxRecDepth 100000 in
theorem layk_10 : ∀ j, j < 3 → wAt (lay10.getD j 0) (u_lay "ClashDay$Turns" kT10 j) = true := by decide +kernel
set_option maxRecDepth 100000 in
theorem cty_10 : ∀ j, j < 3 → parseFieldDescriptor (kT10 j).2.2.1 = some (kY10 j) := by decide +kernel
set_option maxRecDepth 100000 in
theorem cnm_10 : ∀ a, a < 3 → ∀ b, b < 3 → a ≠ b → (kT10 a).2.1 ≠ (kT10 b).2.1 := by decide +kernel
set_option maxRecDepth 100000 in
theorem cdf_10 : ∀ j, j < 3 → defaultValue (kY10 j) = (if mFKd 10 j = 1 then .long 0 else if mFKd 10 j = 2 then .null else .int 0) := by decide +kernel
set_option maxRecDepth 100000 in
theorem cwi_10 : wAt 2057 (.instantiable "ClashDay$Turns" 3) = true ∧ wAt 1009 (.initialized "ClashDay$Turns") = true := by decide +kernel
set_option maxRecDepth 100000 in
theorem cfk_10 : ∀ j, j < 3 → (kT10 j).1 = "ClashDay$Turns" ∧ ((mFKd 10 j = 0 ∧ kY10 j = .int ∧ (kT10 j).2.2.2 = false) ∨ (mFKd 10 j = 1 ∧ kY10 j = .long ∧ (kT10 j).2.2.2 = false) ∨ (mFKd 10 j = 3 ∧ kY10 j = .boolean ∧ (kT10 j).2.2.2 = false) ∨ (mFKd 10 j = 2 ∧ (kT10 j).2.2.2 = true ∧ (kY10 j).isReference = true)) := by decide +kernel
def lay11 : List Nat := [2186, 2188, 2190, 2192, 2194, 2196, 2198, 2200, 2202, 2204, 2206, 2208, 2210, 2212]
set_option maxRecDepth 100000 in
theorem layk_11 : ∀ j, j < 14 → wAt (lay11.getD j 0) (u_lay "ClashDay" kT11 j) = true := by decide +kernel
set_option maxRecDepth 100000 in
theorem cty_11 : ∀ j, j < 14 → parseFieldDescriptor (kT11 j).2.2.1 = some (kY11 j) := by decide +kernel
set_option maxRecDepth 100000 in
theorem cnm_11 : ∀ a, a < 14 → ∀ b, b < 14 → a ≠ b → (kT11 a).2.1 ≠ (kT11 b).2.1 := by decide +kernel
set_option maxRecDepth 100000 in
theorem cdf_11 : ∀ j, j < 14 → defaultValue (kY11 j) = (if mFKd 11 j = 1 then .long 0 else if mFKd 11 j = 2 then .null else .int 0) := by decide +kernel
set_option maxRecDepth 100000 in
theorem cwi_11 : wAt 1022 (.instantiable "ClashDay" 14) = true ∧ wAt 1001 (.initialized "ClashDay") = true := by decide +kernel
set_option maxRecDepth 100000 in
theorem cfk_11 : ∀ j, j < 14 → (kT11 j).1 = "ClashDay" ∧ ((mFKd 11 j = 0 ∧ kY11 j = .int ∧ (kT11 j).2.2.2 = false) ∨ (mFKd 11 j = 1 ∧ kY11 j = .long ∧ (kT11 j).2.2.2 = false) ∨ (mFKd 11 j = 3 ∧ kY11 j = .boolean ∧ (kT11 j).2.2.2 = false) ∨ (mFKd 11 j = 2 ∧ (kT11 j).2.2.2 = true ∧ (kY11 j).isReference = true)) := by decide +kernel
def lay12 : List Nat := [6080, 6082, 6084, 6086, 6088, 6090, 6092, 6094, 6096, 6098, 6100, 6102, 6104, 6106, 6108, 6110, 6112, 6114, 6116, 6118, 6120, 6122, 6124, 6126, 6128, 6130, 6132, 6134, 6136, 6138, 6140, 6142, 6144, 6146, 6148, 6150, 6152, 6154, 6156, 6158, 6160, 6162, 6164, 6166, 6168, 6170, 6172, 6174, 6176, 6178, 6180, 6182, 6184, 6186, 6188, 6190, 6192, 6194]
set_option maxRecDepth 100000 in
theorem layk_12 : ∀ j, j < 58 → wAt (lay12.getD j 0) (u_lay "ClashDayModel" kT12 j) = true := by decide +kernel
set_option maxRecDepth 100000 in
theorem cty_12 : ∀ j, j < 58 → parseFieldDescriptor (kT12 j).2.2.1 = some (kY12 j) := by decide +kernel
set_option maxRecDepth 100000 in
theorem cnm_12 : ∀ a, a < 58 → ∀ b, b < 58 → a ≠ b → (kT12 a).2.1 ≠ (kT12 b).2.1 := by decide +kernel
set_option maxRecDepth 100000 in
theorem cdf_12 : ∀ j, j < 58 → defaultValue (kY12 j) = (if mFKd 12 j = 1 then .long 0 else if mFKd 12 j = 2 then .null else .int 0) := by decide +kernel
set_option maxRecDepth 100000 in
theorem cwi_12 : wAt 6017 (.instantiable "ClashDayModel" 58) = true ∧ wAt 1013 (.initialized "ClashDayModel") = true := by decide +kernel
set_option maxRecDepth 100000 in
theorem cfk_12 : ∀ j, j < 58 → (kT12 j).1 = "ClashDayModel" ∧ ((mFKd 12 j = 0 ∧ kY12 j = .int ∧ (kT12 j).2.2.2 = false) ∨ (mFKd 12 j = 1 ∧ kY12 j = .long ∧ (kT12 j).2.2.2 = false) ∨ (mFKd 12 j = 3 ∧ kY12 j = .boolean ∧ (kT12 j).2.2.2 = false) ∨ (mFKd 12 j = 2 ∧ (kT12 j).2.2.2 = true ∧ (kY12 j).isReference = true)) := by decide +kernel
