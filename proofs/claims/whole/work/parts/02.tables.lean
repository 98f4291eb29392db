def kz_TT : List Cond := lw_tbl.filter goodWord
def kz_isn (w : Cond) : Bool := match w with
  | .fieldLinkNest .. => true
  | .methodLinkNest .. => true
  | .declares .. => true
  | .castable .. => true
  | _ => false
def kz_nc : List (String × String) := [("java/lang/IllegalArgumentException", "java/lang/UnsupportedOperationException"), ("java/lang/IllegalArgumentException", "java/lang/IllegalStateException"), ("java/lang/UnsupportedOperationException", "java/lang/IllegalArgumentException"), ("java/lang/UnsupportedOperationException", "java/lang/IllegalStateException"), ("java/lang/IllegalStateException", "java/lang/IllegalArgumentException"), ("java/lang/IllegalStateException", "java/lang/UnsupportedOperationException")]
def kz_NT : List Cond := tables_1.filter kz_isn
theorem kz_TTok : ∀ w ∈ kz_TT, (w.onTables && w.keeps) = true ∨ ∃ ty, w = .arrayClass ty := fun _ hw => good_of_word (List.mem_filter.mp hw).2
theorem kz_TTin : ∀ w ∈ kz_TT, w ∈ lw_tbl := fun _ hw => (List.mem_filter.mp hw).1
theorem kz_at (i : Nat) {w : Cond} (h : (decide (tables_1[i]? = some w) && goodWord w) = true) : w ∈ kz_TT := by
  rw [Bool.and_eq_true, decide_eq_true_eq] at h
  exact List.mem_filter.mpr ⟨List.mem_append_right _ (List.mem_of_getElem? h.1), h.2⟩
theorem kz_pv (i : Nat) {w : Cond} (h : (decide ((k2_sels lw_privs)[i]? = some w) && goodWord w) = true) : w ∈ kz_TT := by
  rw [Bool.and_eq_true, decide_eq_true_eq] at h
  exact List.mem_filter.mpr ⟨List.mem_append_left _ (List.mem_of_getElem? h.1), h.2⟩
theorem kz_in1 {w : Cond} (h : w ∈ tables_1_1) : w ∈ tables_1 := List.mem_append_left _ h
theorem kz_in2 {w : Cond} (h : w ∈ tables_1_2) : w ∈ tables_1 := List.mem_append_right _ (List.mem_append_left _ h)
theorem kz_in3 {w : Cond} (h : w ∈ tables_1_3) : w ∈ tables_1 := List.mem_append_right _ (List.mem_append_right _ (List.mem_append_left _ h))
theorem kz_in4 {w : Cond} (h : w ∈ tables_1_4) : w ∈ tables_1 := List.mem_append_right _ (List.mem_append_right _ (List.mem_append_right _ (List.mem_append_left _ h)))
theorem kz_in5 {w : Cond} (h : w ∈ tables_1_5) : w ∈ tables_1 := List.mem_append_right _ (List.mem_append_right _ (List.mem_append_right _ (List.mem_append_right _ (List.mem_append_left _ h))))
theorem kz_in6 {w : Cond} (h : w ∈ tables_1_6) : w ∈ tables_1 := List.mem_append_right _ (List.mem_append_right _ (List.mem_append_right _ (List.mem_append_right _ (List.mem_append_right _ (List.mem_append_left _ h)))))
theorem kz_in7 {w : Cond} (h : w ∈ tables_1_7) : w ∈ tables_1 := List.mem_append_right _ (List.mem_append_right _ (List.mem_append_right _ (List.mem_append_right _ (List.mem_append_right _ (List.mem_append_right _ (List.mem_append_left _ h))))))
theorem kz_in8 {w : Cond} (h : w ∈ tables_1_8) : w ∈ tables_1 := List.mem_append_right _ (List.mem_append_right _ (List.mem_append_right _ (List.mem_append_right _ (List.mem_append_right _ (List.mem_append_right _ (List.mem_append_right _ h))))))
theorem kz_g {w : Cond} (h : w ∈ tables_1) (g : goodWord w = true) : w ∈ kz_TT := List.mem_filter.mpr ⟨List.mem_append_right _ h, g⟩
theorem kz_s {q : MethodName × Nat} (h : q ∈ lw_privs) (g : goodWord (Cond.selects q.1.cls q.1 q.1) = true) : Cond.selects q.1.cls q.1 q.1 ∈ kz_TT := List.mem_filter.mpr ⟨List.mem_append_left _ (List.mem_map.mpr ⟨q, h, rfl⟩), g⟩
theorem kz_q {w : Cond} (h : w ∈ tables_1) (g : kz_isn w = true) : w ∈ kz_NT := List.mem_filter.mpr ⟨h, g⟩
def kz_T0 : u_T := fun k => match k with
  | 0 => ("StackAssembler", "reader", "LStackAssembler$Reader;", true)
  | 1 => ("StackAssembler", "checker", "LStackAssembler$Checker;", true)
  | 2 => ("StackAssembler", "encoder", "LStackAssembler$Encoder;", true)
  | 3 => ("StackAssembler", "printer", "LStackAssembler$Printer;", true)
  | 4 => ("StackAssembler", "text", "LStackAssembler$Text;", false)
  | 5 => ("StackAssembler", "spareText", "LStackAssembler$Text;", false)
  | 6 => ("StackAssembler", "module", "LStackAssembler$Module;", false)
  | 7 => ("StackAssembler", "spareModule", "LStackAssembler$Module;", false)
  | _ => ("StackAssembler", "place", "I", false)
def kz_T1 : u_T := fun k => match k with
  | 0 => ("StackAssembler$Checker", "stack", "[I", true)
  | 1 => ("StackAssembler$Checker", "frames", "[LStackAssembler$Frame;", true)
  | 2 => ("StackAssembler$Checker", "module", "LStackAssembler$Module;", false)
  | 3 => ("StackAssembler$Checker", "function", "LStackAssembler$Function;", false)
  | 4 => ("StackAssembler$Checker", "height", "I", false)
  | 5 => ("StackAssembler$Checker", "depth", "I", false)
  | 6 => ("StackAssembler$Checker", "invalid", "Z", false)
  | _ => ("StackAssembler$Checker", "stop", "I", false)
def kz_T2 : u_T := fun k => match k with
  | 0 => ("StackAssembler$Encoder", "octets", "[B", true)
  | 1 => ("StackAssembler$Encoder", "signatures", "[I", true)
  | _ => ("StackAssembler$Encoder", "count", "I", false)
def kz_T3 : u_T := fun k => match k with
  | 0 => ("StackAssembler$Frame", "label", "I", false)
  | 1 => ("StackAssembler$Frame", "result", "I", false)
  | 2 => ("StackAssembler$Frame", "height", "I", false)
  | 3 => ("StackAssembler$Frame", "unreachable", "Z", false)
  | _ => ("StackAssembler$Frame", "lacksElse", "Z", false)
def kz_T4 : u_T := fun k => match k with
  | 0 => ("StackAssembler$Function", "types", "[I", true)
  | 1 => ("StackAssembler$Function", "parameters", "I", false)
  | 2 => ("StackAssembler$Function", "slots", "I", false)
  | 3 => ("StackAssembler$Function", "result", "I", false)
  | 4 => ("StackAssembler$Function", "first", "I", false)
  | _ => ("StackAssembler$Function", "size", "I", false)
def kz_T5 : u_T := fun k => match k with
  | 0 => ("StackAssembler$Level", "kind", "I", false)
  | 1 => ("StackAssembler$Level", "phase", "I", false)
  | 2 => ("StackAssembler$Level", "name", "I", false)
  | 3 => ("StackAssembler$Level", "op", "LStackAssembler$Op;", false)
  | _ => ("StackAssembler$Level", "operand", "J", false)
def kz_T6 : u_T := fun k => match k with
  | 0 => ("StackAssembler$Module", "functions", "[LStackAssembler$Function;", true)
  | 1 => ("StackAssembler$Module", "ops", "[LStackAssembler$Op;", true)
  | 2 => ("StackAssembler$Module", "operands", "[J", true)
  | 3 => ("StackAssembler$Module", "count", "I", false)
  | _ => ("StackAssembler$Module", "length", "I", false)
def kz_T7 : u_T := fun k => match k with
  | 0 => ("StackAssembler$Op", "word", "Ljava/lang/String;", true)
  | 1 => ("StackAssembler$Op", "code", "I", true)
  | 2 => ("StackAssembler$Op", "operand", "I", true)
  | 3 => ("StackAssembler$Op", "takes", "I", true)
  | 4 => ("StackAssembler$Op", "taken", "I", true)
  | 5 => ("StackAssembler$Op", "puts", "I", true)
  | _ => ("java/lang/Enum", "ordinal", "I", true)
def kz_T8 : u_T := fun k => match k with
  | _ => ("StackAssembler$Printer", "text", "LStackAssembler$Text;", false)
def kz_T9 : u_T := fun k => match k with
  | 0 => ("StackAssembler$Reader", "scanner", "LStackAssembler$Scanner;", true)
  | 1 => ("StackAssembler$Reader", "levels", "[LStackAssembler$Level;", true)
  | 2 => ("StackAssembler$Reader", "functionNames", "[I", true)
  | 3 => ("StackAssembler$Reader", "slotNames", "[I", true)
  | 4 => ("StackAssembler$Reader", "module", "LStackAssembler$Module;", false)
  | 5 => ("StackAssembler$Reader", "depth", "I", false)
  | 6 => ("StackAssembler$Reader", "awaitsOperand", "Z", false)
  | 7 => ("StackAssembler$Reader", "nameOfEnded", "I", false)
  | 8 => ("StackAssembler$Reader", "value", "J", false)
  | _ => ("StackAssembler$Reader", "stop", "I", false)
def kz_T10 : u_T := fun k => match k with
  | 0 => ("StackAssembler$Scanner", "text", "LStackAssembler$Text;", false)
  | 1 => ("StackAssembler$Scanner", "kind", "I", false)
  | 2 => ("StackAssembler$Scanner", "start", "I", false)
  | 3 => ("StackAssembler$Scanner", "end", "I", false)
  | 4 => ("StackAssembler$Scanner", "op", "LStackAssembler$Op;", false)
  | _ => ("StackAssembler$Scanner", "number", "J", false)
def kz_T11 : u_T := fun k => match k with
  | 0 => ("StackAssembler$Text", "characters", "[C", true)
  | _ => ("StackAssembler$Text", "length", "I", false)
def kz_T12 : u_T := fun k => match k with
  | 0 => ("StackAssemblerModel", "head", "[J", true)
  | 1 => ("StackAssemblerModel", "rest", "[J", true)
  | 2 => ("StackAssemblerModel", "codeOf", "[I", true)
  | 3 => ("StackAssemblerModel", "thrown", "I", false)
  | 4 => ("StackAssemblerModel", "place", "I", false)
  | 5 => ("StackAssemblerModel", "size", "I", false)
  | 6 => ("StackAssemblerModel", "text", "[C", true)
  | 7 => ("StackAssemblerModel", "functions", "I", false)
  | 8 => ("StackAssemblerModel", "parameters", "[I", true)
  | 9 => ("StackAssemblerModel", "variables", "[I", true)
  | 10 => ("StackAssemblerModel", "results", "[I", true)
  | 11 => ("StackAssemblerModel", "types", "[I", true)
  | 12 => ("StackAssemblerModel", "start", "[I", true)
  | 13 => ("StackAssemblerModel", "codes", "[I", true)
  | 14 => ("StackAssemblerModel", "values", "[J", true)
  | 15 => ("StackAssemblerModel", "newFunctions", "I", false)
  | 16 => ("StackAssemblerModel", "newParameters", "[I", true)
  | 17 => ("StackAssemblerModel", "newVariables", "[I", true)
  | 18 => ("StackAssemblerModel", "newResults", "[I", true)
  | 19 => ("StackAssemblerModel", "newTypes", "[I", true)
  | 20 => ("StackAssemblerModel", "newStart", "[I", true)
  | 21 => ("StackAssemblerModel", "newCodes", "[I", true)
  | 22 => ("StackAssemblerModel", "newValues", "[J", true)
  | 23 => ("StackAssemblerModel", "many", "I", false)
  | 24 => ("StackAssemblerModel", "functionName", "[I", true)
  | 25 => ("StackAssemblerModel", "functionLength", "[I", true)
  | 26 => ("StackAssemblerModel", "variableName", "[I", true)
  | 27 => ("StackAssemblerModel", "variableLength", "[I", true)
  | 28 => ("StackAssemblerModel", "calls", "I", false)
  | 29 => ("StackAssemblerModel", "callName", "[I", true)
  | 30 => ("StackAssemblerModel", "callLength", "[I", true)
  | 31 => ("StackAssemblerModel", "callTo", "[I", true)
  | 32 => ("StackAssemblerModel", "at", "I", false)
  | 33 => ("StackAssemblerModel", "kind", "I", false)
  | 34 => ("StackAssemblerModel", "from", "I", false)
  | 35 => ("StackAssemblerModel", "wide", "I", false)
  | 36 => ("StackAssemblerModel", "first", "J", false)
  | 37 => ("StackAssemblerModel", "second", "J", false)
  | 38 => ("StackAssemblerModel", "wrong", "I", false)
  | 39 => ("StackAssemblerModel", "opened", "I", false)
  | 40 => ("StackAssemblerModel", "openCode", "[I", true)
  | 41 => ("StackAssemblerModel", "folded", "[Z", true)
  | 42 => ("StackAssemblerModel", "hasElse", "[Z", true)
  | 43 => ("StackAssemblerModel", "openName", "[I", true)
  | 44 => ("StackAssemblerModel", "openLength", "[I", true)
  | 45 => ("StackAssemblerModel", "openValue", "[J", true)
  | 46 => ("StackAssemblerModel", "openCall", "[I", true)
  | 47 => ("StackAssemblerModel", "number", "J", false)
  | 48 => ("StackAssemblerModel", "calling", "I", false)
  | 49 => ("StackAssemblerModel", "top", "I", false)
  | 50 => ("StackAssemblerModel", "stack", "[I", true)
  | 51 => ("StackAssemblerModel", "frames", "I", false)
  | 52 => ("StackAssemblerModel", "label", "[I", true)
  | 53 => ("StackAssemblerModel", "frameResult", "[I", true)
  | 54 => ("StackAssemblerModel", "height", "[I", true)
  | 55 => ("StackAssemblerModel", "frameCode", "[I", true)
  | 56 => ("StackAssemblerModel", "dead", "[Z", true)
  | 57 => ("StackAssemblerModel", "invalid", "Z", false)
  | 58 => ("StackAssemblerModel", "octets", "I", false)
  | 59 => ("StackAssemblerModel", "octet", "[I", true)
  | 60 => ("StackAssemblerModel", "made", "I", false)
  | 61 => ("StackAssemblerModel", "part", "[I", true)
  | 62 => ("StackAssemblerModel", "printed", "I", false)
  | _ => ("StackAssemblerModel", "print", "[C", true)
def kz_T13 : u_T := fun k => match k with
  | 0 => ("java/lang/String", "value", "[B", true)
  | _ => ("java/lang/String", "coder", "B", true)
def kz_cl : List vw_C := [("StackAssembler", kz_T0, 9), ("StackAssembler$Checker", kz_T1, 8), ("StackAssembler$Encoder", kz_T2, 3), ("StackAssembler$Frame", kz_T3, 5), ("StackAssembler$Function", kz_T4, 6), ("StackAssembler$Level", kz_T5, 5), ("StackAssembler$Module", kz_T6, 5), ("StackAssembler$Op", kz_T7, 7), ("StackAssembler$Printer", kz_T8, 1), ("StackAssembler$Reader", kz_T9, 10), ("StackAssembler$Scanner", kz_T10, 6), ("StackAssembler$Text", kz_T11, 2), ("StackAssemblerModel", kz_T12, 64), ("java/lang/String", kz_T13, 2)]
def kz_N (k : Nat) : Nat := match k with
  | 0 => 9
  | 1 => 8
  | 2 => 3
  | 3 => 5
  | 4 => 6
  | 5 => 5
  | 6 => 5
  | 7 => 7
  | 8 => 1
  | 9 => 10
  | 10 => 6
  | 11 => 2
  | 12 => 64
  | 13 => 2
  | _ => 0
def kz_ft (k j : Nat) : Nat := match k with
  | 0 => ([19, 11, 12, 18, 21, 21, 16, 16, 1] : List Nat).getD j 0
  | 1 => ([50, 58, 16, 14, 1, 1, 3, 1] : List Nat).getD j 0
  | 2 => ([53, 50, 1] : List Nat).getD j 0
  | 3 => ([1, 1, 1, 3, 3] : List Nat).getD j 0
  | 4 => ([50, 1, 1, 1, 1, 1] : List Nat).getD j 0
  | 5 => ([1, 1, 1, 17, 2] : List Nat).getD j 0
  | 6 => ([55, 56, 51, 1, 1] : List Nat).getD j 0
  | 7 => ([23, 1, 1, 1, 1, 1, 1] : List Nat).getD j 0
  | 8 => ([21] : List Nat).getD j 0
  | 9 => ([20, 57, 50, 50, 16, 1, 3, 1, 2, 1] : List Nat).getD j 0
  | 10 => ([21, 1, 1, 1, 17, 2] : List Nat).getD j 0
  | 11 => ([52, 1] : List Nat).getD j 0
  | 12 => ([51, 51, 50, 1, 1, 1, 52, 1, 50, 50, 50, 50, 50, 50, 51, 1, 50, 50, 50, 50, 50, 50, 51, 1, 50, 50, 50, 50, 1, 50, 50, 50, 1, 1, 1, 1, 2, 2, 1, 1, 50, 54, 54, 50, 50, 51, 50, 2, 1, 1, 50, 1, 50, 50, 50, 50, 54, 3, 1, 50, 1, 50, 1, 52] : List Nat).getD j 0
  | 13 => ([53, 5] : List Nat).getD j 0
  | _ => 0
def kz_fT (k j : Nat) : FieldType := match k with
  | 0 => ([.object "StackAssembler$Reader", .object "StackAssembler$Checker", .object "StackAssembler$Encoder", .object "StackAssembler$Printer", .object "StackAssembler$Text", .object "StackAssembler$Text", .object "StackAssembler$Module", .object "StackAssembler$Module", .int] : List FieldType).getD j .int
  | 1 => ([.array .int, .array (.object "StackAssembler$Frame"), .object "StackAssembler$Module", .object "StackAssembler$Function", .int, .int, .boolean, .int] : List FieldType).getD j .int
  | 2 => ([.array .byte, .array .int, .int] : List FieldType).getD j .int
  | 3 => ([.int, .int, .int, .boolean, .boolean] : List FieldType).getD j .int
  | 4 => ([.array .int, .int, .int, .int, .int, .int] : List FieldType).getD j .int
  | 5 => ([.int, .int, .int, .object "StackAssembler$Op", .long] : List FieldType).getD j .int
  | 6 => ([.array (.object "StackAssembler$Function"), .array (.object "StackAssembler$Op"), .array .long, .int, .int] : List FieldType).getD j .int
  | 7 => ([.object "java/lang/String", .int, .int, .int, .int, .int, .int] : List FieldType).getD j .int
  | 8 => ([.object "StackAssembler$Text"] : List FieldType).getD j .int
  | 9 => ([.object "StackAssembler$Scanner", .array (.object "StackAssembler$Level"), .array .int, .array .int, .object "StackAssembler$Module", .int, .boolean, .int, .long, .int] : List FieldType).getD j .int
  | 10 => ([.object "StackAssembler$Text", .int, .int, .int, .object "StackAssembler$Op", .long] : List FieldType).getD j .int
  | 11 => ([.array .char, .int] : List FieldType).getD j .int
  | 12 => ([.array .long, .array .long, .array .int, .int, .int, .int, .array .char, .int, .array .int, .array .int, .array .int, .array .int, .array .int, .array .int, .array .long, .int, .array .int, .array .int, .array .int, .array .int, .array .int, .array .int, .array .long, .int, .array .int, .array .int, .array .int, .array .int, .int, .array .int, .array .int, .array .int, .int, .int, .int, .int, .long, .long, .int, .int, .array .int, .array .boolean, .array .boolean, .array .int, .array .int, .array .long, .array .int, .long, .int, .int, .array .int, .int, .array .int, .array .int, .array .int, .array .int, .array .boolean, .boolean, .int, .array .int, .int, .array .int, .int, .array .char] : List FieldType).getD j .int
  | 13 => ([.array .byte, .byte] : List FieldType).getD j .int
  | _ => .int
def kz_ak : List Nat := [40, 41, 42, 43, 44, 45, 46, 47, 48]
def kz_aT (k : Nat) : FieldType := match k with
  | 40 => .int
  | 41 => .long
  | 42 => .char
  | 43 => .byte
  | 44 => .boolean
  | 45 => .object "StackAssembler$Function"
  | 46 => .object "StackAssembler$Op"
  | 47 => .object "StackAssembler$Level"
  | 48 => .object "StackAssembler$Frame"
  | _ => .int
def kz_ae (k : Nat) : Nat := match k with
  | 40 => 1
  | 41 => 2
  | 42 => 4
  | 43 => 5
  | 44 => 3
  | 45 => 14
  | 46 => 17
  | 47 => 15
  | 48 => 13
  | _ => 0
def kz_st : List (String × String × String × Nat × Int) := [("StackAssembler$Op", "UNREACHABLE", "LStackAssembler$Op;", 17, (-1)), ("StackAssembler$Op", "NOP", "LStackAssembler$Op;", 17, (-2)), ("StackAssembler$Op", "BLOCK", "LStackAssembler$Op;", 17, (-3)), ("StackAssembler$Op", "LOOP", "LStackAssembler$Op;", 17, (-4)), ("StackAssembler$Op", "IF", "LStackAssembler$Op;", 17, (-5)), ("StackAssembler$Op", "ELSE", "LStackAssembler$Op;", 17, (-6)), ("StackAssembler$Op", "END", "LStackAssembler$Op;", 17, (-7)), ("StackAssembler$Op", "BR", "LStackAssembler$Op;", 17, (-8)), ("StackAssembler$Op", "BR_IF", "LStackAssembler$Op;", 17, (-9)), ("StackAssembler$Op", "RETURN", "LStackAssembler$Op;", 17, (-10)), ("StackAssembler$Op", "CALL", "LStackAssembler$Op;", 17, (-11)), ("StackAssembler$Op", "DROP", "LStackAssembler$Op;", 17, (-12)), ("StackAssembler$Op", "SELECT", "LStackAssembler$Op;", 17, (-13)), ("StackAssembler$Op", "LOCAL_GET", "LStackAssembler$Op;", 17, (-14)), ("StackAssembler$Op", "LOCAL_SET", "LStackAssembler$Op;", 17, (-15)), ("StackAssembler$Op", "LOCAL_TEE", "LStackAssembler$Op;", 17, (-16)), ("StackAssembler$Op", "I32_CONST", "LStackAssembler$Op;", 17, (-17)), ("StackAssembler$Op", "I64_CONST", "LStackAssembler$Op;", 17, (-18)), ("StackAssembler$Op", "I32_EQZ", "LStackAssembler$Op;", 17, (-19)), ("StackAssembler$Op", "I32_EQ", "LStackAssembler$Op;", 17, (-20)), ("StackAssembler$Op", "I32_LT_S", "LStackAssembler$Op;", 17, (-21)), ("StackAssembler$Op", "I64_EQZ", "LStackAssembler$Op;", 17, (-22)), ("StackAssembler$Op", "I64_EQ", "LStackAssembler$Op;", 17, (-23)), ("StackAssembler$Op", "I32_ADD", "LStackAssembler$Op;", 17, (-24)), ("StackAssembler$Op", "I32_SUB", "LStackAssembler$Op;", 17, (-25)), ("StackAssembler$Op", "I32_MUL", "LStackAssembler$Op;", 17, (-26)), ("StackAssembler$Op", "I64_ADD", "LStackAssembler$Op;", 17, (-27)), ("StackAssembler$Op", "I64_MUL", "LStackAssembler$Op;", 17, (-28)), ("StackAssembler$Op", "I32_WRAP_I64", "LStackAssembler$Op;", 17, (-29)), ("StackAssembler$Op", "I64_EXTEND_I32_S", "LStackAssembler$Op;", 17, (-30)), ("StackAssembler$Op", "ALL", "[LStackAssembler$Op;", 56, (-31)), ("StackAssembler$Encoder", "HEADER", "[I", 50, (-32)), ("StackAssembler$1", "$SwitchMap$StackAssembler$Op", "[I", 50, (-33)), ("java/lang/String", "COMPACT_STRINGS", "Z", 3, 1)]
def kz_kK : List Nat := [7, 13]
def kz_ex (k : Int) : String := if k = 1 then "java/lang/IllegalArgumentException" else if k = 2 then "java/lang/UnsupportedOperationException" else "java/lang/IllegalStateException"
def kz_ao : List String := ["StackAssembler$Function", "StackAssembler$Op", "StackAssembler$Level", "StackAssembler$Frame"]
def kz_sl : List (String × String × String) := [("java/lang/Throwable", "UNASSIGNED_STACK", "[Ljava/lang/StackTraceElement;"), ("java/lang/Throwable", "SUPPRESSED_SENTINEL", "Ljava/util/List;")]
def kz_so : List (String × String × String) := [("jdk/internal/util/Preconditions", "SIOOBE_FORMATTER", "Ljava/util/function/BiFunction;")]
def kz_ss : List (String × Nat × String × Int) := [("StackAssembler$Reader", 124, "module", (-35)), ("StackAssembler$Reader", 139, "func", (-37)), ("StackAssembler$Reader", 148, "param", (-39)), ("StackAssembler$Reader", 150, "result", (-41)), ("StackAssembler$Reader", 152, "local", (-43)), ("StackAssembler$Scanner", 70, "i32", (-45)), ("StackAssembler$Scanner", 76, "i64", (-47)), ("StackAssembler", 92, "the text is malformed", (-49)), ("StackAssembler", 99, "the text is too much", (-51)), ("StackAssembler", 104, "the module is invalid", (-53)), ("StackAssembler$Printer", 21, "(module", (-55)), ("StackAssembler$Printer", 44, "(func", (-57)), ("StackAssembler$Printer", 46, "(param", (-59)), ("StackAssembler$Printer", 100, "i32", (-45)), ("StackAssembler$Printer", 102, "i64", (-47)), ("StackAssembler$Printer", 98, "(result ", (-61)), ("StackAssembler$Printer", 64, "(local", (-63)), ("StackAssembler", 120, "the printed text is too long", (-65)), ("StackAssembler$Op", 149, "nop", (-67)), ("StackAssembler$Op", 164, "end", (-69)), ("StackAssembler$Op", 161, "else", (-71)), ("StackAssembler$Op", 158, "if", (-73)), ("StackAssembler$Op", 176, "call", (-75)), ("StackAssembler$Op", 155, "loop", (-77)), ("StackAssembler$Op", 170, "br_if", (-79)), ("StackAssembler$Op", 185, "local.get", (-81)), ("StackAssembler$Op", 188, "local.set", (-83)), ("StackAssembler$Op", 143, "unreachable", (-85)), ("StackAssembler$Op", 152, "block", (-87)), ("StackAssembler$Op", 167, "br", (-89)), ("StackAssembler$Op", 173, "return", (-91)), ("StackAssembler$Op", 179, "drop", (-93)), ("StackAssembler$Op", 182, "select", (-95)), ("StackAssembler$Op", 191, "local.tee", (-97)), ("StackAssembler$Op", 194, "i32.const", (-99)), ("StackAssembler$Op", 197, "i64.const", (-101)), ("StackAssembler$Op", 200, "i32.eqz", (-103)), ("StackAssembler$Op", 203, "i32.eq", (-105)), ("StackAssembler$Op", 206, "i32.lt_s", (-107)), ("StackAssembler$Op", 209, "i64.eqz", (-109)), ("StackAssembler$Op", 212, "i64.eq", (-111)), ("StackAssembler$Op", 215, "i32.add", (-113)), ("StackAssembler$Op", 218, "i32.sub", (-115)), ("StackAssembler$Op", 221, "i32.mul", (-117)), ("StackAssembler$Op", 224, "i64.add", (-119)), ("StackAssembler$Op", 227, "i64.mul", (-121)), ("StackAssembler$Op", 230, "i32.wrap_i64", (-123)), ("StackAssembler$Op", 233, "i64.extend_i32_s", (-125))]
def kz_nC : Nat := 126
def kz_kI : Nat := 7
def kz_kS : Nat := 13
def kz_kc (x : Int) : Nat := if -30 ≤ x then 7 else if x = -31 then 46 else if -34 ≤ x then 40 else if x % 2 = 1 then 13 else 43
