/-! TABLES of the abstract machine, by program (wip/tools/gen2.py) out of the claim's listing and words -/

def tf_0 : u_T := fun k => match k with
  | 0 => ("StepCode", "signals", "LStepCode$Things;", true)
  | 1 => ("StepCode", "maker", "LStepCode$Maker;", true)
  | 2 => ("StepCode", "looker", "LStepCode$Looker;", true)
  | 3 => ("StepCode", "units", "[LStepCode$Unit;", true)
  | 4 => ("StepCode", "unitCount", "I", false)
  | 5 => ("StepCode", "nodesKept", "I", false)
  | 6 => ("StepCode", "told", "LStepCode$Told;", true)
  | _ => ("StepCode", "runner", "LStepCode$Runner;", true)
def tf_1 : u_T := fun k => match k with
  | 0 => ("StepCode$Datum", "is", "I", false)
  | 1 => ("StepCode$Datum", "length", "I", false)
  | 2 => ("StepCode$Datum", "number", "J", false)
  | 3 => ("StepCode$Datum", "bit0", "J", false)
  | 4 => ("StepCode$Datum", "bit1", "J", false)
  | 5 => ("StepCode$Datum", "bit2", "J", false)
  | _ => ("StepCode$Datum", "bit3", "J", false)
def tf_2 : u_T := fun k => match k with
  | 0 => ("StepCode$Finder", "signals", "LStepCode$Things;", true)
  | 1 => ("StepCode$Finder", "stack", "[LStepCode$Datum;", true)
  | _ => ("StepCode$Finder", "top", "I", false)
def tf_3 : u_T := fun k => match k with
  | 0 => ("StepCode$Looker", "maker", "LStepCode$Maker;", true)
  | 1 => ("StepCode$Looker", "nodes", "LStepCode$Nodes;", true)
  | _ => ("StepCode$Looker", "signals", "LStepCode$Things;", true)
def tf_4 : u_T := fun k => match k with
  | 0 => ("StepCode$Maker", "nodes", "LStepCode$Nodes;", true)
  | 1 => ("StepCode$Maker", "variables", "LStepCode$Things;", true)
  | 2 => ("StepCode$Maker", "height", "[I", true)
  | 3 => ("StepCode$Maker", "roots", "[I", true)
  | _ => ("StepCode$Maker", "rootCount", "I", false)
def tf_5 : u_T := fun k => match k with
  | 0 => ("StepCode$Nodes", "kind", "[I", true)
  | 1 => ("StepCode$Nodes", "given", "[I", true)
  | 2 => ("StepCode$Nodes", "start", "[I", true)
  | 3 => ("StepCode$Nodes", "parent", "[I", true)
  | 4 => ("StepCode$Nodes", "place", "[I", true)
  | 5 => ("StepCode$Nodes", "kidAt", "[I", true)
  | 6 => ("StepCode$Nodes", "kidCount", "[I", true)
  | 7 => ("StepCode$Nodes", "kids", "[I", true)
  | 8 => ("StepCode$Nodes", "count", "I", false)
  | _ => ("StepCode$Nodes", "kidTotal", "I", false)
def tf_6 : u_T := fun k => match k with
  | 0 => ("StepCode$Runner", "signals", "LStepCode$Things;", true)
  | 1 => ("StepCode$Runner", "told", "LStepCode$Told;", true)
  | 2 => ("StepCode$Runner", "finder", "LStepCode$Finder;", true)
  | 3 => ("StepCode$Runner", "chosen", "LStepCode$Datum;", true)
  | 4 => ("StepCode$Runner", "waves", "[LStepCode$Datum;", true)
  | 5 => ("StepCode$Runner", "delays", "[J", true)
  | 6 => ("StepCode$Runner", "target", "LStepCode$Thing;", false)
  | 7 => ("StepCode$Runner", "targetNumber", "I", false)
  | 8 => ("StepCode$Runner", "targetClass", "I", false)
  | 9 => ("StepCode$Runner", "targetFirst", "I", false)
  | _ => ("StepCode$Runner", "targetMany", "I", false)
def tf_7 : u_T := fun k => match k with
  | 0 => ("StepCode$Thing", "is", "I", true)
  | 1 => ("StepCode$Thing", "length", "I", true)
  | 2 => ("StepCode$Thing", "least", "I", true)
  | 3 => ("StepCode$Thing", "greatest", "I", true)
  | 4 => ("StepCode$Thing", "now", "LStepCode$Datum;", true)
  | 5 => ("StepCode$Thing", "last", "LStepCode$Datum;", true)
  | 6 => ("StepCode$Thing", "event", "Z", false)
  | _ => ("StepCode$Thing", "active", "Z", false)
def tf_8 : u_T := fun k => match k with
  | 0 => ("StepCode$Things", "row", "[LStepCode$Thing;", true)
  | _ => ("StepCode$Things", "count", "I", false)
def tf_9 : u_T := fun k => match k with
  | 0 => ("StepCode$Told", "report", "[I", true)
  | 1 => ("StepCode$Told", "subject", "[I", true)
  | 2 => ("StepCode$Told", "first", "[I", true)
  | 3 => ("StepCode$Told", "many", "[I", true)
  | 4 => ("StepCode$Told", "mode", "[I", true)
  | 5 => ("StepCode$Told", "values", "[I", true)
  | 6 => ("StepCode$Told", "from", "[I", true)
  | 7 => ("StepCode$Told", "limit", "[J", true)
  | 8 => ("StepCode$Told", "delays", "[J", true)
  | 9 => ("StepCode$Told", "data", "[LStepCode$Datum;", true)
  | 10 => ("StepCode$Told", "count", "I", false)
  | _ => ("StepCode$Told", "total", "I", false)
def tf_10 : u_T := fun k => match k with
  | 0 => ("StepCode$Unit", "nodes", "LStepCode$Nodes;", true)
  | 1 => ("StepCode$Unit", "variables", "LStepCode$Things;", true)
  | 2 => ("StepCode$Unit", "state", "I", false)
  | 3 => ("StepCode$Unit", "fault", "I", false)
  | 4 => ("StepCode$Unit", "faultNode", "I", false)
  | 5 => ("StepCode$Unit", "steps", "I", false)
  | 6 => ("StepCode$Unit", "task", "I", false)
  | 7 => ("StepCode$Unit", "at", "I", false)
  | 8 => ("StepCode$Unit", "waitNode", "I", false)
  | 9 => ("StepCode$Unit", "waitTime", "J", false)
  | 10 => ("StepCode$Unit", "next", "[J", true)
  | _ => ("StepCode$Unit", "end", "[J", true)
def tf_11 : u_T := fun k => match k with
  | 0 => ("StepCodeModel", "code", "I", false)
  | 1 => ("StepCodeModel", "is", "[B", true)
  | 2 => ("StepCodeModel", "length", "[B", true)
  | 3 => ("StepCodeModel", "low", "[I", true)
  | 4 => ("StepCodeModel", "high", "[I", true)
  | 5 => ("StepCodeModel", "number", "[J", true)
  | 6 => ("StepCodeModel", "elements", "[B", true)
  | 7 => ("StepCodeModel", "signals", "I", false)
  | 8 => ("StepCodeModel", "variables", "I", false)
  | 9 => ("StepCodeModel", "drafts", "I", false)
  | 10 => ("StepCodeModel", "event", "[Z", true)
  | 11 => ("StepCodeModel", "active", "[Z", true)
  | 12 => ("StepCodeModel", "kind", "[I", true)
  | 13 => ("StepCodeModel", "val", "[I", true)
  | 14 => ("StepCodeModel", "many", "[I", true)
  | 15 => ("StepCodeModel", "kid", "[I", true)
  | 16 => ("StepCodeModel", "next", "[I", true)
  | 17 => ("StepCodeModel", "up", "[I", true)
  | 18 => ("StepCodeModel", "tall", "[I", true)
  | 19 => ("StepCodeModel", "nodes", "I", false)
  | 20 => ("StepCodeModel", "roots", "[I", true)
  | 21 => ("StepCodeModel", "rootCount", "I", false)
  | 22 => ("StepCodeModel", "allNodes", "I", false)
  | 23 => ("StepCodeModel", "processes", "I", false)
  | 24 => ("StepCodeModel", "base", "[I", true)
  | 25 => ("StepCodeModel", "root", "[I", true)
  | 26 => ("StepCodeModel", "firstVariable", "[I", true)
  | 27 => ("StepCodeModel", "variableCount", "[I", true)
  | 28 => ("StepCodeModel", "state", "[I", true)
  | 29 => ("StepCodeModel", "fault", "[I", true)
  | 30 => ("StepCodeModel", "faultNode", "[I", true)
  | 31 => ("StepCodeModel", "made", "[I", true)
  | 32 => ("StepCodeModel", "waitNode", "[I", true)
  | 33 => ("StepCodeModel", "until", "[J", true)
  | 34 => ("StepCodeModel", "depth", "[I", true)
  | 35 => ("StepCodeModel", "frame", "[I", true)
  | 36 => ("StepCodeModel", "coming", "[I", true)
  | 37 => ("StepCodeModel", "from", "[J", true)
  | 38 => ("StepCodeModel", "to", "[J", true)
  | 39 => ("StepCodeModel", "p", "I", false)
  | 40 => ("StepCodeModel", "left", "I", false)
  | 41 => ("StepCodeModel", "wrong", "I", false)
  | 42 => ("StepCodeModel", "wrongNode", "I", false)
  | 43 => ("StepCodeModel", "target", "I", false)
  | 44 => ("StepCodeModel", "limit", "J", false)
  | 45 => ("StepCodeModel", "time", "J", false)
  | 46 => ("StepCodeModel", "acts", "I", false)
  | 47 => ("StepCodeModel", "waves", "I", false)
  | 48 => ("StepCodeModel", "report", "[Z", true)
  | 49 => ("StepCodeModel", "object", "[I", true)
  | 50 => ("StepCodeModel", "first", "[I", true)
  | 51 => ("StepCodeModel", "count", "[I", true)
  | 52 => ("StepCodeModel", "mode", "[I", true)
  | 53 => ("StepCodeModel", "actLimit", "[J", true)
  | 54 => ("StepCodeModel", "firstWave", "[I", true)
  | _ => ("StepCodeModel", "delays", "[J", true)
def tb_cl : List vw_C := [("StepCode", tf_0, 8), ("StepCode$Datum", tf_1, 7), ("StepCode$Finder", tf_2, 3), ("StepCode$Looker", tf_3, 3), ("StepCode$Maker", tf_4, 5), ("StepCode$Nodes", tf_5, 10), ("StepCode$Runner", tf_6, 11), ("StepCode$Thing", tf_7, 8), ("StepCode$Things", tf_8, 2), ("StepCode$Told", tf_9, 12), ("StepCode$Unit", tf_10, 12), ("StepCodeModel", tf_11, 56)]
def tb_ft (kd k : Nat) : Nat := (([[2, 2, 2, 2, 0, 0, 2, 2], [0, 0, 1, 1, 1, 1, 1], [2, 2, 0], [2, 2, 2], [2, 2, 2, 2, 0], [2, 2, 2, 2, 2, 2, 2, 2, 0, 0], [2, 2, 2, 2, 2, 2, 2, 0, 0, 0, 0], [0, 0, 0, 0, 2, 2, 3, 3], [2, 0], [2, 2, 2, 2, 2, 2, 2, 2, 2, 2, 0, 0], [2, 2, 0, 0, 0, 0, 0, 0, 0, 1, 2, 2], [0, 2, 2, 2, 2, 2, 2, 0, 0, 0, 2, 2, 2, 2, 2, 2, 2, 2, 2, 0, 2, 0, 0, 0, 2, 2, 2, 2, 2, 2, 2, 2, 2, 2, 2, 2, 2, 2, 2, 0, 0, 0, 0, 0, 1, 1, 0, 0, 2, 2, 2, 2, 2, 2, 2, 2]] : List (List Nat)).getD kd []).getD k 9
def tb_runs : List (Nat × List Cond) := [(0, k2_sels lw_privs), (1, tables_1_1), (2, tables_1_2), (3, tables_1_3), (4, tables_1_4), (5, tables_1_5), (6, tables_1_6), (7, tables_1_7), (8, tables_1_8)]
def tb_run (k : Nat) : List Cond := (ah_lk tb_runs k).getD []
def tb_tbl : List Cond := Jvm.Cond.code x code maxLocals ret :: lw_tbl
def tb_Ts : List Cond := tb_tbl.filter ck_gd
def tb_nest : List (String × Nat × MethodName × String) := [("StepCode$Finder", 21, ⟨"StepCode$Datum", "<init>", "()V"⟩, "StepCode"), ("StepCode$Runner", 30, ⟨"StepCode$Datum", "<init>", "()V"⟩, "StepCode"), ("StepCode$Thing", 26, ⟨"StepCode$Datum", "<init>", "()V"⟩, "StepCode"), ("StepCode$Told", 46, ⟨"StepCode$Datum", "<init>", "()V"⟩, "StepCode")]
def tb_aos : List String := ["StepCode$Datum", "StepCode$Thing", "StepCode$Unit"]
def tb_ak : List (Nat × FieldType) := [(100, .int), (101, .long), (102, .boolean), (103, .byte), (104, .int), (111, .object "StepCode$Datum"), (117, .object "StepCode$Thing"), (120, .object "StepCode$Unit")]
def tb_str : List (String × Nat × String) := [("StepCode", 66, "no such class or range"), ("StepCode", 77, "too many signals"), ("StepCode", 90, "too many variables"), ("StepCode", 96, "no such kind, or not so many trees"), ("StepCode", 105, "too many nodes"), ("StepCode", 120, "too many processes or nodes"), ("StepCode", 152, "no such signal or element"), ("StepCode", 159, "not a value of the signal"), ("StepCode", 174, "no such signal"), ("StepCode", 191, "no such process, variable or element"), ("StepCode", 193, "not a value of the variable"), ("StepCode", 199, "no such process"), ("StepCode", 201, "not a number of steps"), ("StepCode", 206, "the process has ended"), ("StepCode", 216, "the process does not wait"), ("StepCode", 237, "nothing is told about that"), ("StepCode", 239, "no such process or signal"), ("StepCode", 252, "no such act"), ("StepCode", 280, "no such act, value or element"), ("StepCode", 293, "no such act or value")]
def tb_sta : List (String × String × String) := [("java/lang/Throwable", "UNASSIGNED_STACK", "[Ljava/lang/StackTraceElement;"), ("java/lang/Throwable", "SUPPRESSED_SENTINEL", "Ljava/util/List;")]
def tb_exc : List (Nat × String) := [(200, "java/lang/IllegalArgumentException"), (201, "java/lang/IllegalStateException"), (202, "java/lang/IndexOutOfBoundsException")]
def tb_dec : List MethodName := [⟨"java/lang/RuntimeException", "<init>", "()V"⟩, ⟨"java/lang/RuntimeException", "<init>", "(Ljava/lang/String;)V"⟩, ⟨"java/lang/Exception", "<init>", "()V"⟩, ⟨"java/lang/Exception", "<init>", "(Ljava/lang/String;)V"⟩, ⟨"java/lang/Throwable", "<init>", "()V"⟩, ⟨"java/lang/Throwable", "<init>", "(Ljava/lang/String;)V"⟩]
def tb_ex : List (Nat × String × List String) := [(200, "java/lang/IllegalArgumentException", ["java/lang/RuntimeException", "java/lang/Exception"]), (201, "java/lang/IllegalStateException", ["java/lang/RuntimeException", "java/lang/Exception"]), (202, "java/lang/IndexOutOfBoundsException", ["java/lang/RuntimeException", "java/lang/Exception"])]
def tb_cals : List (Nat × List (Nat × (MethodName × Nat × Nat × Bool))) := [(24, [(0, (⟨"StepCode", "<init>", "()V"⟩, 0, 4, true)),
  (1, (⟨"StepCode", "signal", "(III)I"⟩, 3, 0, true)),
  (2, (⟨"StepCode", "variable", "(III)I"⟩, 3, 0, true)),
  (3, (⟨"StepCode", "add", "(III)I"⟩, 3, 0, true)),
  (4, (⟨"StepCode", "process", "()I"⟩, 0, 0, true)),
  (5, (⟨"StepCode", "processes", "()I"⟩, 0, 0, true)),
  (6, (⟨"StepCode", "put", "(IZII)V"⟩, 4, 4, true)),
  (7, (⟨"StepCode", "mark", "(IZZ)V"⟩, 3, 4, true)),
  (8, (⟨"StepCode", "get", "(II)I"⟩, 2, 0, true)),
  (9, (⟨"StepCode", "set", "(IIII)V"⟩, 4, 4, true)),
  (10, (⟨"StepCode", "variableOf", "(III)I"⟩, 3, 0, true)),
  (11, (⟨"StepCode", "resume", "(II)I"⟩, 2, 0, true)),
  (12, (⟨"StepCode", "holds", "(I)I"⟩, 1, 0, true)),
  (13, (⟨"StepCode", "about", "(II)I"⟩, 2, 0, true)),
  (14, (⟨"StepCode", "waits", "(II)I"⟩, 2, 0, true)),
  (15, (⟨"StepCode", "until", "(I)J"⟩, 1, 1, true)),
  (16, (⟨"StepCode", "acts", "()I"⟩, 0, 0, true)),
  (17, (⟨"StepCode", "act", "(II)I"⟩, 2, 0, true)),
  (18, (⟨"StepCode", "value", "(III)I"⟩, 3, 0, true)),
  (19, (⟨"StepCode", "delay", "(II)J"⟩, 2, 1, true)),
  (20, (⟨"StepCode", "unitAt", "(I)LStepCode$Unit;"⟩, 1, 2, true)),
  (21, (⟨"StepCode", "variableThing", "(II)LStepCode$Thing;"⟩, 2, 2, true)),
  (22, (⟨"StepCodeModel", "<init>", "()V"⟩, 0, 4, true)),
  (23, (⟨"StepCodeModel", "thrown", "()I"⟩, 0, 0, true))]),
  (48, [(24, (⟨"StepCodeModel", "element", "(II)I"⟩, 2, 0, true)),
  (25, (⟨"StepCodeModel", "setElement", "(III)V"⟩, 3, 4, true)),
  (26, (⟨"StepCodeModel", "noKind", "(III)Z"⟩, 3, 3, true)),
  (27, (⟨"StepCodeModel", "make", "(IIII)V"⟩, 4, 4, true)),
  (28, (⟨"StepCodeModel", "copy", "(II)V"⟩, 2, 4, true)),
  (29, (⟨"StepCodeModel", "signal", "(III)I"⟩, 3, 0, true)),
  (30, (⟨"StepCodeModel", "variable", "(III)I"⟩, 3, 0, true)),
  (31, (⟨"StepCodeModel", "lacks", "(II)Z"⟩, 2, 3, true)),
  (32, (⟨"StepCodeModel", "cannot", "(II)Z"⟩, 2, 3, true)),
  (33, (⟨"StepCodeModel", "told", "(II)I"⟩, 2, 0, true)),
  (34, (⟨"StepCodeModel", "become", "(III)V"⟩, 3, 4, true)),
  (35, (⟨"StepCodeModel", "put", "(IZII)V"⟩, 4, 4, true)),
  (36, (⟨"StepCodeModel", "mark", "(IZZ)V"⟩, 3, 4, true)),
  (37, (⟨"StepCodeModel", "get", "(II)I"⟩, 2, 0, true)),
  (38, (⟨"StepCodeModel", "noProcess", "(I)Z"⟩, 1, 3, true)),
  (39, (⟨"StepCodeModel", "variableAt", "(III)I"⟩, 3, 0, true)),
  (40, (⟨"StepCodeModel", "set", "(IIII)V"⟩, 4, 4, true)),
  (41, (⟨"StepCodeModel", "variableOf", "(III)I"⟩, 3, 0, true)),
  (42, (⟨"StepCodeModel", "add", "(III)I"⟩, 3, 0, true)),
  (43, (⟨"StepCodeModel", "child", "(II)I"⟩, 2, 0, true)),
  (44, (⟨"StepCodeModel", "kindOf", "(I)I"⟩, 1, 0, true)),
  (45, (⟨"StepCodeModel", "expression", "(I)Z"⟩, 1, 3, true)),
  (46, (⟨"StepCodeModel", "statement", "(I)Z"⟩, 1, 3, true)),
  (47, (⟨"StepCodeModel", "body", "(I)Z"⟩, 1, 3, true))]),
  (72, [(48, (⟨"StepCodeModel", "all", "(II)Z"⟩, 2, 3, true)),
  (49, (⟨"StepCodeModel", "objectOf", "(I)I"⟩, 1, 0, true)),
  (50, (⟨"StepCodeModel", "isObject", "(II)Z"⟩, 2, 3, true)),
  (51, (⟨"StepCodeModel", "rowObject", "(I)Z"⟩, 1, 3, true)),
  (52, (⟨"StepCodeModel", "aims", "(II)Z"⟩, 2, 3, true)),
  (53, (⟨"StepCodeModel", "inLoop", "(I)Z"⟩, 1, 3, true)),
  (54, (⟨"StepCodeModel", "valued", "(I)Z"⟩, 1, 3, true)),
  (55, (⟨"StepCodeModel", "right", "(I)Z"⟩, 1, 3, true)),
  (56, (⟨"StepCodeModel", "rightExpression", "(I)Z"⟩, 1, 3, true)),
  (57, (⟨"StepCodeModel", "rightStatement", "(I)Z"⟩, 1, 3, true)),
  (58, (⟨"StepCodeModel", "rightBranch", "(I)Z"⟩, 1, 3, true)),
  (59, (⟨"StepCodeModel", "rightOther", "(I)Z"⟩, 1, 3, true)),
  (60, (⟨"StepCodeModel", "process", "()I"⟩, 0, 0, true)),
  (61, (⟨"StepCodeModel", "keep", "()V"⟩, 0, 4, true)),
  (62, (⟨"StepCodeModel", "processes", "()I"⟩, 0, 0, true)),
  (63, (⟨"StepCodeModel", "fail", "(II)Z"⟩, 2, 3, true)),
  (64, (⟨"StepCodeModel", "numeral", "(IJ)Z"⟩, 2, 3, true)),
  (65, (⟨"StepCodeModel", "truth", "(IZ)Z"⟩, 2, 3, true)),
  (66, (⟨"StepCodeModel", "row", "(II)V"⟩, 2, 4, true)),
  (67, (⟨"StepCodeModel", "logic", "(II)Z"⟩, 2, 3, true)),
  (68, (⟨"StepCodeModel", "isLow", "(I)Z"⟩, 1, 3, true)),
  (69, (⟨"StepCodeModel", "isHigh", "(I)Z"⟩, 1, 3, true)),
  (70, (⟨"StepCodeModel", "not", "(I)I"⟩, 1, 0, true)),
  (71, (⟨"StepCodeModel", "clear", "(I)Z"⟩, 1, 3, true))]),
  (96, [(72, (⟨"StepCodeModel", "numberOf", "(I)J"⟩, 1, 1, true)),
  (73, (⟨"StepCodeModel", "bits", "(IJ)V"⟩, 2, 4, true)),
  (74, (⟨"StepCodeModel", "where", "(I)I"⟩, 1, 0, true)),
  (75, (⟨"StepCodeModel", "find", "(II)Z"⟩, 2, 3, true)),
  (76, (⟨"StepCodeModel", "findElement", "(II)Z"⟩, 2, 3, true)),
  (77, (⟨"StepCodeModel", "function", "(IIII)Z"⟩, 4, 3, true)),
  (78, (⟨"StepCodeModel", "one", "(III)Z"⟩, 3, 3, true)),
  (79, (⟨"StepCodeModel", "two", "(III)Z"⟩, 3, 3, true)),
  (80, (⟨"StepCodeModel", "join", "(III)I"⟩, 3, 0, true)),
  (81, (⟨"StepCodeModel", "both", "(IIII)Z"⟩, 4, 3, true)),
  (82, (⟨"StepCodeModel", "alike", "(II)Z"⟩, 2, 3, true)),
  (83, (⟨"StepCodeModel", "compare", "(IIII)Z"⟩, 4, 3, true)),
  (84, (⟨"StepCodeModel", "bounded", "(IIJ)Z"⟩, 3, 3, true)),
  (85, (⟨"StepCodeModel", "sum", "(IZII)Z"⟩, 4, 3, true)),
  (86, (⟨"StepCodeModel", "joined", "(III)Z"⟩, 3, 3, true)),
  (87, (⟨"StepCodeModel", "reckon", "(IIII)Z"⟩, 4, 3, true)),
  (88, (⟨"StepCodeModel", "shift", "(IZII)Z"⟩, 4, 3, true)),
  (89, (⟨"StepCodeModel", "slot", "()I"⟩, 0, 0, true)),
  (90, (⟨"StepCodeModel", "enter", "(II)V"⟩, 2, 4, true)),
  (91, (⟨"StepCodeModel", "steps", "()Z"⟩, 0, 3, true)),
  (92, (⟨"StepCodeModel", "go", "()I"⟩, 0, 0, true)),
  (93, (⟨"StepCodeModel", "look", "(I)Z"⟩, 1, 3, true)),
  (94, (⟨"StepCodeModel", "condition", "(II)Z"⟩, 2, 3, true)),
  (95, (⟨"StepCodeModel", "act", "(I)Z"⟩, 1, 3, true))]),
  (120, [(96, (⟨"StepCodeModel", "branch", "(I)Z"⟩, 1, 3, true)),
  (97, (⟨"StepCodeModel", "choose", "(I)Z"⟩, 1, 3, true)),
  (98, (⟨"StepCodeModel", "beginFor", "(I)Z"⟩, 1, 3, true)),
  (99, (⟨"StepCodeModel", "leave", "(I)Z"⟩, 1, 3, true)),
  (100, (⟨"StepCodeModel", "findTime", "(I)Z"⟩, 1, 3, true)),
  (101, (⟨"StepCodeModel", "waitFor", "(I)Z"⟩, 1, 3, true)),
  (102, (⟨"StepCodeModel", "tell", "(I)Z"⟩, 1, 3, true)),
  (103, (⟨"StepCodeModel", "aim", "(I)Z"⟩, 1, 3, true)),
  (104, (⟨"StepCodeModel", "fits", "(II)Z"⟩, 2, 3, true)),
  (105, (⟨"StepCodeModel", "keepValue", "(I)Z"⟩, 1, 3, true)),
  (106, (⟨"StepCodeModel", "assign", "(I)Z"⟩, 1, 3, true)),
  (107, (⟨"StepCodeModel", "ended", "(I)V"⟩, 1, 4, true)),
  (108, (⟨"StepCodeModel", "resume", "(II)I"⟩, 2, 0, true)),
  (109, (⟨"StepCodeModel", "conditionOf", "(I)I"⟩, 1, 0, true)),
  (110, (⟨"StepCodeModel", "holds", "(I)I"⟩, 1, 0, true)),
  (111, (⟨"StepCodeModel", "about", "(II)I"⟩, 2, 0, true)),
  (112, (⟨"StepCodeModel", "waits", "(II)I"⟩, 2, 0, true)),
  (113, (⟨"StepCodeModel", "until", "(I)J"⟩, 1, 1, true)),
  (114, (⟨"StepCodeModel", "acts", "()I"⟩, 0, 0, true)),
  (115, (⟨"StepCodeModel", "act", "(II)I"⟩, 2, 0, true)),
  (116, (⟨"StepCodeModel", "wave", "(II)I"⟩, 2, 0, true)),
  (117, (⟨"StepCodeModel", "value", "(III)I"⟩, 3, 0, true)),
  (118, (⟨"StepCodeModel", "delay", "(II)J"⟩, 2, 1, true)),
  (119, (⟨"StepCode$Datum", "<init>", "()V"⟩, 0, 4, true))]),
  (144, [(120, (⟨"StepCode$Datum", "copy", "(LStepCode$Datum;)V"⟩, 1, 4, true)),
  (121, (⟨"StepCode$Datum", "hold", "(IIJJJJ)V"⟩, 6, 4, true)),
  (122, (⟨"StepCode$Datum", "beNumber", "(J)V"⟩, 1, 4, true)),
  (123, (⟨"StepCode$Datum", "beLogic", "(I)V"⟩, 1, 4, true)),
  (124, (⟨"StepCode$Datum", "keepPart", "(III)V"⟩, 3, 4, true)),
  (125, (⟨"StepCode$Datum", "overlay", "(ILStepCode$Datum;)V"⟩, 2, 4, true)),
  (126, (⟨"StepCode$Datum", "change", "(II)V"⟩, 2, 4, true)),
  (127, (⟨"StepCode$Datum", "element", "(I)I"⟩, 1, 0, true)),
  (128, (⟨"StepCode$Datum", "zeros", "()J"⟩, 0, 1, true)),
  (129, (⟨"StepCode$Datum", "ones", "()J"⟩, 0, 1, true)),
  (130, (⟨"StepCode$Datum", "unset", "()J"⟩, 0, 1, true)),
  (131, (⟨"StepCode$Datum", "isClear", "()Z"⟩, 0, 3, true)),
  (132, (⟨"StepCode$Datum", "isSame", "(LStepCode$Datum;)Z"⟩, 1, 3, true)),
  (133, (⟨"StepCode$Datum", "unlike", "(LStepCode$Datum;)I"⟩, 1, 0, true)),
  (134, (⟨"StepCode$Finder", "<init>", "(LStepCode$Things;)V"⟩, 1, 4, true)),
  (135, (⟨"StepCode$Finder", "found", "()LStepCode$Datum;"⟩, 0, 2, true)),
  (136, (⟨"StepCode$Finder", "isNumber", "()Z"⟩, 0, 3, true)),
  (137, (⟨"StepCode$Finder", "find", "(LStepCode$Unit;I)Z"⟩, 2, 3, true)),
  (138, (⟨"StepCode$Finder", "push", "()LStepCode$Datum;"⟩, 0, 2, true)),
  (139, (⟨"StepCode$Finder", "pushNow", "(LStepCode$Thing;)V"⟩, 1, 4, true)),
  (140, (⟨"StepCode$Finder", "down", "(I)LStepCode$Datum;"⟩, 1, 2, true)),
  (141, (⟨"StepCode$Finder", "drop", "(I)V"⟩, 1, 4, true)),
  (142, (⟨"StepCode$Finder", "gather", "(LStepCode$Nodes;I)V"⟩, 2, 4, true)),
  (143, (⟨"StepCode$Finder", "element", "()I"⟩, 0, 0, true))]),
  (168, [(144, (⟨"StepCode$Finder", "part", "()V"⟩, 0, 4, true)),
  (145, (⟨"StepCode$Finder", "function", "(ILStepCode$Thing;)I"⟩, 2, 0, true)),
  (146, (⟨"StepCode$Finder", "toNumber", "(LStepCode$Datum;)I"⟩, 1, 0, true)),
  (147, (⟨"StepCode$Finder", "toRow", "(LStepCode$Datum;I)I"⟩, 2, 0, true)),
  (148, (⟨"StepCode$Finder", "ofSignal", "(ILStepCode$Thing;)V"⟩, 2, 4, true)),
  (149, (⟨"StepCode$Finder", "time", "(ILStepCode$Datum;)I"⟩, 2, 0, true)),
  (150, (⟨"StepCode$Finder", "one", "(ILStepCode$Datum;)I"⟩, 2, 0, true)),
  (151, (⟨"StepCode$Finder", "settle", "(LStepCode$Datum;JJJ)V"⟩, 4, 4, true)),
  (152, (⟨"StepCode$Finder", "two", "(ILStepCode$Datum;LStepCode$Datum;)I"⟩, 3, 0, true)),
  (153, (⟨"StepCode$Finder", "truths", "(ILStepCode$Datum;LStepCode$Datum;)I"⟩, 3, 0, true)),
  (154, (⟨"StepCode$Finder", "isTurned", "(I)Z"⟩, 1, 3, true)),
  (155, (⟨"StepCode$Finder", "logics", "(ILStepCode$Datum;LStepCode$Datum;)I"⟩, 3, 0, true)),
  (156, (⟨"StepCode$Finder", "same", "(ZLStepCode$Datum;LStepCode$Datum;)I"⟩, 3, 0, true)),
  (157, (⟨"StepCode$Finder", "order", "(ILStepCode$Datum;LStepCode$Datum;)I"⟩, 3, 0, true)),
  (158, (⟨"StepCode$Finder", "rows", "(ILStepCode$Datum;LStepCode$Datum;)I"⟩, 3, 0, true)),
  (159, (⟨"StepCode$Finder", "joined", "(LStepCode$Datum;LStepCode$Datum;)I"⟩, 2, 0, true)),
  (160, (⟨"StepCode$Finder", "shifted", "(ILStepCode$Datum;LStepCode$Datum;)I"⟩, 3, 0, true)),
  (161, (⟨"StepCode$Finder", "numbers", "(ILStepCode$Datum;LStepCode$Datum;)I"⟩, 3, 0, true)),
  (162, (⟨"StepCode$Looker", "<init>", "(LStepCode$Maker;LStepCode$Things;)V"⟩, 2, 4, true)),
  (163, (⟨"StepCode$Looker", "firstWrong", "()I"⟩, 0, 0, true)),
  (164, (⟨"StepCode$Looker", "isOneBody", "()Z"⟩, 0, 3, true)),
  (165, (⟨"StepCode$Looker", "isRight", "(I)Z"⟩, 1, 3, true)),
  (166, (⟨"StepCode$Looker", "isRightExpression", "(IIII)Z"⟩, 4, 3, true)),
  (167, (⟨"StepCode$Looker", "isRightStatement", "(III)Z"⟩, 3, 3, true))]),
  (192, [(168, (⟨"StepCode$Looker", "isFunction", "(III)Z"⟩, 3, 3, true)),
  (169, (⟨"StepCode$Looker", "isPart", "(I)Z"⟩, 1, 3, true)),
  (170, (⟨"StepCode$Looker", "isAssign", "(I)Z"⟩, 1, 3, true)),
  (171, (⟨"StepCode$Looker", "isIf", "(II)Z"⟩, 2, 3, true)),
  (172, (⟨"StepCode$Looker", "isTarget", "(II)Z"⟩, 2, 3, true)),
  (173, (⟨"StepCode$Looker", "isStatements", "(I)Z"⟩, 1, 3, true)),
  (174, (⟨"StepCode$Looker", "isSignals", "(I)Z"⟩, 1, 3, true)),
  (175, (⟨"StepCode$Looker", "areChoices", "(I)Z"⟩, 1, 3, true)),
  (176, (⟨"StepCode$Looker", "areKids", "(III)Z"⟩, 3, 3, true)),
  (177, (⟨"StepCode$Looker", "isKidOrNothing", "(III)Z"⟩, 3, 3, true)),
  (178, (⟨"StepCode$Looker", "isExpressionOrNothing", "(II)Z"⟩, 2, 3, true)),
  (179, (⟨"StepCode$Looker", "isExpressionKid", "(II)Z"⟩, 2, 3, true)),
  (180, (⟨"StepCode$Looker", "kidKind", "(II)I"⟩, 2, 0, true)),
  (181, (⟨"StepCode$Looker", "isThing", "(II)Z"⟩, 2, 3, true)),
  (182, (⟨"StepCode$Looker", "thingOf", "(I)LStepCode$Thing;"⟩, 1, 2, true)),
  (183, (⟨"StepCode$Looker", "isExpression", "(I)Z"⟩, 1, 3, true)),
  (184, (⟨"StepCode$Looker", "isStatement", "(I)Z"⟩, 1, 3, true)),
  (185, (⟨"StepCode$Looker", "isWithin", "(III)Z"⟩, 3, 3, true)),
  (186, (⟨"StepCode$Maker", "<init>", "()V"⟩, 0, 4, true)),
  (187, (⟨"StepCode$Maker", "make", "(III)I"⟩, 3, 0, true)),
  (188, (⟨"StepCode$Maker", "heightOf", "(I)I"⟩, 1, 0, true)),
  (189, (⟨"StepCode$Maker", "clear", "()V"⟩, 0, 4, true)),
  (190, (⟨"StepCode$Nodes", "<init>", "(I)V"⟩, 1, 4, true)),
  (191, (⟨"StepCode$Nodes", "<init>", "(LStepCode$Nodes;)V"⟩, 1, 4, true))]),
  (216, [(192, (⟨"StepCode$Nodes", "trimmed", "()LStepCode$Nodes;"⟩, 0, 2, true)),
  (193, (⟨"StepCode$Nodes", "isFull", "()Z"⟩, 0, 3, true)),
  (194, (⟨"StepCode$Nodes", "kindOf", "(I)I"⟩, 1, 0, true)),
  (195, (⟨"StepCode$Nodes", "givenOf", "(I)I"⟩, 1, 0, true)),
  (196, (⟨"StepCode$Nodes", "startOf", "(I)I"⟩, 1, 0, true)),
  (197, (⟨"StepCode$Nodes", "parentOf", "(I)I"⟩, 1, 0, true)),
  (198, (⟨"StepCode$Nodes", "placeOf", "(I)I"⟩, 1, 0, true)),
  (199, (⟨"StepCode$Nodes", "kidsOf", "(I)I"⟩, 1, 0, true)),
  (200, (⟨"StepCode$Nodes", "kid", "(II)I"⟩, 2, 0, true)),
  (201, (⟨"StepCode$Nodes", "isLoop", "(I)Z"⟩, 1, 3, true)),
  (202, (⟨"StepCode$Nodes", "loopOf", "(I)I"⟩, 1, 0, true)),
  (203, (⟨"StepCode$Nodes", "begin", "(II)I"⟩, 2, 0, true)),
  (204, (⟨"StepCode$Nodes", "take", "(I)V"⟩, 1, 4, true)),
  (205, (⟨"StepCode$Nodes", "clear", "()V"⟩, 0, 4, true)),
  (206, (⟨"StepCode$Runner", "<init>", "(LStepCode$Things;LStepCode$Told;)V"⟩, 2, 4, true)),
  (207, (⟨"StepCode$Runner", "step", "(LStepCode$Unit;)Z"⟩, 1, 3, true)),
  (208, (⟨"StepCode$Runner", "waitIsOver", "(LStepCode$Unit;)I"⟩, 1, 0, true)),
  (209, (⟨"StepCode$Runner", "findNumber", "(LStepCode$Unit;II)Z"⟩, 3, 3, true)),
  (210, (⟨"StepCode$Runner", "assign", "(LStepCode$Unit;I)Z"⟩, 2, 3, true)),
  (211, (⟨"StepCode$Runner", "aim", "(LStepCode$Unit;I)Z"⟩, 2, 3, true)),
  (212, (⟨"StepCode$Runner", "unfit", "()I"⟩, 0, 0, true)),
  (213, (⟨"StepCode$Runner", "findWave", "(LStepCode$Unit;II)Z"⟩, 3, 3, true)),
  (214, (⟨"StepCode$Runner", "isRising", "(JI)Z"⟩, 2, 3, true)),
  (215, (⟨"StepCode$Runner", "keep", "(LStepCode$Unit;I)Z"⟩, 2, 3, true))]),
  (240, [(216, (⟨"StepCode$Runner", "choose", "(LStepCode$Unit;I)Z"⟩, 2, 3, true)),
  (217, (⟨"StepCode$Runner", "compare", "(LStepCode$Unit;I)Z"⟩, 2, 3, true)),
  (218, (⟨"StepCode$Runner", "beginCount", "(LStepCode$Unit;I)Z"⟩, 2, 3, true)),
  (219, (⟨"StepCode$Runner", "look", "(LStepCode$Unit;I)Z"⟩, 2, 3, true)),
  (220, (⟨"StepCode$Runner", "leave", "(LStepCode$Unit;I)Z"⟩, 2, 3, true)),
  (221, (⟨"StepCode$Runner", "pause", "(LStepCode$Unit;I)Z"⟩, 2, 3, true)),
  (222, (⟨"StepCode$Runner", "check", "(LStepCode$Unit;I)Z"⟩, 2, 3, true)),
  (223, (⟨"StepCode$Runner", "tell", "(LStepCode$Unit;I)Z"⟩, 2, 3, true)),
  (224, (⟨"StepCode$Thing", "<init>", "(III)V"⟩, 3, 4, true)),
  (225, (⟨"StepCode$Thing", "canBe", "(III)Z"⟩, 3, 3, true)),
  (226, (⟨"StepCode$Thing", "hasElement", "(I)Z"⟩, 1, 3, true)),
  (227, (⟨"StepCode$Thing", "allows", "(J)Z"⟩, 1, 3, true)),
  (228, (⟨"StepCode$Things", "<init>", "(I)V"⟩, 1, 4, true)),
  (229, (⟨"StepCode$Things", "isFull", "()Z"⟩, 0, 3, true)),
  (230, (⟨"StepCode$Things", "keep", "(LStepCode$Thing;)I"⟩, 1, 0, true)),
  (231, (⟨"StepCode$Things", "pick", "(I)LStepCode$Thing;"⟩, 1, 2, true)),
  (232, (⟨"StepCode$Things", "clear", "()V"⟩, 0, 4, true)),
  (233, (⟨"StepCode$Things", "trimmed", "()LStepCode$Things;"⟩, 0, 2, true)),
  (234, (⟨"StepCode$Told", "<init>", "()V"⟩, 0, 4, true)),
  (235, (⟨"StepCode$Told", "clear", "()V"⟩, 0, 4, true)),
  (236, (⟨"StepCode$Told", "has", "(I)Z"⟩, 1, 3, true)),
  (237, (⟨"StepCode$Told", "isAssign", "(I)Z"⟩, 1, 3, true)),
  (238, (⟨"StepCode$Told", "hasRoomFor", "(I)Z"⟩, 1, 3, true)),
  (239, (⟨"StepCode$Told", "tellReport", "(I)V"⟩, 1, 4, true))]),
  (264, [(240, (⟨"StepCode$Told", "tellAssign", "(IIIIJ)V"⟩, 5, 4, true)),
  (241, (⟨"StepCode$Told", "tellValue", "(LStepCode$Datum;J)V"⟩, 2, 4, true)),
  (242, (⟨"StepCode$Told", "placeOf", "(II)I"⟩, 2, 0, true)),
  (243, (⟨"StepCode$Told", "datumOf", "(II)LStepCode$Datum;"⟩, 2, 2, true)),
  (244, (⟨"StepCode$Unit", "<init>", "(LStepCode$Nodes;LStepCode$Things;)V"⟩, 2, 4, true)),
  (245, (⟨"StepCode$Unit", "countStep", "()V"⟩, 0, 4, true)),
  (246, (⟨"StepCode$Unit", "goTo", "(II)V"⟩, 2, 4, true)),
  (247, (⟨"StepCode$Unit", "goBehind", "(I)Z"⟩, 1, 3, true)),
  (248, (⟨"StepCode$Unit", "goInto", "(I)Z"⟩, 1, 3, true)),
  (249, (⟨"StepCode$Unit", "goToLook", "(I)Z"⟩, 1, 3, true)),
  (250, (⟨"StepCode$Unit", "beginCount", "(IJJ)V"⟩, 3, 4, true)),
  (251, (⟨"StepCode$Unit", "isCountOver", "(I)Z"⟩, 1, 3, true)),
  (252, (⟨"StepCode$Unit", "countOn", "(I)J"⟩, 1, 1, true)),
  (253, (⟨"StepCode$Unit", "fail", "(II)Z"⟩, 2, 3, true)),
  (254, (⟨"StepCode$Unit", "waitAt", "(IJ)Z"⟩, 2, 3, true)),
  (255, (⟨"StepCode$Unit", "leaveWait", "()V"⟩, 0, 4, true)),
  (256, (⟨"StepCode$Unit", "signalsWaitedFor", "()I"⟩, 0, 0, true)),
  (257, (⟨"StepCode$Unit", "signalWaitedFor", "(I)I"⟩, 1, 0, true)),
  (258, (⟨"StepCode$Unit", "waitsForExpression", "()Z"⟩, 0, 3, true)),
  (259, (⟨"java/lang/Math", "floorMod", "(JJ)J"⟩, 2, 1, true)),
  (260, (⟨"java/util/Arrays", "copyOf", "([II)[I"⟩, 2, 2, true)),
  (261, (⟨"StepCodeLaw", "signal", "(LStepCode;III[J)I"⟩, 5, 0, false)),
  (262, (⟨"StepCodeLaw", "variable", "(LStepCode;III[J)I"⟩, 5, 0, false)),
  (263, (⟨"StepCodeLaw", "add", "(LStepCode;III[J)I"⟩, 5, 0, false))]),
  (278, [(264, (⟨"StepCodeLaw", "process", "(LStepCode;[J)I"⟩, 2, 0, false)),
  (265, (⟨"StepCodeLaw", "put", "(LStepCode;IZII)I"⟩, 5, 0, false)),
  (266, (⟨"StepCodeLaw", "mark", "(LStepCode;IZZ)I"⟩, 4, 0, false)),
  (267, (⟨"StepCodeLaw", "get", "(LStepCode;II[J)I"⟩, 4, 0, false)),
  (268, (⟨"StepCodeLaw", "set", "(LStepCode;IIII)I"⟩, 5, 0, false)),
  (269, (⟨"StepCodeLaw", "variableOf", "(LStepCode;III[J)I"⟩, 5, 0, false)),
  (270, (⟨"StepCodeLaw", "resume", "(LStepCode;II[J)I"⟩, 4, 0, false)),
  (271, (⟨"StepCodeLaw", "holds", "(LStepCode;I[J)I"⟩, 3, 0, false)),
  (272, (⟨"StepCodeLaw", "about", "(LStepCode;II[J)I"⟩, 4, 0, false)),
  (273, (⟨"StepCodeLaw", "waits", "(LStepCode;II[J)I"⟩, 4, 0, false)),
  (274, (⟨"StepCodeLaw", "until", "(LStepCode;I[J)I"⟩, 3, 0, false)),
  (275, (⟨"StepCodeLaw", "act", "(LStepCode;II[J)I"⟩, 4, 0, false)),
  (276, (⟨"StepCodeLaw", "value", "(LStepCode;III[J)I"⟩, 5, 0, false)),
  (277, (⟨"StepCodeLaw", "delay", "(LStepCode;II[J)I"⟩, 4, 0, false))])]
def tb_Is : List (Nat × List (Nat × (MethodName × ByteArray × Nat × Option FieldType × List (Nat × Nat × Nat × Nat)))) := [(24, [(0, (⟨"StepCode", "<init>", "()V"⟩, prog_1_method_1_code, 1, none, [])),
  (1, (⟨"StepCode", "signal", "(III)I"⟩, prog_1_method_2_code, 4, (some .int), [])),
  (2, (⟨"StepCode", "variable", "(III)I"⟩, prog_1_method_3_code, 4, (some .int), [])),
  (3, (⟨"StepCode", "add", "(III)I"⟩, prog_1_method_4_code, 4, (some .int), [])),
  (4, (⟨"StepCode", "process", "()I"⟩, prog_1_method_5_code, 3, (some .int), [])),
  (5, (⟨"StepCode", "processes", "()I"⟩, prog_1_method_6_code, 1, (some .int), [])),
  (6, (⟨"StepCode", "put", "(IZII)V"⟩, prog_1_method_7_code, 6, none, [])),
  (7, (⟨"StepCode", "mark", "(IZZ)V"⟩, prog_1_method_8_code, 5, none, [])),
  (8, (⟨"StepCode", "get", "(II)I"⟩, prog_1_method_9_code, 4, (some .int), [])),
  (9, (⟨"StepCode", "set", "(IIII)V"⟩, prog_1_method_10_code, 6, none, [])),
  (10, (⟨"StepCode", "variableOf", "(III)I"⟩, prog_1_method_11_code, 5, (some .int), [])),
  (11, (⟨"StepCode", "resume", "(II)I"⟩, prog_1_method_12_code, 5, (some .int), [])),
  (12, (⟨"StepCode", "holds", "(I)I"⟩, prog_1_method_13_code, 3, (some .int), [])),
  (13, (⟨"StepCode", "about", "(II)I"⟩, prog_1_method_14_code, 4, (some .int), [])),
  (14, (⟨"StepCode", "waits", "(II)I"⟩, prog_1_method_15_code, 4, (some .int), [])),
  (15, (⟨"StepCode", "until", "(I)J"⟩, prog_1_method_16_code, 3, (some .long), [])),
  (16, (⟨"StepCode", "acts", "()I"⟩, prog_1_method_17_code, 1, (some .int), [])),
  (17, (⟨"StepCode", "act", "(II)I"⟩, prog_1_method_18_code, 3, (some .int), [])),
  (18, (⟨"StepCode", "value", "(III)I"⟩, prog_1_method_19_code, 5, (some .int), [])),
  (19, (⟨"StepCode", "delay", "(II)J"⟩, prog_1_method_20_code, 4, (some .long), [])),
  (20, (⟨"StepCode", "unitAt", "(I)LStepCode$Unit;"⟩, prog_1_method_21_code, 2, (some (.object "StepCode$Unit")), [])),
  (21, (⟨"StepCode", "variableThing", "(II)LStepCode$Thing;"⟩, prog_1_method_22_code, 4, (some (.object "StepCode$Thing")), [])),
  (22, (⟨"StepCodeModel", "<init>", "()V"⟩, prog_13_method_1_code, 1, none, [])),
  (23, (⟨"StepCodeModel", "thrown", "()I"⟩, prog_13_method_2_code, 1, (some .int), []))]),
  (48, [(24, (⟨"StepCodeModel", "element", "(II)I"⟩, prog_13_method_3_code, 3, (some .int), [])),
  (25, (⟨"StepCodeModel", "setElement", "(III)V"⟩, prog_13_method_4_code, 4, none, [])),
  (26, (⟨"StepCodeModel", "noKind", "(III)Z"⟩, prog_13_method_5_code, 3, (some .boolean), [])),
  (27, (⟨"StepCodeModel", "make", "(IIII)V"⟩, prog_13_method_6_code, 6, none, [])),
  (28, (⟨"StepCodeModel", "copy", "(II)V"⟩, prog_13_method_7_code, 4, none, [])),
  (29, (⟨"StepCodeModel", "signal", "(III)I"⟩, prog_13_method_8_code, 4, (some .int), [])),
  (30, (⟨"StepCodeModel", "variable", "(III)I"⟩, prog_13_method_9_code, 4, (some .int), [])),
  (31, (⟨"StepCodeModel", "lacks", "(II)Z"⟩, prog_13_method_10_code, 3, (some .boolean), [])),
  (32, (⟨"StepCodeModel", "cannot", "(II)Z"⟩, prog_13_method_11_code, 3, (some .boolean), [])),
  (33, (⟨"StepCodeModel", "told", "(II)I"⟩, prog_13_method_12_code, 3, (some .int), [])),
  (34, (⟨"StepCodeModel", "become", "(III)V"⟩, prog_13_method_13_code, 4, none, [])),
  (35, (⟨"StepCodeModel", "put", "(IZII)V"⟩, prog_13_method_14_code, 5, none, [])),
  (36, (⟨"StepCodeModel", "mark", "(IZZ)V"⟩, prog_13_method_15_code, 4, none, [])),
  (37, (⟨"StepCodeModel", "get", "(II)I"⟩, prog_13_method_16_code, 3, (some .int), [])),
  (38, (⟨"StepCodeModel", "noProcess", "(I)Z"⟩, prog_13_method_17_code, 2, (some .boolean), [])),
  (39, (⟨"StepCodeModel", "variableAt", "(III)I"⟩, prog_13_method_18_code, 5, (some .int), [])),
  (40, (⟨"StepCodeModel", "set", "(IIII)V"⟩, prog_13_method_19_code, 6, none, [])),
  (41, (⟨"StepCodeModel", "variableOf", "(III)I"⟩, prog_13_method_20_code, 5, (some .int), [])),
  (42, (⟨"StepCodeModel", "add", "(III)I"⟩, prog_13_method_21_code, 6, (some .int), [])),
  (43, (⟨"StepCodeModel", "child", "(II)I"⟩, prog_13_method_22_code, 5, (some .int), [])),
  (44, (⟨"StepCodeModel", "kindOf", "(I)I"⟩, prog_13_method_23_code, 2, (some .int), [])),
  (45, (⟨"StepCodeModel", "expression", "(I)Z"⟩, prog_13_method_24_code, 1, (some .boolean), [])),
  (46, (⟨"StepCodeModel", "statement", "(I)Z"⟩, prog_13_method_25_code, 1, (some .boolean), [])),
  (47, (⟨"StepCodeModel", "body", "(I)Z"⟩, prog_13_method_26_code, 4, (some .boolean), []))]),
  (72, [(48, (⟨"StepCodeModel", "all", "(II)Z"⟩, prog_13_method_27_code, 5, (some .boolean), [])),
  (49, (⟨"StepCodeModel", "objectOf", "(I)I"⟩, prog_13_method_28_code, 2, (some .int), [])),
  (50, (⟨"StepCodeModel", "isObject", "(II)Z"⟩, prog_13_method_29_code, 3, (some .boolean), [])),
  (51, (⟨"StepCodeModel", "rowObject", "(I)Z"⟩, prog_13_method_30_code, 2, (some .boolean), [])),
  (52, (⟨"StepCodeModel", "aims", "(II)Z"⟩, prog_13_method_31_code, 4, (some .boolean), [])),
  (53, (⟨"StepCodeModel", "inLoop", "(I)Z"⟩, prog_13_method_32_code, 4, (some .boolean), [])),
  (54, (⟨"StepCodeModel", "valued", "(I)Z"⟩, prog_13_method_33_code, 2, (some .boolean), [])),
  (55, (⟨"StepCodeModel", "right", "(I)Z"⟩, prog_13_method_34_code, 2, (some .boolean), [])),
  (56, (⟨"StepCodeModel", "rightExpression", "(I)Z"⟩, prog_13_method_35_code, 7, (some .boolean), [])),
  (57, (⟨"StepCodeModel", "rightStatement", "(I)Z"⟩, prog_13_method_36_code, 10, (some .boolean), [])),
  (58, (⟨"StepCodeModel", "rightBranch", "(I)Z"⟩, prog_13_method_37_code, 6, (some .boolean), [])),
  (59, (⟨"StepCodeModel", "rightOther", "(I)Z"⟩, prog_13_method_38_code, 7, (some .boolean), [])),
  (60, (⟨"StepCodeModel", "process", "()I"⟩, prog_13_method_39_code, 3, (some .int), [])),
  (61, (⟨"StepCodeModel", "keep", "()V"⟩, prog_13_method_40_code, 3, none, [])),
  (62, (⟨"StepCodeModel", "processes", "()I"⟩, prog_13_method_41_code, 1, (some .int), [])),
  (63, (⟨"StepCodeModel", "fail", "(II)Z"⟩, prog_13_method_42_code, 3, (some .boolean), [])),
  (64, (⟨"StepCodeModel", "numeral", "(IJ)Z"⟩, prog_13_method_43_code, 4, (some .boolean), [])),
  (65, (⟨"StepCodeModel", "truth", "(IZ)Z"⟩, prog_13_method_44_code, 3, (some .boolean), [])),
  (66, (⟨"StepCodeModel", "row", "(II)V"⟩, prog_13_method_45_code, 3, none, [])),
  (67, (⟨"StepCodeModel", "logic", "(II)Z"⟩, prog_13_method_46_code, 3, (some .boolean), [])),
  (68, (⟨"StepCodeModel", "isLow", "(I)Z"⟩, prog_13_method_47_code, 1, (some .boolean), [])),
  (69, (⟨"StepCodeModel", "isHigh", "(I)Z"⟩, prog_13_method_48_code, 1, (some .boolean), [])),
  (70, (⟨"StepCodeModel", "not", "(I)I"⟩, prog_13_method_49_code, 1, (some .int), [])),
  (71, (⟨"StepCodeModel", "clear", "(I)Z"⟩, prog_13_method_50_code, 4, (some .boolean), []))]),
  (96, [(72, (⟨"StepCodeModel", "numberOf", "(I)J"⟩, prog_13_method_51_code, 5, (some .long), [])),
  (73, (⟨"StepCodeModel", "bits", "(IJ)V"⟩, prog_13_method_52_code, 5, none, [])),
  (74, (⟨"StepCodeModel", "where", "(I)I"⟩, prog_13_method_53_code, 2, (some .int), [])),
  (75, (⟨"StepCodeModel", "find", "(II)Z"⟩, prog_13_method_54_code, 8, (some .boolean), [])),
  (76, (⟨"StepCodeModel", "findElement", "(II)Z"⟩, prog_13_method_55_code, 3, (some .boolean), [])),
  (77, (⟨"StepCodeModel", "function", "(IIII)Z"⟩, prog_13_method_56_code, 8, (some .boolean), [])),
  (78, (⟨"StepCodeModel", "one", "(III)Z"⟩, prog_13_method_57_code, 5, (some .boolean), [])),
  (79, (⟨"StepCodeModel", "two", "(III)Z"⟩, prog_13_method_58_code, 5, (some .boolean), [])),
  (80, (⟨"StepCodeModel", "join", "(III)I"⟩, prog_13_method_59_code, 6, (some .int), [])),
  (81, (⟨"StepCodeModel", "both", "(IIII)Z"⟩, prog_13_method_60_code, 8, (some .boolean), [])),
  (82, (⟨"StepCodeModel", "alike", "(II)Z"⟩, prog_13_method_61_code, 5, (some .boolean), [])),
  (83, (⟨"StepCodeModel", "compare", "(IIII)Z"⟩, prog_13_method_62_code, 8, (some .boolean), [])),
  (84, (⟨"StepCodeModel", "bounded", "(IIJ)Z"⟩, prog_13_method_63_code, 5, (some .boolean), [])),
  (85, (⟨"StepCodeModel", "sum", "(IZII)Z"⟩, prog_13_method_64_code, 11, (some .boolean), [])),
  (86, (⟨"StepCodeModel", "joined", "(III)Z"⟩, prog_13_method_65_code, 7, (some .boolean), [])),
  (87, (⟨"StepCodeModel", "reckon", "(IIII)Z"⟩, prog_13_method_66_code, 13, (some .boolean), [])),
  (88, (⟨"StepCodeModel", "shift", "(IZII)Z"⟩, prog_13_method_67_code, 10, (some .boolean), [])),
  (89, (⟨"StepCodeModel", "slot", "()I"⟩, prog_13_method_68_code, 1, (some .int), [])),
  (90, (⟨"StepCodeModel", "enter", "(II)V"⟩, prog_13_method_69_code, 3, none, [])),
  (91, (⟨"StepCodeModel", "steps", "()Z"⟩, prog_13_method_70_code, 1, (some .boolean), [])),
  (92, (⟨"StepCodeModel", "go", "()I"⟩, prog_13_method_71_code, 3, (some .int), [])),
  (93, (⟨"StepCodeModel", "look", "(I)Z"⟩, prog_13_method_72_code, 8, (some .boolean), [])),
  (94, (⟨"StepCodeModel", "condition", "(II)Z"⟩, prog_13_method_73_code, 3, (some .boolean), [])),
  (95, (⟨"StepCodeModel", "act", "(I)Z"⟩, prog_13_method_74_code, 3, (some .boolean), []))]),
  (120, [(96, (⟨"StepCodeModel", "branch", "(I)Z"⟩, prog_13_method_75_code, 3, (some .boolean), [])),
  (97, (⟨"StepCodeModel", "choose", "(I)Z"⟩, prog_13_method_76_code, 6, (some .boolean), [])),
  (98, (⟨"StepCodeModel", "beginFor", "(I)Z"⟩, prog_13_method_77_code, 3, (some .boolean), [])),
  (99, (⟨"StepCodeModel", "leave", "(I)Z"⟩, prog_13_method_78_code, 2, (some .boolean), [])),
  (100, (⟨"StepCodeModel", "findTime", "(I)Z"⟩, prog_13_method_79_code, 2, (some .boolean), [])),
  (101, (⟨"StepCodeModel", "waitFor", "(I)Z"⟩, prog_13_method_80_code, 3, (some .boolean), [])),
  (102, (⟨"StepCodeModel", "tell", "(I)Z"⟩, prog_13_method_81_code, 2, (some .boolean), [])),
  (103, (⟨"StepCodeModel", "aim", "(I)Z"⟩, prog_13_method_82_code, 2, (some .boolean), [])),
  (104, (⟨"StepCodeModel", "fits", "(II)Z"⟩, prog_13_method_83_code, 6, (some .boolean), [])),
  (105, (⟨"StepCodeModel", "keepValue", "(I)Z"⟩, prog_13_method_84_code, 5, (some .boolean), [])),
  (106, (⟨"StepCodeModel", "assign", "(I)Z"⟩, prog_13_method_85_code, 7, (some .boolean), [])),
  (107, (⟨"StepCodeModel", "ended", "(I)V"⟩, prog_13_method_86_code, 2, none, [])),
  (108, (⟨"StepCodeModel", "resume", "(II)I"⟩, prog_13_method_87_code, 3, (some .int), [])),
  (109, (⟨"StepCodeModel", "conditionOf", "(I)I"⟩, prog_13_method_88_code, 2, (some .int), [])),
  (110, (⟨"StepCodeModel", "holds", "(I)I"⟩, prog_13_method_89_code, 3, (some .int), [])),
  (111, (⟨"StepCodeModel", "about", "(II)I"⟩, prog_13_method_90_code, 4, (some .int), [])),
  (112, (⟨"StepCodeModel", "waits", "(II)I"⟩, prog_13_method_91_code, 3, (some .int), [])),
  (113, (⟨"StepCodeModel", "until", "(I)J"⟩, prog_13_method_92_code, 2, (some .long), [])),
  (114, (⟨"StepCodeModel", "acts", "()I"⟩, prog_13_method_93_code, 1, (some .int), [])),
  (115, (⟨"StepCodeModel", "act", "(II)I"⟩, prog_13_method_94_code, 3, (some .int), [])),
  (116, (⟨"StepCodeModel", "wave", "(II)I"⟩, prog_13_method_95_code, 3, (some .int), [])),
  (117, (⟨"StepCodeModel", "value", "(III)I"⟩, prog_13_method_96_code, 5, (some .int), [])),
  (118, (⟨"StepCodeModel", "delay", "(II)J"⟩, prog_13_method_97_code, 5, (some .long), [])),
  (119, (⟨"StepCode$Datum", "<init>", "()V"⟩, prog_2_method_1_code, 1, none, []))]),
  (144, [(120, (⟨"StepCode$Datum", "copy", "(LStepCode$Datum;)V"⟩, prog_2_method_2_code, 2, none, [])),
  (121, (⟨"StepCode$Datum", "hold", "(IIJJJJ)V"⟩, prog_2_method_3_code, 13, none, [])),
  (122, (⟨"StepCode$Datum", "beNumber", "(J)V"⟩, prog_2_method_4_code, 3, none, [])),
  (123, (⟨"StepCode$Datum", "beLogic", "(I)V"⟩, prog_2_method_5_code, 2, none, [])),
  (124, (⟨"StepCode$Datum", "keepPart", "(III)V"⟩, prog_2_method_6_code, 4, none, [])),
  (125, (⟨"StepCode$Datum", "overlay", "(ILStepCode$Datum;)V"⟩, prog_2_method_7_code, 5, none, [])),
  (126, (⟨"StepCode$Datum", "change", "(II)V"⟩, prog_2_method_8_code, 5, none, [])),
  (127, (⟨"StepCode$Datum", "element", "(I)I"⟩, prog_2_method_9_code, 2, (some .int), [])),
  (128, (⟨"StepCode$Datum", "zeros", "()J"⟩, prog_2_method_10_code, 1, (some .long), [])),
  (129, (⟨"StepCode$Datum", "ones", "()J"⟩, prog_2_method_11_code, 1, (some .long), [])),
  (130, (⟨"StepCode$Datum", "unset", "()J"⟩, prog_2_method_12_code, 1, (some .long), [])),
  (131, (⟨"StepCode$Datum", "isClear", "()Z"⟩, prog_2_method_13_code, 1, (some .boolean), [])),
  (132, (⟨"StepCode$Datum", "isSame", "(LStepCode$Datum;)Z"⟩, prog_2_method_14_code, 2, (some .boolean), [])),
  (133, (⟨"StepCode$Datum", "unlike", "(LStepCode$Datum;)I"⟩, prog_2_method_15_code, 2, (some .int), [])),
  (134, (⟨"StepCode$Finder", "<init>", "(LStepCode$Things;)V"⟩, prog_3_method_1_code, 3, none, [])),
  (135, (⟨"StepCode$Finder", "found", "()LStepCode$Datum;"⟩, prog_3_method_2_code, 1, (some (.object "StepCode$Datum")), [])),
  (136, (⟨"StepCode$Finder", "isNumber", "()Z"⟩, prog_3_method_3_code, 1, (some .boolean), [])),
  (137, (⟨"StepCode$Finder", "find", "(LStepCode$Unit;I)Z"⟩, prog_3_method_4_code, 7, (some .boolean), [])),
  (138, (⟨"StepCode$Finder", "push", "()LStepCode$Datum;"⟩, prog_3_method_5_code, 1, (some (.object "StepCode$Datum")), [])),
  (139, (⟨"StepCode$Finder", "pushNow", "(LStepCode$Thing;)V"⟩, prog_3_method_6_code, 3, none, [])),
  (140, (⟨"StepCode$Finder", "down", "(I)LStepCode$Datum;"⟩, prog_3_method_7_code, 2, (some (.object "StepCode$Datum")), [])),
  (141, (⟨"StepCode$Finder", "drop", "(I)V"⟩, prog_3_method_8_code, 2, none, [])),
  (142, (⟨"StepCode$Finder", "gather", "(LStepCode$Nodes;I)V"⟩, prog_3_method_9_code, 14, none, [])),
  (143, (⟨"StepCode$Finder", "element", "()I"⟩, prog_3_method_10_code, 3, (some .int), []))]),
  (168, [(144, (⟨"StepCode$Finder", "part", "()V"⟩, prog_3_method_11_code, 3, none, [])),
  (145, (⟨"StepCode$Finder", "function", "(ILStepCode$Thing;)I"⟩, prog_3_method_12_code, 4, (some .int), [])),
  (146, (⟨"StepCode$Finder", "toNumber", "(LStepCode$Datum;)I"⟩, prog_3_method_13_code, 3, (some .int), [])),
  (147, (⟨"StepCode$Finder", "toRow", "(LStepCode$Datum;I)I"⟩, prog_3_method_14_code, 2, (some .int), [])),
  (148, (⟨"StepCode$Finder", "ofSignal", "(ILStepCode$Thing;)V"⟩, prog_3_method_15_code, 4, none, [])),
  (149, (⟨"StepCode$Finder", "time", "(ILStepCode$Datum;)I"⟩, prog_3_method_16_code, 2, (some .int), [])),
  (150, (⟨"StepCode$Finder", "one", "(ILStepCode$Datum;)I"⟩, prog_3_method_17_code, 2, (some .int), [])),
  (151, (⟨"StepCode$Finder", "settle", "(LStepCode$Datum;JJJ)V"⟩, prog_3_method_18_code, 9, none, [])),
  (152, (⟨"StepCode$Finder", "two", "(ILStepCode$Datum;LStepCode$Datum;)I"⟩, prog_3_method_19_code, 3, (some .int), [])),
  (153, (⟨"StepCode$Finder", "truths", "(ILStepCode$Datum;LStepCode$Datum;)I"⟩, prog_3_method_20_code, 6, (some .int), [])),
  (154, (⟨"StepCode$Finder", "isTurned", "(I)Z"⟩, prog_3_method_21_code, 1, (some .boolean), [])),
  (155, (⟨"StepCode$Finder", "logics", "(ILStepCode$Datum;LStepCode$Datum;)I"⟩, prog_3_method_22_code, 12, (some .int), [])),
  (156, (⟨"StepCode$Finder", "same", "(ZLStepCode$Datum;LStepCode$Datum;)I"⟩, prog_3_method_23_code, 4, (some .int), [])),
  (157, (⟨"StepCode$Finder", "order", "(ILStepCode$Datum;LStepCode$Datum;)I"⟩, prog_3_method_24_code, 10, (some .int), [])),
  (158, (⟨"StepCode$Finder", "rows", "(ILStepCode$Datum;LStepCode$Datum;)I"⟩, prog_3_method_25_code, 8, (some .int), [])),
  (159, (⟨"StepCode$Finder", "joined", "(LStepCode$Datum;LStepCode$Datum;)I"⟩, prog_3_method_26_code, 3, (some .int), [])),
  (160, (⟨"StepCode$Finder", "shifted", "(ILStepCode$Datum;LStepCode$Datum;)I"⟩, prog_3_method_27_code, 8, (some .int), [])),
  (161, (⟨"StepCode$Finder", "numbers", "(ILStepCode$Datum;LStepCode$Datum;)I"⟩, prog_3_method_28_code, 5, (some .int), [])),
  (162, (⟨"StepCode$Looker", "<init>", "(LStepCode$Maker;LStepCode$Things;)V"⟩, prog_4_method_1_code, 3, none, [])),
  (163, (⟨"StepCode$Looker", "firstWrong", "()I"⟩, prog_4_method_2_code, 2, (some .int), [])),
  (164, (⟨"StepCode$Looker", "isOneBody", "()Z"⟩, prog_4_method_3_code, 1, (some .boolean), [])),
  (165, (⟨"StepCode$Looker", "isRight", "(I)Z"⟩, prog_4_method_4_code, 3, (some .boolean), [])),
  (166, (⟨"StepCode$Looker", "isRightExpression", "(IIII)Z"⟩, prog_4_method_5_code, 5, (some .boolean), [])),
  (167, (⟨"StepCode$Looker", "isRightStatement", "(III)Z"⟩, prog_4_method_6_code, 4, (some .boolean), []))]),
  (192, [(168, (⟨"StepCode$Looker", "isFunction", "(III)Z"⟩, prog_4_method_7_code, 4, (some .boolean), [])),
  (169, (⟨"StepCode$Looker", "isPart", "(I)Z"⟩, prog_4_method_8_code, 5, (some .boolean), [])),
  (170, (⟨"StepCode$Looker", "isAssign", "(I)Z"⟩, prog_4_method_9_code, 4, (some .boolean), [])),
  (171, (⟨"StepCode$Looker", "isIf", "(II)Z"⟩, prog_4_method_10_code, 4, (some .boolean), [])),
  (172, (⟨"StepCode$Looker", "isTarget", "(II)Z"⟩, prog_4_method_11_code, 4, (some .boolean), [])),
  (173, (⟨"StepCode$Looker", "isStatements", "(I)Z"⟩, prog_4_method_12_code, 3, (some .boolean), [])),
  (174, (⟨"StepCode$Looker", "isSignals", "(I)Z"⟩, prog_4_method_13_code, 2, (some .boolean), [])),
  (175, (⟨"StepCode$Looker", "areChoices", "(I)Z"⟩, prog_4_method_14_code, 4, (some .boolean), [])),
  (176, (⟨"StepCode$Looker", "areKids", "(III)Z"⟩, prog_4_method_15_code, 5, (some .boolean), [])),
  (177, (⟨"StepCode$Looker", "isKidOrNothing", "(III)Z"⟩, prog_4_method_16_code, 5, (some .boolean), [])),
  (178, (⟨"StepCode$Looker", "isExpressionOrNothing", "(II)Z"⟩, prog_4_method_17_code, 3, (some .boolean), [])),
  (179, (⟨"StepCode$Looker", "isExpressionKid", "(II)Z"⟩, prog_4_method_18_code, 3, (some .boolean), [])),
  (180, (⟨"StepCode$Looker", "kidKind", "(II)I"⟩, prog_4_method_19_code, 3, (some .int), [])),
  (181, (⟨"StepCode$Looker", "isThing", "(II)Z"⟩, prog_4_method_20_code, 4, (some .boolean), [])),
  (182, (⟨"StepCode$Looker", "thingOf", "(I)LStepCode$Thing;"⟩, prog_4_method_21_code, 3, (some (.object "StepCode$Thing")), [])),
  (183, (⟨"StepCode$Looker", "isExpression", "(I)Z"⟩, prog_4_method_22_code, 1, (some .boolean), [])),
  (184, (⟨"StepCode$Looker", "isStatement", "(I)Z"⟩, prog_4_method_23_code, 1, (some .boolean), [])),
  (185, (⟨"StepCode$Looker", "isWithin", "(III)Z"⟩, prog_4_method_24_code, 3, (some .boolean), [])),
  (186, (⟨"StepCode$Maker", "<init>", "()V"⟩, prog_5_method_1_code, 1, none, [])),
  (187, (⟨"StepCode$Maker", "make", "(III)I"⟩, prog_5_method_2_code, 8, (some .int), [])),
  (188, (⟨"StepCode$Maker", "heightOf", "(I)I"⟩, prog_5_method_3_code, 2, (some .int), [])),
  (189, (⟨"StepCode$Maker", "clear", "()V"⟩, prog_5_method_4_code, 1, none, [])),
  (190, (⟨"StepCode$Nodes", "<init>", "(I)V"⟩, prog_6_method_1_code, 3, none, [])),
  (191, (⟨"StepCode$Nodes", "<init>", "(LStepCode$Nodes;)V"⟩, prog_6_method_2_code, 2, none, []))]),
  (216, [(192, (⟨"StepCode$Nodes", "trimmed", "()LStepCode$Nodes;"⟩, prog_6_method_3_code, 1, (some (.object "StepCode$Nodes")), [])),
  (193, (⟨"StepCode$Nodes", "isFull", "()Z"⟩, prog_6_method_4_code, 1, (some .boolean), [])),
  (194, (⟨"StepCode$Nodes", "kindOf", "(I)I"⟩, prog_6_method_5_code, 2, (some .int), [])),
  (195, (⟨"StepCode$Nodes", "givenOf", "(I)I"⟩, prog_6_method_6_code, 2, (some .int), [])),
  (196, (⟨"StepCode$Nodes", "startOf", "(I)I"⟩, prog_6_method_7_code, 2, (some .int), [])),
  (197, (⟨"StepCode$Nodes", "parentOf", "(I)I"⟩, prog_6_method_8_code, 2, (some .int), [])),
  (198, (⟨"StepCode$Nodes", "placeOf", "(I)I"⟩, prog_6_method_9_code, 2, (some .int), [])),
  (199, (⟨"StepCode$Nodes", "kidsOf", "(I)I"⟩, prog_6_method_10_code, 2, (some .int), [])),
  (200, (⟨"StepCode$Nodes", "kid", "(II)I"⟩, prog_6_method_11_code, 4, (some .int), [])),
  (201, (⟨"StepCode$Nodes", "isLoop", "(I)Z"⟩, prog_6_method_12_code, 3, (some .boolean), [])),
  (202, (⟨"StepCode$Nodes", "loopOf", "(I)I"⟩, prog_6_method_13_code, 4, (some .int), [])),
  (203, (⟨"StepCode$Nodes", "begin", "(II)I"⟩, prog_6_method_14_code, 4, (some .int), [])),
  (204, (⟨"StepCode$Nodes", "take", "(I)V"⟩, prog_6_method_15_code, 3, none, [])),
  (205, (⟨"StepCode$Nodes", "clear", "()V"⟩, prog_6_method_16_code, 1, none, [])),
  (206, (⟨"StepCode$Runner", "<init>", "(LStepCode$Things;LStepCode$Told;)V"⟩, prog_7_method_1_code, 4, none, [])),
  (207, (⟨"StepCode$Runner", "step", "(LStepCode$Unit;)Z"⟩, prog_7_method_2_code, 3, (some .boolean), [])),
  (208, (⟨"StepCode$Runner", "waitIsOver", "(LStepCode$Unit;)I"⟩, prog_7_method_3_code, 2, (some .int), [])),
  (209, (⟨"StepCode$Runner", "findNumber", "(LStepCode$Unit;II)Z"⟩, prog_7_method_4_code, 4, (some .boolean), [])),
  (210, (⟨"StepCode$Runner", "assign", "(LStepCode$Unit;I)Z"⟩, prog_7_method_5_code, 10, (some .boolean), [])),
  (211, (⟨"StepCode$Runner", "aim", "(LStepCode$Unit;I)Z"⟩, prog_7_method_6_code, 8, (some .boolean), [])),
  (212, (⟨"StepCode$Runner", "unfit", "()I"⟩, prog_7_method_7_code, 2, (some .int), [])),
  (213, (⟨"StepCode$Runner", "findWave", "(LStepCode$Unit;II)Z"⟩, prog_7_method_8_code, 5, (some .boolean), [])),
  (214, (⟨"StepCode$Runner", "isRising", "(JI)Z"⟩, prog_7_method_9_code, 5, (some .boolean), [])),
  (215, (⟨"StepCode$Runner", "keep", "(LStepCode$Unit;I)Z"⟩, prog_7_method_10_code, 4, (some .boolean), []))]),
  (240, [(216, (⟨"StepCode$Runner", "choose", "(LStepCode$Unit;I)Z"⟩, prog_7_method_11_code, 5, (some .boolean), [])),
  (217, (⟨"StepCode$Runner", "compare", "(LStepCode$Unit;I)Z"⟩, prog_7_method_12_code, 9, (some .boolean), [])),
  (218, (⟨"StepCode$Runner", "beginCount", "(LStepCode$Unit;I)Z"⟩, prog_7_method_13_code, 5, (some .boolean), [])),
  (219, (⟨"StepCode$Runner", "look", "(LStepCode$Unit;I)Z"⟩, prog_7_method_14_code, 7, (some .boolean), [])),
  (220, (⟨"StepCode$Runner", "leave", "(LStepCode$Unit;I)Z"⟩, prog_7_method_15_code, 5, (some .boolean), [])),
  (221, (⟨"StepCode$Runner", "pause", "(LStepCode$Unit;I)Z"⟩, prog_7_method_16_code, 4, (some .boolean), [])),
  (222, (⟨"StepCode$Runner", "check", "(LStepCode$Unit;I)Z"⟩, prog_7_method_17_code, 3, (some .boolean), [])),
  (223, (⟨"StepCode$Runner", "tell", "(LStepCode$Unit;I)Z"⟩, prog_7_method_18_code, 3, (some .boolean), [])),
  (224, (⟨"StepCode$Thing", "<init>", "(III)V"⟩, prog_8_method_1_code, 4, none, [])),
  (225, (⟨"StepCode$Thing", "canBe", "(III)Z"⟩, prog_8_method_2_code, 3, (some .boolean), [])),
  (226, (⟨"StepCode$Thing", "hasElement", "(I)Z"⟩, prog_8_method_3_code, 2, (some .boolean), [])),
  (227, (⟨"StepCode$Thing", "allows", "(J)Z"⟩, prog_8_method_4_code, 3, (some .boolean), [])),
  (228, (⟨"StepCode$Things", "<init>", "(I)V"⟩, prog_9_method_1_code, 2, none, [])),
  (229, (⟨"StepCode$Things", "isFull", "()Z"⟩, prog_9_method_2_code, 1, (some .boolean), [])),
  (230, (⟨"StepCode$Things", "keep", "(LStepCode$Thing;)I"⟩, prog_9_method_3_code, 2, (some .int), [])),
  (231, (⟨"StepCode$Things", "pick", "(I)LStepCode$Thing;"⟩, prog_9_method_4_code, 2, (some (.object "StepCode$Thing")), [])),
  (232, (⟨"StepCode$Things", "clear", "()V"⟩, prog_9_method_5_code, 1, none, [])),
  (233, (⟨"StepCode$Things", "trimmed", "()LStepCode$Things;"⟩, prog_9_method_6_code, 3, (some (.object "StepCode$Things")), [])),
  (234, (⟨"StepCode$Told", "<init>", "()V"⟩, prog_10_method_1_code, 2, none, [])),
  (235, (⟨"StepCode$Told", "clear", "()V"⟩, prog_10_method_2_code, 1, none, [])),
  (236, (⟨"StepCode$Told", "has", "(I)Z"⟩, prog_10_method_3_code, 2, (some .boolean), [])),
  (237, (⟨"StepCode$Told", "isAssign", "(I)Z"⟩, prog_10_method_4_code, 2, (some .boolean), [])),
  (238, (⟨"StepCode$Told", "hasRoomFor", "(I)Z"⟩, prog_10_method_5_code, 2, (some .boolean), [])),
  (239, (⟨"StepCode$Told", "tellReport", "(I)V"⟩, prog_10_method_6_code, 2, none, []))]),
  (264, [(240, (⟨"StepCode$Told", "tellAssign", "(IIIIJ)V"⟩, prog_10_method_7_code, 7, none, [])),
  (241, (⟨"StepCode$Told", "tellValue", "(LStepCode$Datum;J)V"⟩, prog_10_method_8_code, 4, none, [])),
  (242, (⟨"StepCode$Told", "placeOf", "(II)I"⟩, prog_10_method_9_code, 4, (some .int), [])),
  (243, (⟨"StepCode$Told", "datumOf", "(II)LStepCode$Datum;"⟩, prog_10_method_10_code, 4, (some (.object "StepCode$Datum")), [])),
  (244, (⟨"StepCode$Unit", "<init>", "(LStepCode$Nodes;LStepCode$Things;)V"⟩, prog_11_method_1_code, 3, none, [])),
  (245, (⟨"StepCode$Unit", "countStep", "()V"⟩, prog_11_method_2_code, 1, none, [])),
  (246, (⟨"StepCode$Unit", "goTo", "(II)V"⟩, prog_11_method_3_code, 9, none, [])),
  (247, (⟨"StepCode$Unit", "goBehind", "(I)Z"⟩, prog_11_method_4_code, 2, (some .boolean), [])),
  (248, (⟨"StepCode$Unit", "goInto", "(I)Z"⟩, prog_11_method_5_code, 2, (some .boolean), [])),
  (249, (⟨"StepCode$Unit", "goToLook", "(I)Z"⟩, prog_11_method_6_code, 2, (some .boolean), [])),
  (250, (⟨"StepCode$Unit", "beginCount", "(IJJ)V"⟩, prog_11_method_7_code, 6, none, [])),
  (251, (⟨"StepCode$Unit", "isCountOver", "(I)Z"⟩, prog_11_method_8_code, 2, (some .boolean), [])),
  (252, (⟨"StepCode$Unit", "countOn", "(I)J"⟩, prog_11_method_9_code, 4, (some .long), [])),
  (253, (⟨"StepCode$Unit", "fail", "(II)Z"⟩, prog_11_method_10_code, 3, (some .boolean), [])),
  (254, (⟨"StepCode$Unit", "waitAt", "(IJ)Z"⟩, prog_11_method_11_code, 4, (some .boolean), [])),
  (255, (⟨"StepCode$Unit", "leaveWait", "()V"⟩, prog_11_method_12_code, 1, none, [])),
  (256, (⟨"StepCode$Unit", "signalsWaitedFor", "()I"⟩, prog_11_method_13_code, 1, (some .int), [])),
  (257, (⟨"StepCode$Unit", "signalWaitedFor", "(I)I"⟩, prog_11_method_14_code, 2, (some .int), [])),
  (258, (⟨"StepCode$Unit", "waitsForExpression", "()Z"⟩, prog_11_method_15_code, 1, (some .boolean), [])),
  (259, (⟨"java/lang/Math", "floorMod", "(JJ)J"⟩, prog_19_method_52_code, 6, (some .long), [])),
  (260, (⟨"java/util/Arrays", "copyOf", "([II)[I"⟩, prog_24_method_123_code, 3, (some (.array .int)), [])),
  (261, (⟨"StepCodeLaw", "signal", "(LStepCode;III[J)I"⟩, method_3_code, 6, (some .int), [(0, 12, 15, 13), (0, 12, 19, 15)])),
  (262, (⟨"StepCodeLaw", "variable", "(LStepCode;III[J)I"⟩, method_4_code, 6, (some .int), [(0, 12, 15, 13), (0, 12, 19, 15)])),
  (263, (⟨"StepCodeLaw", "add", "(LStepCode;III[J)I"⟩, method_5_code, 6, (some .int), [(0, 12, 15, 13), (0, 12, 19, 15)]))]),
  (279, [(264, (⟨"StepCodeLaw", "process", "(LStepCode;[J)I"⟩, method_6_code, 3, (some .int), [(0, 8, 11, 15)])),
  (265, (⟨"StepCodeLaw", "put", "(LStepCode;IZII)I"⟩, method_7_code, 6, (some .int), [(0, 9, 12, 31), (0, 9, 16, 13)])),
  (266, (⟨"StepCodeLaw", "mark", "(LStepCode;IZZ)I"⟩, method_8_code, 5, (some .int), [(0, 7, 10, 31)])),
  (267, (⟨"StepCodeLaw", "get", "(LStepCode;II[J)I"⟩, method_9_code, 5, (some .int), [(0, 10, 13, 31)])),
  (268, (⟨"StepCodeLaw", "set", "(LStepCode;IIII)I"⟩, method_10_code, 6, (some .int), [(0, 9, 12, 31), (0, 9, 16, 13)])),
  (269, (⟨"StepCodeLaw", "variableOf", "(LStepCode;III[J)I"⟩, method_11_code, 6, (some .int), [(0, 12, 15, 31)])),
  (270, (⟨"StepCodeLaw", "resume", "(LStepCode;II[J)I"⟩, method_12_code, 5, (some .int), [(0, 10, 13, 31), (0, 10, 17, 13), (0, 10, 21, 15)])),
  (271, (⟨"StepCodeLaw", "holds", "(LStepCode;I[J)I"⟩, method_13_code, 4, (some .int), [(0, 9, 12, 31), (0, 9, 15, 15)])),
  (272, (⟨"StepCodeLaw", "about", "(LStepCode;II[J)I"⟩, method_14_code, 5, (some .int), [(0, 10, 13, 31), (0, 10, 17, 13)])),
  (273, (⟨"StepCodeLaw", "waits", "(LStepCode;II[J)I"⟩, method_15_code, 5, (some .int), [(0, 10, 13, 31)])),
  (274, (⟨"StepCodeLaw", "until", "(LStepCode;I[J)I"⟩, method_16_code, 4, (some .int), [(0, 8, 11, 31)])),
  (275, (⟨"StepCodeLaw", "act", "(LStepCode;II[J)I"⟩, method_17_code, 5, (some .int), [(0, 10, 13, 31), (0, 10, 17, 13)])),
  (276, (⟨"StepCodeLaw", "value", "(LStepCode;III[J)I"⟩, method_18_code, 6, (some .int), [(0, 12, 15, 31)])),
  (277, (⟨"StepCodeLaw", "delay", "(LStepCode;II[J)I"⟩, method_19_code, 5, (some .int), [(0, 9, 12, 31)])),
  (278, (⟨"StepCodeLaw", "law", "([I)Z"⟩, code, 8, (some .boolean), []))])]
def tb_I : am_I := fun y => ah_lkc tb_Is y
def tb_E : ck_N := (tb_run, tb_cl, tb_ft, fun y => ah_lkc tb_cals y, tb_nest, tb_aos, tb_ak, tb_str, tb_ex)
def tb_G (D : ar_D) (lim : Nat × Nat) (b : Nat) (B : Heap) : am_G := (tb_cl, tb_ak, D, lim, b, tb_nest, tb_aos, B, tb_str, tb_sta, tb_exc, tb_dec)
theorem tb_runs_ok : ∀ e ∈ tb_runs, ∀ v ∈ e.2, v ∈ tb_tbl := by
  have h0 : ∀ v, v ∈ k2_sels lw_privs → v ∈ tb_tbl := fun v h => List.mem_cons_of_mem _ (List.mem_append_left _ h)
  have h1 : ∀ v, v ∈ tables_1 → v ∈ tb_tbl := fun v h => List.mem_cons_of_mem _ (List.mem_append_right _ h)
  refine List.forall_mem_cons.mpr ⟨h0, ?_⟩
  refine List.forall_mem_cons.mpr ⟨fun v h => h1 v (by simp only [tables_1, List.mem_append]; simp only [show v ∈ tables_1_1 from h, true_or, or_true]), ?_⟩
  refine List.forall_mem_cons.mpr ⟨fun v h => h1 v (by simp only [tables_1, List.mem_append]; simp only [show v ∈ tables_1_2 from h, true_or, or_true]), ?_⟩
  refine List.forall_mem_cons.mpr ⟨fun v h => h1 v (by simp only [tables_1, List.mem_append]; simp only [show v ∈ tables_1_3 from h, true_or, or_true]), ?_⟩
  refine List.forall_mem_cons.mpr ⟨fun v h => h1 v (by simp only [tables_1, List.mem_append]; simp only [show v ∈ tables_1_4 from h, true_or, or_true]), ?_⟩
  refine List.forall_mem_cons.mpr ⟨fun v h => h1 v (by simp only [tables_1, List.mem_append]; simp only [show v ∈ tables_1_5 from h, true_or, or_true]), ?_⟩
  refine List.forall_mem_cons.mpr ⟨fun v h => h1 v (by simp only [tables_1, List.mem_append]; simp only [show v ∈ tables_1_6 from h, true_or, or_true]), ?_⟩
  refine List.forall_mem_cons.mpr ⟨fun v h => h1 v (by simp only [tables_1, List.mem_append]; simp only [show v ∈ tables_1_7 from h, true_or, or_true]), ?_⟩
  refine List.forall_mem_cons.mpr ⟨fun v h => h1 v (by simp only [tables_1, List.mem_append]; simp only [show v ∈ tables_1_8 from h, true_or, or_true]), ?_⟩
  exact fun _ h => absurd h List.not_mem_nil
theorem tb_run_ok : ∀ k v, v ∈ tb_run k → v ∈ tb_tbl := by
  intro k v h
  unfold tb_run at h
  cases hl : ah_lk tb_runs k with
  | none => rw [hl] at h; cases h
  | some l => rw [hl] at h; exact tb_runs_ok _ (ah_lk_mem _ hl) v h
