/-! TABLES of the abstract machine, by program (wip/tools/gen2.py) out of the claim's listing and words -/

def tf_0 : u_T := fun k => match k with
  | 0 => ("StepCode", "signals", "LStepCode$Things;", true)
  | 1 => ("StepCode", "maker", "LStepCode$Maker;", true)
  | 2 => ("StepCode", "looker", "LStepCode$Looker;", true)
  | 3 => ("StepCode", "units", "[LStepCode$Unit;", true)
  | 4 => ("StepCode", "unitCount", "I", false)
  | 5 => ("StepCode", "nodesKept", "I", false)
  | 6 => ("StepCode", "told", "LStepCode$Told;", true)
  | _ => ("StepCode", "runner", "LStepCode$Runner;", true)
def tf_1 : u_T := fun k => match k with
  | 0 => ("StepCode$Datum", "is", "I", false)
  | 1 => ("StepCode$Datum", "length", "I", false)
  | 2 => ("StepCode$Datum", "number", "J", false)
  | 3 => ("StepCode$Datum", "bit0", "J", false)
  | 4 => ("StepCode$Datum", "bit1", "J", false)
  | 5 => ("StepCode$Datum", "bit2", "J", false)
  | _ => ("StepCode$Datum", "bit3", "J", false)
def tf_2 : u_T := fun k => match k with
  | 0 => ("StepCode$Finder", "signals", "LStepCode$Things;", true)
  | 1 => ("StepCode$Finder", "stack", "[LStepCode$Datum;", true)
  | _ => ("StepCode$Finder", "top", "I", false)
def tf_3 : u_T := fun k => match k with
  | 0 => ("StepCode$Looker", "maker", "LStepCode$Maker;", true)
  | 1 => ("StepCode$Looker", "nodes", "LStepCode$Nodes;", true)
  | _ => ("StepCode$Looker", "signals", "LStepCode$Things;", true)
def tf_4 : u_T := fun k => match k with
  | 0 => ("StepCode$Maker", "nodes", "LStepCode$Nodes;", true)
  | 1 => ("StepCode$Maker", "variables", "LStepCode$Things;", true)
  | 2 => ("StepCode$Maker", "height", "[I", true)
  | 3 => ("StepCode$Maker", "roots", "[I", true)
  | _ => ("StepCode$Maker", "rootCount", "I", false)
def tf_5 : u_T := fun k => match k with
  | 0 => ("StepCode$Nodes", "kind", "[I", true)
  | 1 => ("StepCode$Nodes", "given", "[I", true)
  | 2 => ("StepCode$Nodes", "start", "[I", true)
  | 3 => ("StepCode$Nodes", "parent", "[I", true)
  | 4 => ("StepCode$Nodes", "place", "[I", true)
  | 5 => ("StepCode$Nodes", "kidAt", "[I", true)
  | 6 => ("StepCode$Nodes", "kidCount", "[I", true)
  | 7 => ("StepCode$Nodes", "kids", "[I", true)
  | 8 => ("StepCode$Nodes", "count", "I", false)
  | _ => ("StepCode$Nodes", "kidTotal", "I", false)
def tf_6 : u_T := fun k => match k with
  | 0 => ("StepCode$Runner", "signals", "LStepCode$Things;", true)
  | 1 => ("StepCode$Runner", "told", "LStepCode$Told;", true)
  | 2 => ("StepCode$Runner", "finder", "LStepCode$Finder;", true)
  | 3 => ("StepCode$Runner", "chosen", "LStepCode$Datum;", true)
  | 4 => ("StepCode$Runner", "waves", "[LStepCode$Datum;", true)
  | 5 => ("StepCode$Runner", "delays", "[J", true)
  | 6 => ("StepCode$Runner", "target", "LStepCode$Thing;", false)
  | 7 => ("StepCode$Runner", "targetNumber", "I", false)
  | 8 => ("StepCode$Runner", "targetClass", "I", false)
  | 9 => ("StepCode$Runner", "targetFirst", "I", false)
  | _ => ("StepCode$Runner", "targetMany", "I", false)
def tf_7 : u_T := fun k => match k with
  | 0 => ("StepCode$Thing", "is", "I", true)
  | 1 => ("StepCode$Thing", "length", "I", true)
  | 2 => ("StepCode$Thing", "least", "I", true)
  | 3 => ("StepCode$Thing", "greatest", "I", true)
  | 4 => ("StepCode$Thing", "now", "LStepCode$Datum;", true)
  | 5 => ("StepCode$Thing", "last", "LStepCode$Datum;", true)
  | 6 => ("StepCode$Thing", "event", "Z", false)
  | _ => ("StepCode$Thing", "active", "Z", false)
def tf_8 : u_T := fun k => match k with
  | 0 => ("StepCode$Things", "row", "[LStepCode$Thing;", true)
  | _ => ("StepCode$Things", "count", "I", false)
def tf_9 : u_T := fun k => match k with
  | 0 => ("StepCode$Told", "report", "[I", true)
  | 1 => ("StepCode$Told", "subject", "[I", true)
  | 2 => ("StepCode$Told", "first", "[I", true)
  | 3 => ("StepCode$Told", "many", "[I", true)
  | 4 => ("StepCode$Told", "mode", "[I", true)
  | 5 => ("StepCode$Told", "values", "[I", true)
  | 6 => ("StepCode$Told", "from", "[I", true)
  | 7 => ("StepCode$Told", "limit", "[J", true)
  | 8 => ("StepCode$Told", "delays", "[J", true)
  | 9 => ("StepCode$Told", "data", "[LStepCode$Datum;", true)
  | 10 => ("StepCode$Told", "count", "I", false)
  | _ => ("StepCode$Told", "total", "I", false)
def tf_10 : u_T := fun k => match k with
  | 0 => ("StepCode$Unit", "nodes", "LStepCode$Nodes;", true)
  | 1 => ("StepCode$Unit", "variables", "LStepCode$Things;", true)
  | 2 => ("StepCode$Unit", "state", "I", false)
  | 3 => ("StepCode$Unit", "fault", "I", false)
  | 4 => ("StepCode$Unit", "faultNode", "I", false)
  | 5 => ("StepCode$Unit", "steps", "I", false)
  | 6 => ("StepCode$Unit", "task", "I", false)
  | 7 => ("StepCode$Unit", "at", "I", false)
  | 8 => ("StepCode$Unit", "waitNode", "I", false)
  | 9 => ("StepCode$Unit", "waitTime", "J", false)
  | 10 => ("StepCode$Unit", "next", "[J", true)
  | _ => ("StepCode$Unit", "end", "[J", true)
def tf_11 : u_T := fun k => match k with
  | 0 => ("StepCodeModel", "code", "I", false)
  | 1 => ("StepCodeModel", "is", "[B", true)
  | 2 => ("StepCodeModel", "length", "[B", true)
  | 3 => ("StepCodeModel", "low", "[I", true)
  | 4 => ("StepCodeModel", "high", "[I", true)
  | 5 => ("StepCodeModel", "number", "[J", true)
  | 6 => ("StepCodeModel", "elements", "[B", true)
  | 7 => ("StepCodeModel", "signals", "I", false)
  | 8 => ("StepCodeModel", "variables", "I", false)
  | 9 => ("StepCodeModel", "drafts", "I", false)
  | 10 => ("StepCodeModel", "event", "[Z", true)
  | 11 => ("StepCodeModel", "active", "[Z", true)
  | 12 => ("StepCodeModel", "kind", "[I", true)
  | 13 => ("StepCodeModel", "val", "[I", true)
  | 14 => ("StepCodeModel", "many", "[I", true)
  | 15 => ("StepCodeModel", "kid", "[I", true)
  | 16 => ("StepCodeModel", "next", "[I", true)
  | 17 => ("StepCodeModel", "up", "[I", true)
  | 18 => ("StepCodeModel", "tall", "[I", true)
  | 19 => ("StepCodeModel", "nodes", "I", false)
  | 20 => ("StepCodeModel", "roots", "[I", true)
  | 21 => ("StepCodeModel", "rootCount", "I", false)
  | 22 => ("StepCodeModel", "allNodes", "I", false)
  | 23 => ("StepCodeModel", "processes", "I", false)
  | 24 => ("StepCodeModel", "base", "[I", true)
  | 25 => ("StepCodeModel", "root", "[I", true)
  | 26 => ("StepCodeModel", "firstVariable", "[I", true)
  | 27 => ("StepCodeModel", "variableCount", "[I", true)
  | 28 => ("StepCodeModel", "state", "[I", true)
  | 29 => ("StepCodeModel", "fault", "[I", true)
  | 30 => ("StepCodeModel", "faultNode", "[I", true)
  | 31 => ("StepCodeModel", "made", "[I", true)
  | 32 => ("StepCodeModel", "waitNode", "[I", true)
  | 33 => ("StepCodeModel", "until", "[J", true)
  | 34 => ("StepCodeModel", "depth", "[I", true)
  | 35 => ("StepCodeModel", "frame", "[I", true)
  | 36 => ("StepCodeModel", "coming", "[I", true)
  | 37 => ("StepCodeModel", "from", "[J", true)
  | 38 => ("StepCodeModel", "to", "[J", true)
  | 39 => ("StepCodeModel", "p", "I", false)
  | 40 => ("StepCodeModel", "left", "I", false)
  | 41 => ("StepCodeModel", "wrong", "I", false)
  | 42 => ("StepCodeModel", "wrongNode", "I", false)
  | 43 => ("StepCodeModel", "target", "I", false)
  | 44 => ("StepCodeModel", "limit", "J", false)
  | 45 => ("StepCodeModel", "time", "J", false)
  | 46 => ("StepCodeModel", "acts", "I", false)
  | 47 => ("StepCodeModel", "waves", "I", false)
  | 48 => ("StepCodeModel", "report", "[Z", true)
  | 49 => ("StepCodeModel", "object", "[I", true)
  | 50 => ("StepCodeModel", "first", "[I", true)
  | 51 => ("StepCodeModel", "count", "[I", true)
  | 52 => ("StepCodeModel", "mode", "[I", true)
  | 53 => ("StepCodeModel", "actLimit", "[J", true)
  | 54 => ("StepCodeModel", "firstWave", "[I", true)
  | _ => ("StepCodeModel", "delays", "[J", true)
def tb_cl : List vw_C := [("StepCode", tf_0, 8), ("StepCode$Datum", tf_1, 7), ("StepCode$Finder", tf_2, 3), ("StepCode$Looker", tf_3, 3), ("StepCode$Maker", tf_4, 5), ("StepCode$Nodes", tf_5, 10), ("StepCode$Runner", tf_6, 11), ("StepCode$Thing", tf_7, 8), ("StepCode$Things", tf_8, 2), ("StepCode$Told", tf_9, 12), ("StepCode$Unit", tf_10, 12), ("StepCodeModel", tf_11, 56)]
def tb_ft (kd k : Nat) : Nat := (([[2, 2, 2, 2, 0, 0, 2, 2], [0, 0, 1, 1, 1, 1, 1], [2, 2, 0], [2, 2, 2], [2, 2, 2, 2, 0], [2, 2, 2, 2, 2, 2, 2, 2, 0, 0], [2, 2, 2, 2, 2, 2, 2, 0, 0, 0, 0], [0, 0, 0, 0, 2, 2, 3, 3], [2, 0], [2, 2, 2, 2, 2, 2, 2, 2, 2, 2, 0, 0], [2, 2, 0, 0, 0, 0, 0, 0, 0, 1, 2, 2], [0, 2, 2, 2, 2, 2, 2, 0, 0, 0, 2, 2, 2, 2, 2, 2, 2, 2, 2, 0, 2, 0, 0, 0, 2, 2, 2, 2, 2, 2, 2, 2, 2, 2, 2, 2, 2, 2, 2, 0, 0, 0, 0, 0, 1, 1, 0, 0, 2, 2, 2, 2, 2, 2, 2, 2]] : List (List Nat)).getD kd []).getD k 9
def tb_runs : List (Nat × List Cond) := [(0, k2_sels lw_privs), (1, tables_1_1), (2, tables_1_2), (3, tables_1_3), (4, tables_1_4), (5, tables_1_5), (6, tables_1_6), (7, tables_1_7), (8, tables_1_8)]
def tb_run (k : Nat) : List Cond := (ah_lk tb_runs k).getD []
def tb_tbl : List Cond := Jvm.Cond.code x code maxLocals ret :: lw_tbl
def tb_Ts : List Cond := tb_tbl.filter ck_gd
def tb_nest : List (String × Nat × MethodName × String) := [("StepCode$Finder", 21, ⟨"StepCode$Datum", "<init>", "()V"⟩, "StepCode"), ("StepCode$Runner", 30, ⟨"StepCode$Datum", "<init>", "()V"⟩, "StepCode"), ("StepCode$Thing", 26, ⟨"StepCode$Datum", "<init>", "()V"⟩, "StepCode"), ("StepCode$Told", 46, ⟨"StepCode$Datum", "<init>", "()V"⟩, "StepCode")]
def tb_aos : List String := ["StepCode$Datum", "StepCode$Thing", "StepCode$Unit"]
def tb_ak : List (Nat × FieldType) := [(100, .int), (101, .long), (102, .boolean), (103, .byte), (104, .int), (111, .object "StepCode$Datum"), (117, .object "StepCode$Thing"), (120, .object "StepCode$Unit")]
def tb_str : List (String × Nat × String) := [("StepCode", 66, "no such class or range"), ("StepCode", 77, "too many signals"), ("StepCode", 90, "too many variables"), ("StepCode", 96, "no such kind, or not so many trees"), ("StepCode", 105, "too many nodes"), ("StepCode", 120, "too many processes or nodes"), ("StepCode", 152, "no such signal or element"), ("StepCode", 159, "not a value of the signal"), ("StepCode", 174, "no such signal"), ("StepCode", 191, "no such process, variable or element"), ("StepCode", 193, "not a value of the variable"), ("StepCode", 199, "no such process"), ("StepCode", 201, "not a number of steps"), ("StepCode", 206, "the process has ended"), ("StepCode", 216, "the process does not wait"), ("StepCode", 237, "nothing is told about that"), ("StepCode", 239, "no such process or signal"), ("StepCode", 252, "no such act"), ("StepCode", 280, "no such act, value or element"), ("StepCode", 293, "no such act or value")]
def tb_sta : List (String × String × String) := [("java/lang/Throwable", "UNASSIGNED_STACK", "[Ljava/lang/StackTraceElement;"), ("java/lang/Throwable", "SUPPRESSED_SENTINEL", "Ljava/util/List;")]
def tb_exc : List (Nat × String) := [(200, "java/lang/IllegalArgumentException"), (201, "java/lang/IllegalStateException"), (202, "java/lang/IndexOutOfBoundsException")]
def tb_dec : List MethodName := [⟨"java/lang/RuntimeException", "<init>", "()V"⟩, ⟨"java/lang/RuntimeException", "<init>", "(Ljava/lang/String;)V"⟩, ⟨"java/lang/Exception", "<init>", "()V"⟩, ⟨"java/lang/Exception", "<init>", "(Ljava/lang/String;)V"⟩, ⟨"java/lang/Throwable", "<init>", "()V"⟩, ⟨"java/lang/Throwable", "<init>", "(Ljava/lang/String;)V"⟩]
def tb_ex : List (Nat × String × List String) := [(200, "java/lang/IllegalArgumentException", ["java/lang/RuntimeException", "java/lang/Exception"]), (201, "java/lang/IllegalStateException", ["java/lang/RuntimeException", "java/lang/Exception"]), (202, "java/lang/IndexOutOfBoundsException", ["java/lang/RuntimeException", "java/lang/Exception"])]
def tb_cals : List (Nat × List (Nat × (MethodName × Nat × Nat × Bool))) := [(24, [(0, (⟨"StepCode", "<init>", "()V"⟩, 0, 4, true)),
  (1, (⟨"StepCode", "signal", "(III)I"⟩, 3, 0, true)),
  (2, (⟨"StepCode", "variable", "(III)I"⟩, 3, 0, true)),
  (3, (⟨"StepCode", "add", "(III)I"⟩, 3, 0, true)),
  (4, (⟨"StepCode", "process", "()I"⟩, 0, 0, true)),
  (5, (⟨"StepCode", "processes", "()I"⟩, 0, 0, true)),
  (6, (⟨"StepCode", "put", "(IZII)V"⟩, 4, 4, true)),
  (7, (⟨"StepCode", "mark", "(IZZ)V"⟩, 3, 4, true)),
  (8, (⟨"StepCode", "get", "(II)I"⟩, 2, 0, true)),
  (9, (⟨"StepCode", "set", "(IIII)V"⟩, 4, 4, true)),
  (10, (⟨"StepCode", "variableOf", "(III)I"⟩, 3, 0, true)),
  (11, (⟨"StepCode", "resume", "(II)I"⟩, 2, 0, true)),
  (12, (⟨"StepCode", "holds", "(I)I"⟩, 1, 0, true)),
  (13, (⟨"StepCode", "about", "(II)I"⟩, 2, 0, true)),
  (14, (⟨"StepCode", "waits", "(II)I"⟩, 2, 0, true)),
  (15, (⟨"StepCode", "until", "(I)J"⟩, 1, 1, true)),
  (16, (⟨"StepCode", "acts", "()I"⟩, 0, 0, true)),
  (17, (⟨"StepCode", "act", "(II)I"⟩, 2, 0, true)),
  (18, (⟨"StepCode", "value", "(III)I"⟩, 3, 0, true)),
  (19, (⟨"StepCode", "delay", "(II)J"⟩, 2, 1, true)),
  (20, (⟨"StepCode", "unitAt", "(I)LStepCode$Unit;"⟩, 1, 2, true)),
  (21, (⟨"StepCode", "variableThing", "(II)LStepCode$Thing;"⟩, 2, 2, true)),
  (22, (⟨"StepCodeModel", "<init>", "()V"⟩, 0, 4, true)),
  (23, (⟨"StepCodeModel", "thrown", "()I"⟩, 0, 0, true))]),
  (48, [(24, (⟨"StepCodeModel", "setElement", "(III)V"⟩, 3, 4, true)),
  (25, (⟨"StepCodeModel", "noKind", "(III)Z"⟩, 3, 3, true)),
  (26, (⟨"StepCodeModel", "make", "(IIII)V"⟩, 4, 4, true)),
  (27, (⟨"StepCodeModel", "signal", "(III)I"⟩, 3, 0, true)),
  (28, (⟨"StepCodeModel", "variable", "(III)I"⟩, 3, 0, true)),
  (29, (⟨"StepCodeModel", "put", "(IZII)V"⟩, 4, 4, true)),
  (30, (⟨"StepCodeModel", "mark", "(IZZ)V"⟩, 3, 4, true)),
  (31, (⟨"StepCodeModel", "get", "(II)I"⟩, 2, 0, true)),
  (32, (⟨"StepCodeModel", "noProcess", "(I)Z"⟩, 1, 3, true)),
  (33, (⟨"StepCodeModel", "variableAt", "(III)I"⟩, 3, 0, true)),
  (34, (⟨"StepCodeModel", "set", "(IIII)V"⟩, 4, 4, true)),
  (35, (⟨"StepCodeModel", "variableOf", "(III)I"⟩, 3, 0, true)),
  (36, (⟨"StepCodeModel", "add", "(III)I"⟩, 3, 0, true)),
  (37, (⟨"StepCodeModel", "process", "()I"⟩, 0, 0, true)),
  (38, (⟨"StepCodeModel", "processes", "()I"⟩, 0, 0, true)),
  (39, (⟨"StepCodeModel", "resume", "(II)I"⟩, 2, 0, true)),
  (40, (⟨"StepCodeModel", "holds", "(I)I"⟩, 1, 0, true)),
  (41, (⟨"StepCodeModel", "about", "(II)I"⟩, 2, 0, true)),
  (42, (⟨"StepCodeModel", "waits", "(II)I"⟩, 2, 0, true)),
  (43, (⟨"StepCodeModel", "until", "(I)J"⟩, 1, 1, true)),
  (44, (⟨"StepCodeModel", "acts", "()I"⟩, 0, 0, true)),
  (45, (⟨"StepCodeModel", "act", "(II)I"⟩, 2, 0, true)),
  (46, (⟨"StepCodeModel", "wave", "(II)I"⟩, 2, 0, true)),
  (47, (⟨"StepCodeModel", "value", "(III)I"⟩, 3, 0, true))]),
  (72, [(48, (⟨"StepCodeModel", "delay", "(II)J"⟩, 2, 1, true)),
  (49, (⟨"StepCode$Datum", "<init>", "()V"⟩, 0, 4, true)),
  (50, (⟨"StepCode$Datum", "copy", "(LStepCode$Datum;)V"⟩, 1, 4, true)),
  (51, (⟨"StepCode$Datum", "hold", "(IIJJJJ)V"⟩, 6, 4, true)),
  (52, (⟨"StepCode$Finder", "<init>", "(LStepCode$Things;)V"⟩, 1, 4, true)),
  (53, (⟨"StepCode$Looker", "<init>", "(LStepCode$Maker;LStepCode$Things;)V"⟩, 2, 4, true)),
  (54, (⟨"StepCode$Looker", "firstWrong", "()I"⟩, 0, 0, true)),
  (55, (⟨"StepCode$Looker", "isOneBody", "()Z"⟩, 0, 3, true)),
  (56, (⟨"StepCode$Maker", "<init>", "()V"⟩, 0, 4, true)),
  (57, (⟨"StepCode$Maker", "make", "(III)I"⟩, 3, 0, true)),
  (58, (⟨"StepCode$Maker", "clear", "()V"⟩, 0, 4, true)),
  (59, (⟨"StepCode$Nodes", "<init>", "(I)V"⟩, 1, 4, true)),
  (60, (⟨"StepCode$Nodes", "isFull", "()Z"⟩, 0, 3, true)),
  (61, (⟨"StepCode$Nodes", "begin", "(II)I"⟩, 2, 0, true)),
  (62, (⟨"StepCode$Nodes", "clear", "()V"⟩, 0, 4, true)),
  (63, (⟨"StepCode$Runner", "<init>", "(LStepCode$Things;LStepCode$Told;)V"⟩, 2, 4, true)),
  (64, (⟨"StepCode$Thing", "<init>", "(III)V"⟩, 3, 4, true)),
  (65, (⟨"StepCode$Thing", "canBe", "(III)Z"⟩, 3, 3, true)),
  (66, (⟨"StepCode$Things", "<init>", "(I)V"⟩, 1, 4, true)),
  (67, (⟨"StepCode$Things", "isFull", "()Z"⟩, 0, 3, true)),
  (68, (⟨"StepCode$Things", "keep", "(LStepCode$Thing;)I"⟩, 1, 0, true)),
  (69, (⟨"StepCode$Things", "pick", "(I)LStepCode$Thing;"⟩, 1, 2, true)),
  (70, (⟨"StepCode$Things", "clear", "()V"⟩, 0, 4, true)),
  (71, (⟨"StepCode$Told", "<init>", "()V"⟩, 0, 4, true))]),
  (93, [(72, (⟨"StepCode$Told", "has", "(I)Z"⟩, 1, 3, true)),
  (73, (⟨"StepCode$Told", "isAssign", "(I)Z"⟩, 1, 3, true)),
  (74, (⟨"StepCode$Told", "placeOf", "(II)I"⟩, 2, 0, true)),
  (75, (⟨"StepCode$Told", "datumOf", "(II)LStepCode$Datum;"⟩, 2, 2, true)),
  (76, (⟨"StepCodeLaw", "signal", "(LStepCode;III[J)I"⟩, 5, 0, false)),
  (77, (⟨"StepCodeLaw", "variable", "(LStepCode;III[J)I"⟩, 5, 0, false)),
  (78, (⟨"StepCodeLaw", "add", "(LStepCode;III[J)I"⟩, 5, 0, false)),
  (79, (⟨"StepCodeLaw", "process", "(LStepCode;[J)I"⟩, 2, 0, false)),
  (80, (⟨"StepCodeLaw", "put", "(LStepCode;IZII)I"⟩, 5, 0, false)),
  (81, (⟨"StepCodeLaw", "mark", "(LStepCode;IZZ)I"⟩, 4, 0, false)),
  (82, (⟨"StepCodeLaw", "get", "(LStepCode;II[J)I"⟩, 4, 0, false)),
  (83, (⟨"StepCodeLaw", "set", "(LStepCode;IIII)I"⟩, 5, 0, false)),
  (84, (⟨"StepCodeLaw", "variableOf", "(LStepCode;III[J)I"⟩, 5, 0, false)),
  (85, (⟨"StepCodeLaw", "resume", "(LStepCode;II[J)I"⟩, 4, 0, false)),
  (86, (⟨"StepCodeLaw", "holds", "(LStepCode;I[J)I"⟩, 3, 0, false)),
  (87, (⟨"StepCodeLaw", "about", "(LStepCode;II[J)I"⟩, 4, 0, false)),
  (88, (⟨"StepCodeLaw", "waits", "(LStepCode;II[J)I"⟩, 4, 0, false)),
  (89, (⟨"StepCodeLaw", "until", "(LStepCode;I[J)I"⟩, 3, 0, false)),
  (90, (⟨"StepCodeLaw", "act", "(LStepCode;II[J)I"⟩, 4, 0, false)),
  (91, (⟨"StepCodeLaw", "value", "(LStepCode;III[J)I"⟩, 5, 0, false)),
  (92, (⟨"StepCodeLaw", "delay", "(LStepCode;II[J)I"⟩, 4, 0, false))])]
def tb_Is : List (Nat × List (Nat × (MethodName × ByteArray × Nat × Option FieldType × List (Nat × Nat × Nat × Nat)))) := [(24, [(0, (⟨"StepCode", "<init>", "()V"⟩, prog_1_method_1_code, 1, none, [])),
  (1, (⟨"StepCode", "signal", "(III)I"⟩, prog_1_method_2_code, 4, (some .int), [])),
  (2, (⟨"StepCode", "variable", "(III)I"⟩, prog_1_method_3_code, 4, (some .int), [])),
  (3, (⟨"StepCode", "add", "(III)I"⟩, prog_1_method_4_code, 4, (some .int), [])),
  (4, (⟨"StepCode", "process", "()I"⟩, prog_1_method_5_code, 3, (some .int), [])),
  (5, (⟨"StepCode", "processes", "()I"⟩, prog_1_method_6_code, 1, (some .int), [])),
  (6, (⟨"StepCode", "put", "(IZII)V"⟩, prog_1_method_7_code, 6, none, [])),
  (7, (⟨"StepCode", "mark", "(IZZ)V"⟩, prog_1_method_8_code, 5, none, [])),
  (8, (⟨"StepCode", "get", "(II)I"⟩, prog_1_method_9_code, 4, (some .int), [])),
  (9, (⟨"StepCode", "set", "(IIII)V"⟩, prog_1_method_10_code, 6, none, [])),
  (10, (⟨"StepCode", "variableOf", "(III)I"⟩, prog_1_method_11_code, 5, (some .int), [])),
  (11, (⟨"StepCode", "resume", "(II)I"⟩, prog_1_method_12_code, 5, (some .int), [])),
  (12, (⟨"StepCode", "holds", "(I)I"⟩, prog_1_method_13_code, 3, (some .int), [])),
  (13, (⟨"StepCode", "about", "(II)I"⟩, prog_1_method_14_code, 4, (some .int), [])),
  (14, (⟨"StepCode", "waits", "(II)I"⟩, prog_1_method_15_code, 4, (some .int), [])),
  (15, (⟨"StepCode", "until", "(I)J"⟩, prog_1_method_16_code, 3, (some .long), [])),
  (16, (⟨"StepCode", "acts", "()I"⟩, prog_1_method_17_code, 1, (some .int), [])),
  (17, (⟨"StepCode", "act", "(II)I"⟩, prog_1_method_18_code, 3, (some .int), [])),
  (18, (⟨"StepCode", "value", "(III)I"⟩, prog_1_method_19_code, 5, (some .int), [])),
  (19, (⟨"StepCode", "delay", "(II)J"⟩, prog_1_method_20_code, 4, (some .long), [])),
  (20, (⟨"StepCode", "unitAt", "(I)LStepCode$Unit;"⟩, prog_1_method_21_code, 2, (some (.object "StepCode$Unit")), [])),
  (21, (⟨"StepCode", "variableThing", "(II)LStepCode$Thing;"⟩, prog_1_method_22_code, 4, (some (.object "StepCode$Thing")), [])),
  (22, (⟨"StepCodeModel", "<init>", "()V"⟩, prog_13_method_1_code, 1, none, [])),
  (23, (⟨"StepCodeModel", "thrown", "()I"⟩, prog_13_method_2_code, 1, (some .int), []))]),
  (48, [(24, (⟨"StepCodeModel", "setElement", "(III)V"⟩, prog_13_method_4_code, 4, none, [])),
  (25, (⟨"StepCodeModel", "noKind", "(III)Z"⟩, prog_13_method_5_code, 3, (some .boolean), [])),
  (26, (⟨"StepCodeModel", "make", "(IIII)V"⟩, prog_13_method_6_code, 6, none, [])),
  (27, (⟨"StepCodeModel", "signal", "(III)I"⟩, prog_13_method_8_code, 4, (some .int), [])),
  (28, (⟨"StepCodeModel", "variable", "(III)I"⟩, prog_13_method_9_code, 4, (some .int), [])),
  (29, (⟨"StepCodeModel", "put", "(IZII)V"⟩, prog_13_method_14_code, 5, none, [])),
  (30, (⟨"StepCodeModel", "mark", "(IZZ)V"⟩, prog_13_method_15_code, 4, none, [])),
  (31, (⟨"StepCodeModel", "get", "(II)I"⟩, prog_13_method_16_code, 3, (some .int), [])),
  (32, (⟨"StepCodeModel", "noProcess", "(I)Z"⟩, prog_13_method_17_code, 2, (some .boolean), [])),
  (33, (⟨"StepCodeModel", "variableAt", "(III)I"⟩, prog_13_method_18_code, 5, (some .int), [])),
  (34, (⟨"StepCodeModel", "set", "(IIII)V"⟩, prog_13_method_19_code, 6, none, [])),
  (35, (⟨"StepCodeModel", "variableOf", "(III)I"⟩, prog_13_method_20_code, 5, (some .int), [])),
  (36, (⟨"StepCodeModel", "add", "(III)I"⟩, prog_13_method_21_code, 6, (some .int), [])),
  (37, (⟨"StepCodeModel", "process", "()I"⟩, prog_13_method_39_code, 3, (some .int), [])),
  (38, (⟨"StepCodeModel", "processes", "()I"⟩, prog_13_method_41_code, 1, (some .int), [])),
  (39, (⟨"StepCodeModel", "resume", "(II)I"⟩, prog_13_method_87_code, 3, (some .int), [])),
  (40, (⟨"StepCodeModel", "holds", "(I)I"⟩, prog_13_method_89_code, 3, (some .int), [])),
  (41, (⟨"StepCodeModel", "about", "(II)I"⟩, prog_13_method_90_code, 4, (some .int), [])),
  (42, (⟨"StepCodeModel", "waits", "(II)I"⟩, prog_13_method_91_code, 3, (some .int), [])),
  (43, (⟨"StepCodeModel", "until", "(I)J"⟩, prog_13_method_92_code, 2, (some .long), [])),
  (44, (⟨"StepCodeModel", "acts", "()I"⟩, prog_13_method_93_code, 1, (some .int), [])),
  (45, (⟨"StepCodeModel", "act", "(II)I"⟩, prog_13_method_94_code, 3, (some .int), [])),
  (46, (⟨"StepCodeModel", "wave", "(II)I"⟩, prog_13_method_95_code, 3, (some .int), [])),
  (47, (⟨"StepCodeModel", "value", "(III)I"⟩, prog_13_method_96_code, 5, (some .int), []))]),
  (72, [(48, (⟨"StepCodeModel", "delay", "(II)J"⟩, prog_13_method_97_code, 5, (some .long), [])),
  (49, (⟨"StepCode$Datum", "<init>", "()V"⟩, prog_2_method_1_code, 1, none, [])),
  (50, (⟨"StepCode$Datum", "copy", "(LStepCode$Datum;)V"⟩, prog_2_method_2_code, 2, none, [])),
  (51, (⟨"StepCode$Datum", "hold", "(IIJJJJ)V"⟩, prog_2_method_3_code, 13, none, [])),
  (52, (⟨"StepCode$Finder", "<init>", "(LStepCode$Things;)V"⟩, prog_3_method_1_code, 3, none, [])),
  (53, (⟨"StepCode$Looker", "<init>", "(LStepCode$Maker;LStepCode$Things;)V"⟩, prog_4_method_1_code, 3, none, [])),
  (54, (⟨"StepCode$Looker", "firstWrong", "()I"⟩, prog_4_method_2_code, 2, (some .int), [])),
  (55, (⟨"StepCode$Looker", "isOneBody", "()Z"⟩, prog_4_method_3_code, 1, (some .boolean), [])),
  (56, (⟨"StepCode$Maker", "<init>", "()V"⟩, prog_5_method_1_code, 1, none, [])),
  (57, (⟨"StepCode$Maker", "make", "(III)I"⟩, prog_5_method_2_code, 8, (some .int), [])),
  (58, (⟨"StepCode$Maker", "clear", "()V"⟩, prog_5_method_4_code, 1, none, [])),
  (59, (⟨"StepCode$Nodes", "<init>", "(I)V"⟩, prog_6_method_1_code, 3, none, [])),
  (60, (⟨"StepCode$Nodes", "isFull", "()Z"⟩, prog_6_method_4_code, 1, (some .boolean), [])),
  (61, (⟨"StepCode$Nodes", "begin", "(II)I"⟩, prog_6_method_14_code, 4, (some .int), [])),
  (62, (⟨"StepCode$Nodes", "clear", "()V"⟩, prog_6_method_16_code, 1, none, [])),
  (63, (⟨"StepCode$Runner", "<init>", "(LStepCode$Things;LStepCode$Told;)V"⟩, prog_7_method_1_code, 4, none, [])),
  (64, (⟨"StepCode$Thing", "<init>", "(III)V"⟩, prog_8_method_1_code, 4, none, [])),
  (65, (⟨"StepCode$Thing", "canBe", "(III)Z"⟩, prog_8_method_2_code, 3, (some .boolean), [])),
  (66, (⟨"StepCode$Things", "<init>", "(I)V"⟩, prog_9_method_1_code, 2, none, [])),
  (67, (⟨"StepCode$Things", "isFull", "()Z"⟩, prog_9_method_2_code, 1, (some .boolean), [])),
  (68, (⟨"StepCode$Things", "keep", "(LStepCode$Thing;)I"⟩, prog_9_method_3_code, 2, (some .int), [])),
  (69, (⟨"StepCode$Things", "pick", "(I)LStepCode$Thing;"⟩, prog_9_method_4_code, 2, (some (.object "StepCode$Thing")), [])),
  (70, (⟨"StepCode$Things", "clear", "()V"⟩, prog_9_method_5_code, 1, none, [])),
  (71, (⟨"StepCode$Told", "<init>", "()V"⟩, prog_10_method_1_code, 2, none, []))]),
  (94, [(72, (⟨"StepCode$Told", "has", "(I)Z"⟩, prog_10_method_3_code, 2, (some .boolean), [])),
  (73, (⟨"StepCode$Told", "isAssign", "(I)Z"⟩, prog_10_method_4_code, 2, (some .boolean), [])),
  (74, (⟨"StepCode$Told", "placeOf", "(II)I"⟩, prog_10_method_9_code, 4, (some .int), [])),
  (75, (⟨"StepCode$Told", "datumOf", "(II)LStepCode$Datum;"⟩, prog_10_method_10_code, 4, (some (.object "StepCode$Datum")), [])),
  (76, (⟨"StepCodeLaw", "signal", "(LStepCode;III[J)I"⟩, method_3_code, 6, (some .int), [(0, 12, 15, 13), (0, 12, 19, 15)])),
  (77, (⟨"StepCodeLaw", "variable", "(LStepCode;III[J)I"⟩, method_4_code, 6, (some .int), [(0, 12, 15, 13), (0, 12, 19, 15)])),
  (78, (⟨"StepCodeLaw", "add", "(LStepCode;III[J)I"⟩, method_5_code, 6, (some .int), [(0, 12, 15, 13), (0, 12, 19, 15)])),
  (79, (⟨"StepCodeLaw", "process", "(LStepCode;[J)I"⟩, method_6_code, 3, (some .int), [(0, 8, 11, 15)])),
  (80, (⟨"StepCodeLaw", "put", "(LStepCode;IZII)I"⟩, method_7_code, 6, (some .int), [(0, 9, 12, 31), (0, 9, 16, 13)])),
  (81, (⟨"StepCodeLaw", "mark", "(LStepCode;IZZ)I"⟩, method_8_code, 5, (some .int), [(0, 7, 10, 31)])),
  (82, (⟨"StepCodeLaw", "get", "(LStepCode;II[J)I"⟩, method_9_code, 5, (some .int), [(0, 10, 13, 31)])),
  (83, (⟨"StepCodeLaw", "set", "(LStepCode;IIII)I"⟩, method_10_code, 6, (some .int), [(0, 9, 12, 31), (0, 9, 16, 13)])),
  (84, (⟨"StepCodeLaw", "variableOf", "(LStepCode;III[J)I"⟩, method_11_code, 6, (some .int), [(0, 12, 15, 31)])),
  (85, (⟨"StepCodeLaw", "resume", "(LStepCode;II[J)I"⟩, method_12_code, 5, (some .int), [(0, 10, 13, 31), (0, 10, 17, 13), (0, 10, 21, 15)])),
  (86, (⟨"StepCodeLaw", "holds", "(LStepCode;I[J)I"⟩, method_13_code, 4, (some .int), [(0, 9, 12, 31), (0, 9, 15, 15)])),
  (87, (⟨"StepCodeLaw", "about", "(LStepCode;II[J)I"⟩, method_14_code, 5, (some .int), [(0, 10, 13, 31), (0, 10, 17, 13)])),
  (88, (⟨"StepCodeLaw", "waits", "(LStepCode;II[J)I"⟩, method_15_code, 5, (some .int), [(0, 10, 13, 31)])),
  (89, (⟨"StepCodeLaw", "until", "(LStepCode;I[J)I"⟩, method_16_code, 4, (some .int), [(0, 8, 11, 31)])),
  (90, (⟨"StepCodeLaw", "act", "(LStepCode;II[J)I"⟩, method_17_code, 5, (some .int), [(0, 10, 13, 31), (0, 10, 17, 13)])),
  (91, (⟨"StepCodeLaw", "value", "(LStepCode;III[J)I"⟩, method_18_code, 6, (some .int), [(0, 12, 15, 31)])),
  (92, (⟨"StepCodeLaw", "delay", "(LStepCode;II[J)I"⟩, method_19_code, 5, (some .int), [(0, 9, 12, 31)])),
  (93, (⟨"StepCodeLaw", "law", "([I)Z"⟩, code, 8, (some .boolean), []))])]
def tb_I : am_I := fun y => ah_lkc tb_Is y
def tb_E : ck_N := (tb_run, tb_cl, tb_ft, fun y => ah_lkc tb_cals y, tb_nest, tb_aos, tb_ak, tb_str, tb_ex)
def tb_G (D : ar_D) (lim : Nat × Nat) (b : Nat) (B : Heap) : am_G := (tb_cl, tb_ak, D, lim, b, tb_nest, tb_aos, B, tb_str, tb_sta, tb_exc, tb_dec)
theorem tb_runs_ok : ∀ e ∈ tb_runs, ∀ v ∈ e.2, v ∈ tb_tbl := by
  have h0 : ∀ v, v ∈ k2_sels lw_privs → v ∈ tb_tbl := fun v h => List.mem_cons_of_mem _ (List.mem_append_left _ h)
  have h1 : ∀ v, v ∈ tables_1 → v ∈ tb_tbl := fun v h => List.mem_cons_of_mem _ (List.mem_append_right _ h)
  refine List.forall_mem_cons.mpr ⟨h0, ?_⟩
  refine List.forall_mem_cons.mpr ⟨fun v h => h1 v (by simp only [tables_1, List.mem_append]; simp only [show v ∈ tables_1_1 from h, true_or, or_true]), ?_⟩
  refine List.forall_mem_cons.mpr ⟨fun v h => h1 v (by simp only [tables_1, List.mem_append]; simp only [show v ∈ tables_1_2 from h, true_or, or_true]), ?_⟩
  refine List.forall_mem_cons.mpr ⟨fun v h => h1 v (by simp only [tables_1, List.mem_append]; simp only [show v ∈ tables_1_3 from h, true_or, or_true]), ?_⟩
  refine List.forall_mem_cons.mpr ⟨fun v h => h1 v (by simp only [tables_1, List.mem_append]; simp only [show v ∈ tables_1_4 from h, true_or, or_true]), ?_⟩
  refine List.forall_mem_cons.mpr ⟨fun v h => h1 v (by simp only [tables_1, List.mem_append]; simp only [show v ∈ tables_1_5 from h, true_or, or_true]), ?_⟩
  refine List.forall_mem_cons.mpr ⟨fun v h => h1 v (by simp only [tables_1, List.mem_append]; simp only [show v ∈ tables_1_6 from h, true_or, or_true]), ?_⟩
  refine List.forall_mem_cons.mpr ⟨fun v h => h1 v (by simp only [tables_1, List.mem_append]; simp only [show v ∈ tables_1_7 from h, true_or, or_true]), ?_⟩
  refine List.forall_mem_cons.mpr ⟨fun v h => h1 v (by simp only [tables_1, List.mem_append]; simp only [show v ∈ tables_1_8 from h, true_or, or_true]), ?_⟩
  exact fun _ h => absurd h List.not_mem_nil
theorem tb_run_ok : ∀ k v, v ∈ tb_run k → v ∈ tb_tbl := by
  intro k v h
  unfold tb_run at h
  cases hl : ah_lk tb_runs k with
  | none => rw [hl] at h; cases h
  | some l => rw [hl] at h; exact tb_runs_ok _ (ah_lk_mem _ hl) v h
