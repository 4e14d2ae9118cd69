/-- an instruction as the abstract machine has it: pc, the instruction, the next pc, numbers (place of a local; field: kind, place, type; call: mode, method, arguments, answer's type ..), a switch's rows (the default last, as its own number), constants -/
abbrev ah_E : Type := Nat × Instr × Nat × List Nat × List (Int32 × Nat) × List AV
abbrev ah_X : Type := List (Nat × Nat × Nat × List Nat)
/-- a method: code, cuts (with the locals that live there), handlers, its answer's type, its locals -/
abbrev ah_M : Type := List (Nat × List (Nat × (Instr × Nat × List Nat × List (Int32 × Nat) × List AV))) × List (Nat × List Bool) × ah_X × Nat × Nat
def ah_catch : ah_X → Nat → Nat → Option Nat
  | [], _, _ => none
  | (a, b, t, es) :: r, pc, e => bif Nat.ble a pc && Nat.blt pc b && es.contains e then some t else ah_catch r pc e
def ah_wt : List AV → Nat
  | [] => 0
  | .inr (.inl _) :: t => ah_wt t + 2
  | _ :: t => ah_wt t + 1
/-- arithmetic and the like: the stack alone -/
def ah_pure (i : Instr) (st : List AV) : Option (List AV) := match i with
  | .iadd => match st with | .inl y :: .inl x :: st => some (.inl (x + y) :: st) | _ => none
  | .isub => match st with | .inl y :: .inl x :: st => some (.inl (x - y) :: st) | _ => none
  | .imul => match st with | .inl y :: .inl x :: st => some (.inl (x * y) :: st) | _ => none
  | .iand => match st with | .inl y :: .inl x :: st => some (.inl (x &&& y) :: st) | _ => none
  | .ior => match st with | .inl y :: .inl x :: st => some (.inl (x ||| y) :: st) | _ => none
  | .ixor => match st with | .inl y :: .inl x :: st => some (.inl (x ^^^ y) :: st) | _ => none
  | .ishl => match st with | .inl y :: .inl x :: st => some (.inl (x <<< (y &&& 31)) :: st) | _ => none
  | .ishr => match st with | .inl y :: .inl x :: st => some (.inl (x >>> (y &&& 31)) :: st) | _ => none
  | .iushr => match st with | .inl y :: .inl x :: st => some (.inl (x.toUInt32 >>> (y.toUInt32 &&& Int32.toUInt32 31)).toInt32 :: st) | _ => none
  | .ineg => match st with | .inl x :: st => some (.inl (-x) :: st) | _ => none
  | .i2l => match st with | .inl x :: st => some (.inr (.inl x.toInt64) :: st) | _ => none
  | .l2i => match st with | .inr (.inl x) :: st => some (.inl x.toInt32 :: st) | _ => none
  | .i2b => match st with | .inl x :: st => some (.inl x.toInt8.toInt32 :: st) | _ => none
  | .i2s => match st with | .inl x :: st => some (.inl x.toInt16.toInt32 :: st) | _ => none
  | .i2c => match st with | .inl x :: st => some (.inl (x.toUInt32 % 65536).toInt32 :: st) | _ => none
  | .ladd => match st with | .inr (.inl y) :: .inr (.inl x) :: st => some (.inr (.inl (x + y)) :: st) | _ => none
  | .lsub => match st with | .inr (.inl y) :: .inr (.inl x) :: st => some (.inr (.inl (x - y)) :: st) | _ => none
  | .lmul => match st with | .inr (.inl y) :: .inr (.inl x) :: st => some (.inr (.inl (x * y)) :: st) | _ => none
  | .land => match st with | .inr (.inl y) :: .inr (.inl x) :: st => some (.inr (.inl (x &&& y)) :: st) | _ => none
  | .lor => match st with | .inr (.inl y) :: .inr (.inl x) :: st => some (.inr (.inl (x ||| y)) :: st) | _ => none
  | .lxor => match st with | .inr (.inl y) :: .inr (.inl x) :: st => some (.inr (.inl (x ^^^ y)) :: st) | _ => none
  | .lneg => match st with | .inr (.inl x) :: st => some (.inr (.inl (-x)) :: st) | _ => none
  | .lshl => match st with | .inl y :: .inr (.inl x) :: st => some (.inr (.inl (x <<< (y.toInt64 &&& 63))) :: st) | _ => none
  | .lshr => match st with | .inl y :: .inr (.inl x) :: st => some (.inr (.inl (x >>> (y.toInt64 &&& 63))) :: st) | _ => none
  | .lushr => match st with | .inl y :: .inr (.inl x) :: st => some (.inr (.inl (x.toUInt64 >>> (y.toInt64.toUInt64 &&& Int64.toUInt64 63)).toInt64) :: st) | _ => none
  | .lcmp => match st with | .inr (.inl y) :: .inr (.inl x) :: st => some (.inl (lg_cmp x y) :: st) | _ => none
  | .aconst_null => some (.inr (.inr none) :: st)
  | .pop => match st with | .inl _ :: st => some st | .inr (.inr _) :: st => some st | _ => none
  | .pop2 => match st with | .inr (.inl _) :: st => some st | _ => none
  | .dup => match st with | .inl x :: st => some (.inl x :: .inl x :: st) | .inr (.inr x) :: st => some (.inr (.inr x) :: .inr (.inr x) :: st) | _ => none
  | .dup_x1 => match st with
    | .inl x :: .inl y :: st => some (.inl x :: .inl y :: .inl x :: st)
    | .inl x :: .inr (.inr y) :: st => some (.inl x :: .inr (.inr y) :: .inl x :: st)
    | .inr (.inr x) :: .inr (.inr y) :: st => some (.inr (.inr x) :: .inr (.inr y) :: .inr (.inr x) :: st)
    | _ => none
  | .dup_x2 => match st with
    | .inl x :: .inl y :: .inr (.inr z) :: st => some (.inl x :: .inl y :: .inr (.inr z) :: .inl x :: st)
    | .inr (.inr x) :: .inl y :: .inr (.inr z) :: st => some (.inr (.inr x) :: .inl y :: .inr (.inr z) :: .inr (.inr x) :: st)
    | _ => none
  | .dup2 => match st with
    | .inl x :: .inr (.inr y) :: st => some (.inl x :: .inr (.inr y) :: .inl x :: .inr (.inr y) :: st)
    | .inl x :: .inl y :: st => some (.inl x :: .inl y :: .inl x :: .inl y :: st)
    | .inr (.inl x) :: st => some (.inr (.inl x) :: .inr (.inl x) :: st)
    | _ => none
  | .dup2_x1 => match st with | .inr (.inl x) :: .inr (.inr y) :: st => some (.inr (.inl x) :: .inr (.inr y) :: .inr (.inl x) :: st) | _ => none
  | _ => none
/-- how a call's answer comes onto the stack -/
def ah_ret {ρ : Type} (rt : Nat) (r : Option ah_R) (X : Nat × Nat → ah_H → Option ρ) (K : List AV → ah_H → Option ρ) : Option ρ := match rt with
  | 0 => ah_cI r X fun x h => K [.inl x] h
  | 1 => ah_cJ r X fun x h => K [.inr (.inl x)] h
  | 2 => ah_cR r X fun x h => K [.inr (.inr x)] h
  | 3 => ah_cI r X fun x h => K [.inl x] h
  | _ => ah_cV r X fun h => K [] h
/-- one instruction; K goes on -/
def ah_step (lim : Nat × Nat) (rt : Nat) (C : ah_C) (X : Nat × Nat → ah_H → Option ah_R) (i : Instr) (nx : Nat) (q : List Nat) (ts : List (Int32 × Nat)) (w : List AV) (L : ah_L) (st : List AV) (h : ah_H) (K : ah_K) : Option ah_R := match i with
  | .iconst _ => match w with | [.inl v] => K nx L (.inl v :: st) h | _ => none
  | .bipush _ => match w with | [.inl v] => K nx L (.inl v :: st) h | _ => none
  | .sipush _ => match w with | [.inl v] => K nx L (.inl v :: st) h | _ => none
  | .ldc _ => match w with | [.inl v] => K nx L (.inl v :: st) h | _ => none
  | .ldc_w _ => match w with | [.inl v] => K nx L (.inl v :: st) h | _ => none
  | .lconst _ => match w with | [.inr (.inl v)] => K nx L (.inr (.inl v) :: st) h | _ => none
  | .ldc2_w _ => match w with | [.inr (.inl v)] => K nx L (.inr (.inl v) :: st) h | _ => none
  | .iload _ => match q with | [k] => ah_vI (ah_nth L k) fun x => K nx L (.inl x :: st) h | _ => none
  | .iload_n _ => match q with | [k] => ah_vI (ah_nth L k) fun x => K nx L (.inl x :: st) h | _ => none
  | .lload _ => match q with | [k] => ah_vJ (ah_nth L k) fun x => K nx L (.inr (.inl x) :: st) h | _ => none
  | .lload_n _ => match q with | [k] => ah_vJ (ah_nth L k) fun x => K nx L (.inr (.inl x) :: st) h | _ => none
  | .aload _ => match q with | [k] => ah_vR (ah_nth L k) fun x => K nx L (.inr (.inr x) :: st) h | _ => none
  | .aload_n _ => match q with | [k] => ah_vR (ah_nth L k) fun x => K nx L (.inr (.inr x) :: st) h | _ => none
  | .istore _ => match q, st with | [k], .inl x :: st => ah_st1 L k (.inl x) fun L => K nx L st h | _, _ => none
  | .istore_n _ => match q, st with | [k], .inl x :: st => ah_st1 L k (.inl x) fun L => K nx L st h | _, _ => none
  | .lstore _ => match q, st with | [k], .inr (.inl x) :: st => ah_st2 L k (.inr (.inl x)) fun L => K nx L st h | _, _ => none
  | .lstore_n _ => match q, st with | [k], .inr (.inl x) :: st => ah_st2 L k (.inr (.inl x)) fun L => K nx L st h | _, _ => none
  | .astore _ => match q, st with | [k], .inr (.inr x) :: st => ah_st1 L k (.inr (.inr x)) fun L => K nx L st h | _, _ => none
  | .astore_n _ => match q, st with | [k], .inr (.inr x) :: st => ah_st1 L k (.inr (.inr x)) fun L => K nx L st h | _, _ => none
  | .iinc _ _ => match q, w with | [k], [.inl c] => ah_vI (ah_nth L k) fun x => ah_st1 L k (.inl (x + c)) fun L => K nx L st h | _, _ => none
  | .goto _ => match q with | [t] => K t L st h | _ => none
  | .ifCond c _ => match q, st with
    | [t], .inl x :: st => match c with
      | .eq => if x = 0 then K t L st h else K nx L st h
      | .ne => if x = 0 then K nx L st h else K t L st h
      | .lt => if x < 0 then K t L st h else K nx L st h
      | .ge => if x < 0 then K nx L st h else K t L st h
      | .gt => if x ≤ 0 then K nx L st h else K t L st h
      | .le => if x ≤ 0 then K t L st h else K nx L st h
    | _, _ => none
  | .if_icmp c _ => match q, st with
    | [t], .inl y :: .inl x :: st => match c with
      | .eq => if x = y then K t L st h else K nx L st h
      | .ne => if x = y then K nx L st h else K t L st h
      | .lt => if x < y then K t L st h else K nx L st h
      | .ge => if x < y then K nx L st h else K t L st h
      | .gt => if x ≤ y then K nx L st h else K t L st h
      | .le => if x ≤ y then K t L st h else K nx L st h
    | _, _ => none
  | .ifnull _ => match q, st with | [t], .inr (.inr r) :: st => if r = none then K t L st h else K nx L st h | _, _ => none
  | .ifnonnull _ => match q, st with | [t], .inr (.inr r) :: st => if r = none then K nx L st h else K t L st h | _, _ => none
  | .if_acmp c _ => match q, st with
    | [t], .inr (.inr y) :: .inr (.inr x) :: st => match c with
      | .eq => if x = y then K t L st h else K nx L st h
      | .ne => if x = y then K nx L st h else K t L st h
    | _, _ => none
  | .tableswitch _ _ _ _ => match q, st with | [d], .inl x :: st => ah_sw x d (fun t => K t L st h) ts | _, _ => none
  | .lookupswitch _ _ => match q, st with | [d], .inl x :: st => ah_sw x d (fun t => K t L st h) ts | _, _ => none
  | .idiv => match st with | .inl y :: .inl x :: st => if y = 0 then none else K nx L (.inl (x / y) :: st) h | _ => none
  | .irem => match st with | .inl y :: .inl x :: st => if y = 0 then none else K nx L (.inl (x - x / y * y) :: st) h | _ => none
  | .ldiv => match st with | .inr (.inl y) :: .inr (.inl x) :: st => if y = 0 then none else K nx L (.inr (.inl (x / y)) :: st) h | _ => none
  | .lrem => match st with | .inr (.inl y) :: .inr (.inl x) :: st => if y = 0 then none else K nx L (.inr (.inl (x - x / y * y)) :: st) h | _ => none
  | .getfield _ => match q, st with
    | [kd, k, 0], .inr (.inr r) :: st => ah_gI h r kd k fun x => K nx L (.inl x :: st) h
    | [kd, k, 1], .inr (.inr r) :: st => ah_gJ h r kd k fun x => K nx L (.inr (.inl x) :: st) h
    | [kd, k, 2], .inr (.inr r) :: st => ah_gR h r kd k fun x => K nx L (.inr (.inr x) :: st) h
    | [kd, k, 3], .inr (.inr r) :: st => ah_gI h r kd k fun x => K nx L (.inl x :: st) h
    | _, _ => none
  | .putfield _ => match q, st with
    | [kd, k, 0], .inl x :: .inr (.inr r) :: st => ah_wr h r kd k (.inl x) fun h => K nx L st h
    | [kd, k, 1], .inr (.inl x) :: .inr (.inr r) :: st => ah_wr h r kd k (.inr (.inl x)) fun h => K nx L st h
    | [kd, k, 2], .inr (.inr x) :: .inr (.inr r) :: st => ah_wr h r kd k (.inr (.inr x)) fun h => K nx L st h
    | [kd, k, 3], .inl x :: .inr (.inr r) :: st => if x = 0 ∨ x = 1 then ah_wr h r kd k (.inl x) fun h => K nx L st h else none
    | _, _ => none
  | .arraylength => match st with | .inr (.inr r) :: st => ah_len h r fun n => K nx L (.inl n :: st) h | _ => none
  | .iaload => match q, st with
    | [], .inl j :: .inr (.inr r) :: st => ah_lI h r 100 j fun x => K nx L (.inl x :: st) h
    | [104], .inl j :: .inr (.inr r) :: st => ah_lI h r 104 j fun x => K nx L (.inl x :: st) h
    | _, _ => none
  | .laload => match st with | .inl j :: .inr (.inr r) :: st => ah_lJ h r 101 j fun x => K nx L (.inr (.inl x) :: st) h | _ => none
  | .baload => match q, st with
    | [102], .inl j :: .inr (.inr r) :: st => ah_lI h r 102 j fun x => K nx L (.inl x :: st) h
    | [103], .inl j :: .inr (.inr r) :: st => ah_lI h r 103 j fun x => K nx L (.inl x :: st) h
    | _, _ => none
  | .aaload => match st with | .inl j :: .inr (.inr r) :: st => ah_lR h r j fun x => K nx L (.inr (.inr x) :: st) h | _ => none
  | .iastore => match st with | .inl x :: .inl j :: .inr (.inr r) :: st => ah_sI h r 100 j (.inl x) fun h => K nx L st h | _ => none
  | .lastore => match st with | .inr (.inl x) :: .inl j :: .inr (.inr r) :: st => ah_sI h r 101 j (.inr (.inl x)) fun h => K nx L st h | _ => none
  | .bastore => match q, st with
    | [102], .inl x :: .inl j :: .inr (.inr r) :: st => if x = 0 ∨ x = 1 then ah_sI h r 102 j (.inl x) fun h => K nx L st h else none
    | [103], .inl x :: .inl j :: .inr (.inr r) :: st => ah_sI h r 103 j (.inl x.toInt8.toInt32) fun h => K nx L st h
    | _, _ => none
  | .checkcast _ => match q, st with | [kd], .inr (.inr r) :: st => ah_at h r kd fun _ _ => K nx L (.inr (.inr r) :: st) h | _, _ => none
  | .aastore => match st with | .inr (.inr x) :: .inl j :: .inr (.inr r) :: st => ah_sR h r j x fun h => K nx L st h | _ => none
  | .newarray _ => match q, w, st with | [kd], [v], .inl n :: st => ah_mka lim h kd v n fun r h => K nx L (.inr (.inr r) :: st) h | _, _, _ => none
  | .anewarray _ => match q, st with | [kd], .inl n :: st => ah_mka lim h kd (.inr (.inr none)) n fun r h => K nx L (.inr (.inr r) :: st) h | _, _ => none
  | .new _ => match q, st with
    | [kd], st => ah_mk lim h (kd, w) w.length fun r h => K nx L (.inr (.inr r) :: st) h
    | [kd, n], [] => ah_mk lim h (kd, []) n fun _ h' => some (.inr (kd, h.2.1), h')
    | _, _ => none
  | .invokestatic _ => match q, st with
    | [0, y, na, rt], st => match ah_pop na [] st with
      | some (as, st) => bif Nat.ble (ah_wt st) 8 then ah_ret rt (C y as h) X fun vs h => K nx L (vs ++ st) h else none
      | none => none
    | [20], .inl n :: .inl dp :: .inr (.inr b) :: .inl sp :: .inr (.inr a) :: st => bif Nat.ble (ah_wt st) 8 then ah_cp h a sp b dp n fun h => K nx L st h else none
    | [22], .inl y :: .inl x :: st => bif Nat.ble (ah_wt st) 8 then K nx L (.inl (if x < y then y else x) :: st) h else none
    | [23], .inl y :: .inl x :: st => bif Nat.ble (ah_wt st) 8 then K nx L (.inl (if y < x then y else x) :: st) h else none
    | [24], .inr (.inl y) :: .inr (.inl x) :: st => bif Nat.ble (ah_wt st) 8 then K nx L (.inr (.inl (if y < x then y else x)) :: st) h else none
    | [25], .inr (.inl x) :: st => bif Nat.ble (ah_wt st) 8 then K nx L (.inr (.inl (if 0 < x then x else -x)) :: st) h else none
    | _, _ => none
  | .invokevirtual _ => match q with
    | [1, kd, y, na, rt] => match ah_pop na [] st with
      | some (as, .inr (.inr r) :: st) => ah_at h r kd fun _ _ => bif Nat.ble (ah_wt st) 8 then ah_ret rt (C y (.inr (.inr r) :: as) h) X fun vs h => K nx L (vs ++ st) h else none
      | _ => none
    | [21] => match st with
      | .inr (.inr r) :: st => bif Nat.ble (ah_wt st) 8 then ah_cln lim h r fun r h => K nx L (.inr (.inr r) :: st) h else none
      | _ => none
    | _ => none
  | .invokespecial _ => match q with
    | [2, kd, y, na] => match ah_pop na [] st with
      | some (as, .inr (.inr r) :: st) => ah_at h r kd fun _ _ => bif Nat.ble (ah_wt st) 8 then ah_cV (C y (.inr (.inr r) :: as) h) X fun h => K nx L st h else none
      | _ => none
    | [3] => match st with
      | .inr (.inr r) :: st => ah_nn r (bif Nat.ble (ah_wt st) 8 then K nx L st h else none)
      | _ => none
    | _ => none
  | .ireturn => match st with
    | [.inl x] => match rt with
      | 0 => some (.inl (some (.inl x)), h)
      | 3 => if x = 0 ∨ x = 1 then some (.inl (some (.inl x)), h) else none
      | _ => none
    | _ => none
  | .lreturn => match rt, st with | 1, [.inr (.inl x)] => some (.inl (some (.inr (.inl x))), h) | _, _ => none
  | .areturn => match rt, st with | 2, [.inr (.inr x)] => some (.inl (some (.inr (.inr x))), h) | _, _ => none
  | .return_ => match rt, st with | 4, [] => some (.inl none, h) | _, _ => none
  | i => match ah_pure i st with
    | some st' => K nx L st' h
    | none => none
def ah_mask : List Bool → ah_L → ah_L
  | true :: m, x :: L => x :: ah_mask m L
  | false :: m, _ :: L => none :: ah_mask m L
  | _, _ => []
/-- from a cut to the next one -/
def ah_go (lim : Nat × Nat) (M : ah_M) (C : ah_C) (J : ah_K) : Nat → ah_K
  | 0 => fun _ _ _ _ => none
  | f + 1 => fun pc L st h => match ah_lkc M.1 pc with
    | none => none
    | some (i, nx, q, ts, w) => ah_step lim M.2.2.2.1 C (fun e h' => bif Nat.beq h'.2.2.2 h.2.2.2 && Nat.beq h'.2.1 (h.2.1 + 1) then (match ah_catch M.2.2.1 pc e.1 with | some t => J t L [.inr (.inr (some e.2))] h' | none => none) else none) i nx q ts w L st h
        (fun pc' L' st' h' => match ah_lk M.2.1 pc' with | some ms9 => J pc' (ah_mask ms9 L') st' h' | none => ah_go lim M C J f pc' L' st' h')
def ah_lay : List AV → ah_L
  | [] => []
  | .inr (.inl x) :: t => some (.inr (.inl x)) :: none :: ah_lay t
  | v :: t => some v :: ah_lay t
def ah_in (M : ah_M) (as : List AV) : ah_L := ah_lay as ++ List.replicate (M.2.2.2.2 - (ah_lay as).length) none
/-- the calls of a program at depth d: P the methods, R how a method runs -/
def ah_calls (P : Nat → Option ah_M) (R : Nat → Nat → ah_K) (d : Nat) : ah_C := fun y as h => match d with
  | 0 => none
  | d + 1 => match P y with
    | some M => bif Nat.ble (ah_lay as).length M.2.2.2.2 then R d y 0 (ah_in M as) [] h else none
    | none => none
def ah_run (lim : Nat × Nat) (P : Nat → Option ah_M) : Nat → Nat → Nat → ah_K
  | 0 => fun _ _ _ _ _ _ => none
  | n + 1 => fun d y pc L st h => match P y with
    | none => none
    | some M => ah_go lim M (ah_calls P (ah_run lim P n) d) (ah_run lim P n d y) 1000 pc L st h
