/-! WHAT THE TABLES MUST SAY OF AN INSTRUCTION -/
/-- of a method: name, bytes, locals, answer, handlers -/
abbrev am_I : Type := Nat → Option (MethodName × ByteArray × Nat × Option FieldType × List (Nat × Nat × Nat × Nat))
/-- its word -/
def am_w (N : MethodName) (bytes : ByteArray) (maxL : Nat) (ret : Option FieldType) (hh : List (Nat × Nat × Nat × Nat)) : Cond := match hh with
  | [] => .code N bytes maxL ret
  | q :: r => .codeWith N bytes maxL ret (q :: r)
def am_rt (rt : Nat) (ret : Option FieldType) : Prop := match rt with
  | 0 => ret = some .int
  | 1 => ret = some .long
  | 2 => ∃ t, ret = some t ∧ ((∃ n, t = .object n) ∨ ∃ u, t = .array u)
  | 3 => ret = some .boolean
  | 4 => ret = none
  | _ => False
/-- a field: the class's number, the field's place, its type -/
def am_fld (G : am_G) (Ts : List Cond) (own mn : String) (index : Nat) (wr : Bool) (kd k t : Nat) : Prop :=
  ∃ C T N, G.1[kd]? = some (C, T, N) ∧ k < N ∧ (T k).1 = C ∧ Cond.fieldLink own index C (T k).2.1 (T k).2.2.1 ∈ Ts ∧
    (∃ ty, parseFieldDescriptor (T k).2.2.1 = some ty ∧ ((t = 0 ∧ ty = .int) ∨ (t = 1 ∧ ty = .long) ∨ (t = 2 ∧ ((∃ n, ty = .object n) ∨ ∃ u, ty = .array u)) ∨ (t = 3 ∧ ty = .boolean))) ∧ (wr = true → (T k).2.2.2 = true → mn = "<init>" ∧ C = own)
/-- a callee -/
def am_cal (G : am_G) (Ts : List Cond) (I : am_I) (P : Nat → Option ah_M) (y na rt : Nat) (N : MethodName) (bytes : ByteArray) (maxL : Nat) (ret : Option FieldType) (hh : List (Nat × Nat × Nat × Nat)) : Prop :=
  I y = some (N, bytes, maxL, ret, hh) ∧ (∃ M, P y = some M ∧ M.2.2.2.2 = maxL ∧ M.2.2.2.1 = rt) ∧ am_w N bytes maxL ret hh ∈ Ts ∧ Cond.initialized N.cls ∈ Ts ∧
    (N.cls ≠ "java/lang/invoke/MethodHandle" ∧ N.cls ≠ "java/lang/invoke/VarHandle" ∧ (parseMethodDescriptor N.desc).map (fun d => d.parameters.length) = some na) ∧ maxL ≤ 22 ∧ am_rt rt ret
def am_iok (G : am_G) (Ts : List Cond) (I : am_I) (P : Nat → Option ah_M) (own mn : String) (mrt : Nat) (cc : ByteArray) (pc nx : Nat) (q : List Nat) (ts : List (Int32 × Nat)) (w : List AV) (i : Instr) : Prop := match i with
  | .iconst n => ∀ v, w = [.inl v] → Int32.ofInt n = v
  | .bipush n => ∀ v, w = [.inl v] → (Int8.ofInt n).toInt32 = v
  | .sipush n => ∀ v, w = [.inl v] → (Int16.ofInt n).toInt32 = v
  | .ldc n => ∀ v, w = [.inl v] → Cond.constant own n v ∈ Ts
  | .ldc_w n => ∀ v, w = [.inl v] → Cond.constant own n v ∈ Ts
  | .lconst n => ∀ v, w = [.inr (.inl v)] → Int64.ofNat (n : Nat) = v
  | .ldc2_w n => ∀ v, w = [.inr (.inl v)] → Cond.constantLong own n v ∈ Ts
  | .iload n => ∀ k, q = [k] → n = k
  | .iload_n n => ∀ k, q = [k] → (n : Nat) = k
  | .lload n => ∀ k, q = [k] → n = k
  | .lload_n n => ∀ k, q = [k] → (n : Nat) = k
  | .aload n => ∀ k, q = [k] → n = k
  | .aload_n n => ∀ k, q = [k] → (n : Nat) = k
  | .istore n => ∀ k, q = [k] → n = k
  | .istore_n n => ∀ k, q = [k] → (n : Nat) = k
  | .lstore n => ∀ k, q = [k] → n = k
  | .lstore_n n => ∀ k, q = [k] → (n : Nat) = k
  | .astore n => ∀ k, q = [k] → n = k
  | .astore_n n => ∀ k, q = [k] → (n : Nat) = k
  | .iinc n cst => ∀ k v, q = [k] → w = [.inl v] → n = k ∧ Int32.ofInt cst = v
  | .goto off => ∀ t, q = [t] → (pc : Int) + off = (t : Int)
  | .ifCond _ off => ∀ t, q = [t] → (pc : Int) + off = (t : Int)
  | .if_icmp _ off => ∀ t, q = [t] → (pc : Int) + off = (t : Int)
  | .if_acmp _ off => ∀ t, q = [t] → (pc : Int) + off = (t : Int)
  | .ifnull off => ∀ t, q = [t] → (pc : Int) + off = (t : Int)
  | .ifnonnull off => ∀ t, q = [t] → (pc : Int) + off = (t : Int)
  | .tableswitch dflt lo hi offs => ∀ t, q = [t] → (pc : Int) + dflt = (t : Int) ∧ (∀ x : Int32, (∀ z, (x, z) ∉ ts) → x.toInt < lo ∨ hi < x.toInt) ∧ ∀ x z, (x, z) ∈ ts → ¬ x.toInt < lo ∧ ¬ hi < x.toInt ∧ ∃ off, offs[(x.toInt - lo).toNat]? = some off ∧ (pc : Int) + off = (z : Int)
  | .lookupswitch dflt ps => ∀ t, q = [t] → (ps.toList.zip (ps.toList.drop 1)).all (fun (a, next) => a.1 < next.1) = true ∧ (∀ x : Int32, (∀ z, (x, z) ∉ ts) → (pc : Int) + Op.lookupswitch.offset ps.toList dflt x.toInt = (t : Int)) ∧ ∀ x z, (x, z) ∈ ts → (pc : Int) + Op.lookupswitch.offset ps.toList dflt x.toInt = (z : Int)
  | .getfield n => ∀ kd k t, q = [kd, k, t] → am_fld G Ts own mn n false kd k t
  | .putfield n => ∀ kd k t, q = [kd, k, t] → am_fld G Ts own mn n true kd k t
  | .newarray a => ∀ kd v, q = [kd] → w = [v] → 100 ≤ kd ∧ (kd < 200 ∧ kd ≠ 104) ∧ Cond.arrayClass (newarray.typeOf a) ∈ Ts ∧ (kd, newarray.typeOf a) ∈ G.2.1 ∧ toV v = defaultValue (newarray.typeOf a)
  | .anewarray n => ∀ kd, q = [kd] → 100 ≤ kd ∧ (kd < 200 ∧ kd ≠ 104) ∧ ∃ C, Cond.classLink own n C ∈ Ts ∧ C ∈ G.2.2.2.2.2.2.1 ∧ (kd, FieldType.object C) ∈ G.2.1
  | .new n => ∀ kd, q = [kd] → ∃ C T N, G.1[kd]? = some (C, T, N) ∧ Cond.classLink own n C ∈ Ts ∧ Cond.instantiable C N ∈ Ts ∧ Cond.initialized C ∈ Ts ∧ w.length = N ∧ ∀ j v, w[j]? = some v → ∃ ty, parseFieldDescriptor (T j).2.2.1 = some ty ∧ toV v = defaultValue ty
  | .invokestatic n => (∀ y na rt, q = [0, y, na, rt] → ∃ N bytes maxL ret hh, am_cal G Ts I P y na rt N bytes maxL ret hh ∧ Cond.methodLink own n N ∈ Ts ∧ Cond.static N ∈ Ts) ∧
      (q = [22] → Cond.methodLink own n Lib.Math.max.name ∈ Ts ∧ Cond.static Lib.Math.max.name ∈ Ts ∧ Cond.initialized "java/lang/Math" ∈ Ts ∧ Cond.code Lib.Math.max.name Lib.Math.max.code 2 (some .int) ∈ Ts) ∧
      (q = [23] → Cond.methodLink own n Lib.Math.min.name ∈ Ts ∧ Cond.static Lib.Math.min.name ∈ Ts ∧ Cond.initialized "java/lang/Math" ∈ Ts ∧ Cond.code Lib.Math.min.name Lib.Math.min.code 2 (some .int) ∈ Ts) ∧
      (q = [24] → Cond.methodLink own n Lib.MathLoose.min_long.x ∈ Ts ∧ Cond.static Lib.MathLoose.min_long.x ∈ Ts ∧ Cond.initialized "java/lang/Math" ∈ Ts ∧ Cond.code Lib.MathLoose.min_long.x Lib.MathLoose.min_long.code 4 (some .long) ∈ Ts) ∧
      (q = [25] → Cond.methodLink own n Lib.MathLoose.abs_long.x ∈ Ts ∧ Cond.static Lib.MathLoose.abs_long.x ∈ Ts ∧ Cond.initialized "java/lang/Math" ∈ Ts ∧ Cond.code Lib.MathLoose.abs_long.x Lib.MathLoose.abs_long.code 2 (some .long) ∈ Ts) ∧
      (q = [20] → Cond.methodLink own n arraycopyName ∈ Ts ∧ Cond.native arraycopyName ∈ Ts ∧ Cond.static arraycopyName ∈ Ts ∧ Cond.initialized "java/lang/System" ∈ Ts)
  | .invokevirtual n => ∀ kd y na rt, q = [1, kd, y, na, rt] → ∃ N bytes maxL ret, am_cal G Ts I P y na rt N bytes maxL ret [] ∧ Cond.methodLink own n N ∈ Ts ∧ Cond.instanceMethod N ∈ Ts ∧ Cond.selects N.cls N N ∈ Ts ∧ ∃ r, G.1[kd]? = some r ∧ r.1 = N.cls
  | .invokespecial n => (∀ kd y na, q = [2, kd, y, na] → ∃ N bytes maxL ret, am_cal G Ts I P y na 4 N bytes maxL ret [] ∧ (Cond.methodLink own n N ∈ Ts ∨ ∃ host, (own, n, N, host) ∈ G.2.2.2.2.2.1) ∧ Cond.instanceMethod N ∈ Ts ∧ N.name = "<init>") ∧
      (q = [3] → Cond.methodLink own n Lib.objectInit ∈ Ts ∧ Cond.instanceMethod Lib.objectInit ∈ Ts ∧ Cond.code Lib.objectInit ⟨#[0xb1]⟩ 1 none ∈ Ts)
  | _ => True
