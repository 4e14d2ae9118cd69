/-! THE TABLES' CHECK: a function of the kernel's, and what it gives -/
def ck_gd (w : Cond) : Bool := (w.onTables && w.keeps) || (match w with | .arrayClass _ => true | _ => false)
theorem ck_gd_ok {w : Cond} (h : ck_gd w = true) : (w.onTables && w.keeps) = true ∨ ∃ ty, w = .arrayClass ty := by
  unfold ck_gd at h
  rcases Bool.or_eq_true_iff.mp h with h | h
  · exact Or.inl h
  · cases w <;> first | exact Or.inr ⟨_, rfl⟩ | cases h
theorem ck_good (tbl : List Cond) : GoodIn (tbl.filter ck_gd) (tbl.filter ck_gd) := fun _ hw => ⟨hw, ck_gd_ok (List.mem_filter.mp hw).2⟩
/-- the words by runs; classes; the fields' types (0 int, 1 long, 2 a reference, 3 boolean); callees (name, arguments, answer's type, no handlers); links between nest mates; classes with arrays; array kinds; String constants; exceptions with their superclasses below Throwable -/
abbrev ck_N : Type := (Nat → List Cond) × List vw_C × (Nat → Nat → Nat) × (Nat → Option (MethodName × Nat × Nat × Bool)) × List (String × Nat × MethodName × String) × List String × List (Nat × FieldType) × List (String × Nat × String) × List (Nat × String × List String)
/-- the word stands at that place -/
def ck_w (run : Nat → List Cond) (c : Nat × Nat) (w : Cond) : Bool := match (run c.1)[c.2]? with
  | some v => decide (v = w) && ck_gd w
  | none => false
theorem ck_w_ok {run : Nat → List Cond} {tbl : List Cond} {c : Nat × Nat} {w : Cond} (hr : ∀ k v, v ∈ run k → v ∈ tbl) (h : ck_w run c w = true) : w ∈ tbl.filter ck_gd := by
  unfold ck_w at h
  cases hv : (run c.1)[c.2]? with
  | none => rw [hv] at h; cases h
  | some v =>
    rw [hv] at h
    obtain ⟨h1, h2⟩ := Bool.and_eq_true_iff.mp h
    have h3 := of_decide_eq_true h1
    subst h3
    exact List.mem_filter.mpr ⟨hr _ _ (List.mem_of_getElem? hv), h2⟩
def ck_tg (t : Nat) (ty : FieldType) : Prop := (t = 0 ∧ ty = .int) ∨ (t = 1 ∧ ty = .long) ∨ (t = 2 ∧ ((∃ n, ty = .object n) ∨ ∃ u, ty = .array u)) ∨ (t = 3 ∧ ty = .boolean)
def ck_df (t : Nat) : AV := match t with
  | 1 => .inr (.inl 0)
  | 2 => .inr (.inr none)
  | _ => .inl 0
theorem ck_df_ok {t : Nat} {ty : FieldType} (h : ck_tg t ty) : toV (ck_df t) = defaultValue ty := by
  rcases h with ⟨rfl, rfl⟩ | ⟨rfl, rfl⟩ | ⟨rfl, ⟨n, rfl⟩ | ⟨u, rfl⟩⟩ | ⟨rfl, rfl⟩ <;> rfl
/-- what the checks rest on -/
def ck_env (E : ck_N) (G : am_G) (Ts : List Cond) (I : am_I) (P : Nat → Option ah_M) : Prop :=
  (∃ tbl : List Cond, Ts = tbl.filter ck_gd ∧ ∀ k v, v ∈ E.1 k → v ∈ tbl) ∧ (G.1 = E.2.1 ∧ G.2.1 = E.2.2.2.2.2.2.1 ∧ G.2.2.2.2.2.1 = E.2.2.2.2.1 ∧ G.2.2.2.2.2.2.1 = E.2.2.2.2.2.1 ∧ am_str G = E.2.2.2.2.2.2.2.1) ∧
  (∀ kd C T N, E.2.1[kd]? = some (C, T, N) → ∀ k, k < N → (T k).1 = C ∧ ∃ ty, parseFieldDescriptor (T k).2.2.1 = some ty ∧ ck_tg (E.2.2.1 kd k) ty) ∧
  (∀ y N na rt b, E.2.2.2.1 y = some (N, na, rt, b) → ∃ bytes maxL ret hh, am_cal G Ts I P y na rt N bytes maxL ret hh ∧ (b = true → hh = [])) ∧
  ∀ kd X names, (kd, X, names) ∈ E.2.2.2.2.2.2.2.2 → ((kd, X) ∈ am_exc G ∧ 200 ≤ kd ∧ Bundle.fit X = true ∧ (∀ x ∈ names, Bundle.fit x = true) ∧ names.length ≤ 3) ∧ Cond.instantiable X 6 ∈ Ts ∧ Cond.initialized X ∈ Ts ∧
    ∀ own ic, Cond.methodLink own ic (Bundle.initS X) ∈ Ts → ∀ a ∈ Bundle.ownAtoms own ic X names, a ∈ Ts ∨ (∃ q ∈ am_sta G, a = .laysStatic q.1 q.2.1 q.2.2 ∨ a = .isRef (.static q.1 q.2.1 q.2.2)) ∨ (∃ q ∈ am_exc G, a = .castable q.2 q.2) ∨ ∃ q ∈ am_dec G, a = .declares q
def ck_at (c : List (Nat × Nat)) (k : Nat) : Nat × Nat := c.getD k (0, 0)
def ck_fld (E : ck_N) (own mn : String) (n : Nat) (wr : Bool) (kd k t : Nat) (c : Nat × Nat) : Bool := match E.2.1[kd]? with
  | some (C, T, N) => Nat.blt k N && ck_w E.1 c (.fieldLink own n C (T k).2.1 (T k).2.2.1) && Nat.beq (E.2.2.1 kd k) t && (!wr || !(T k).2.2.2 || (decide (mn = "<init>") && decide (C = own)))
  | none => false
/-- a switch over all numbers from lo to hi -/
def ck_ts (pc : Nat) (lo hi : Int) (offs : Array Int) (ts : List (Int32 × Nat)) : Bool :=
  ts.all (fun e => decide (¬ e.1.toInt < lo) && decide (¬ hi < e.1.toInt) && (match offs[(e.1.toInt - lo).toNat]? with | some off => decide ((pc : Int) + off = (e.2 : Int)) | none => false)) &&
  (List.range (hi - lo + 1).toNat).all (fun j => match ts[j]? with | some e => decide (e.1.toInt = lo + (j : Int)) | none => false)
def ck_ls (pc : Nat) (dflt : Int) (ps : List (Int × Int)) (ts : List (Int32 × Nat)) : Bool :=
  (ps.zip (ps.drop 1)).all (fun (a, next) => a.1 < next.1) && decide (ps.map (·.1) = ts.map (·.1.toInt)) && ts.all (fun e => decide ((pc : Int) + Op.lookupswitch.offset ps dflt e.1.toInt = (e.2 : Int)))
/-- calls -/
def ck_st (E : ck_N) (own : String) (n y na rt : Nat) (c : List (Nat × Nat)) : Bool := match E.2.2.2.1 y with
  | some (N, na', rt', _) => Nat.beq na' na && Nat.beq rt' rt && ck_w E.1 (ck_at c 0) (.methodLink own n N) && ck_w E.1 (ck_at c 1) (.static N)
  | none => false
def ck_vi (E : ck_N) (own : String) (n kd y na rt : Nat) (c : List (Nat × Nat)) : Bool := match E.2.2.2.1 y with
  | some (N, na', rt', b) => b && Nat.beq na' na && Nat.beq rt' rt && ck_w E.1 (ck_at c 0) (.methodLink own n N) && ck_w E.1 (ck_at c 1) (.instanceMethod N) && ck_w E.1 (ck_at c 2) (.selects N.cls N N) && (match E.2.1[kd]? with | some r => decide (r.1 = N.cls) | none => false)
  | none => false
def ck_sp (E : ck_N) (own : String) (n y na : Nat) (c : List (Nat × Nat)) : Bool := match E.2.2.2.1 y with
  | some (N, na', rt', b) => b && Nat.beq na' na && Nat.beq rt' 4 && (ck_w E.1 (ck_at c 0) (.methodLink own n N) || (match E.2.2.2.2.1[(ck_at c 2).1]? with | some r => decide (r.1 = own) && Nat.beq r.2.1 n && decide (r.2.2.1 = N) | none => false)) && ck_w E.1 (ck_at c 1) (.instanceMethod N) && decide (N.name = "<init>")
  | none => false
def ck_i (E : ck_N) (own mn : String) (pc : Nat) (q : List Nat) (ts : List (Int32 × Nat)) (w : List AV) (c : List (Nat × Nat)) (i : Instr) : Bool := match i with
  | .iconst n => match w with | [.inl v] => decide (Int32.ofInt n = v) | _ => true
  | .bipush n => match w with | [.inl v] => decide ((Int8.ofInt n).toInt32 = v) | _ => true
  | .sipush n => match w with | [.inl v] => decide ((Int16.ofInt n).toInt32 = v) | _ => true
  | .ldc n => match w with | [.inl v] => ck_w E.1 (ck_at c 0) (.constant own n v) | _ => true
  | .ldc_w n => match w with | [.inl v] => ck_w E.1 (ck_at c 0) (.constant own n v) | _ => true
  | .lconst n => match w with | [.inr (.inl v)] => decide (Int64.ofNat (n : Nat) = v) | _ => true
  | .ldc2_w n => match w with | [.inr (.inl v)] => ck_w E.1 (ck_at c 0) (.constantLong own n v) | _ => true
  | .iload n => match q with | [k] => Nat.beq n k | _ => true
  | .iload_n n => match q with | [k] => Nat.beq n k | _ => true
  | .lload n => match q with | [k] => Nat.beq n k | _ => true
  | .lload_n n => match q with | [k] => Nat.beq n k | _ => true
  | .aload n => match q with | [k] => Nat.beq n k | _ => true
  | .aload_n n => match q with | [k] => Nat.beq n k | _ => true
  | .istore n => match q with | [k] => Nat.beq n k | _ => true
  | .istore_n n => match q with | [k] => Nat.beq n k | _ => true
  | .lstore n => match q with | [k] => Nat.beq n k | _ => true
  | .lstore_n n => match q with | [k] => Nat.beq n k | _ => true
  | .astore n => match q with | [k] => Nat.beq n k | _ => true
  | .astore_n n => match q with | [k] => Nat.beq n k | _ => true
  | .iinc n cst => match q, w with | [k], [.inl v] => Nat.beq n k && decide (Int32.ofInt cst = v) | _, _ => true
  | .goto off => match q with | [t] => decide ((pc : Int) + off = (t : Int)) | _ => true
  | .ifCond _ off => match q with | [t] => decide ((pc : Int) + off = (t : Int)) | _ => true
  | .if_icmp _ off => match q with | [t] => decide ((pc : Int) + off = (t : Int)) | _ => true
  | .if_acmp _ off => match q with | [t] => decide ((pc : Int) + off = (t : Int)) | _ => true
  | .ifnull off => match q with | [t] => decide ((pc : Int) + off = (t : Int)) | _ => true
  | .ifnonnull off => match q with | [t] => decide ((pc : Int) + off = (t : Int)) | _ => true
  | .tableswitch dflt lo hi offs => match q with | [t] => decide ((pc : Int) + dflt = (t : Int)) && ck_ts pc lo hi offs ts | _ => true
  | .lookupswitch dflt ps => match q with | [t] => decide ((pc : Int) + dflt = (t : Int)) && ck_ls pc dflt ps.toList ts | _ => true
  | .getfield n => match q with | [kd, k, t] => ck_fld E own mn n false kd k t (ck_at c 0) | _ => true
  | .putfield n => match q with | [kd, k, t] => ck_fld E own mn n true kd k t (ck_at c 0) | _ => true
  | .newarray a => match q, w with
    | [kd], [v] => Nat.ble 100 kd && (Nat.blt kd 200 && !(Nat.beq kd 104)) && ck_w E.1 (ck_at c 0) (.arrayClass (newarray.typeOf a)) && decide ((kd, newarray.typeOf a) ∈ E.2.2.2.2.2.2.1) && (match a with | .int => decide (v = .inl 0) | .byte => decide (v = .inl 0) | .boolean => decide (v = .inl 0) | .long => decide (v = .inr (.inl 0)) | _ => false)
    | _, _ => true
  | .anewarray n => match q with
    | [kd] => Nat.ble 100 kd && (Nat.blt kd 200 && !(Nat.beq kd 104)) && (match E.2.1[kd - 110]? with | some (C, _, _) => ck_w E.1 (ck_at c 0) (.classLink own n C) && decide (C ∈ E.2.2.2.2.2.1) && decide ((kd, FieldType.object C) ∈ E.2.2.2.2.2.2.1) | none => false)
    | _ => true
  | .new n => match q with
    | [kd] => match E.2.1[kd]? with
      | some (C, _, N) => ck_w E.1 (ck_at c 0) (.classLink own n C) && ck_w E.1 (ck_at c 1) (.instantiable C N) && ck_w E.1 (ck_at c 2) (.initialized C) && decide (w = (List.range N).map fun k => ck_df (E.2.2.1 kd k))
      | none => false
    | _ => true
  | .invokestatic n => match q with
    | [0, y, na, rt] => ck_st E own n y na rt c
    | [22] => ck_w E.1 (ck_at c 0) (.methodLink own n Lib.Math.max.name) && ck_w E.1 (ck_at c 1) (.static Lib.Math.max.name) && ck_w E.1 (ck_at c 2) (.initialized "java/lang/Math") && ck_w E.1 (ck_at c 3) (.code Lib.Math.max.name Lib.Math.max.code 2 (some .int))
    | [23] => ck_w E.1 (ck_at c 0) (.methodLink own n Lib.Math.min.name) && ck_w E.1 (ck_at c 1) (.static Lib.Math.min.name) && ck_w E.1 (ck_at c 2) (.initialized "java/lang/Math") && ck_w E.1 (ck_at c 3) (.code Lib.Math.min.name Lib.Math.min.code 2 (some .int))
    | [24] => ck_w E.1 (ck_at c 0) (.methodLink own n Lib.MathLoose.min_long.x) && ck_w E.1 (ck_at c 1) (.static Lib.MathLoose.min_long.x) && ck_w E.1 (ck_at c 2) (.initialized "java/lang/Math") && ck_w E.1 (ck_at c 3) (.code Lib.MathLoose.min_long.x Lib.MathLoose.min_long.code 4 (some .long))
    | [25] => ck_w E.1 (ck_at c 0) (.methodLink own n Lib.MathLoose.abs_long.x) && ck_w E.1 (ck_at c 1) (.static Lib.MathLoose.abs_long.x) && ck_w E.1 (ck_at c 2) (.initialized "java/lang/Math") && ck_w E.1 (ck_at c 3) (.code Lib.MathLoose.abs_long.x Lib.MathLoose.abs_long.code 2 (some .long))
    | [20] => ck_w E.1 (ck_at c 0) (.methodLink own n arraycopyName) && ck_w E.1 (ck_at c 1) (.native arraycopyName) && ck_w E.1 (ck_at c 2) (.static arraycopyName) && ck_w E.1 (ck_at c 3) (.initialized "java/lang/System")
    | _ => true
  | .invokevirtual n => match q with
    | [1, kd, y, na, rt] => ck_vi E own n kd y na rt c
    | _ => true
  | .invokespecial n => match q with
    | [2, _, y, na] => ck_sp E own n y na c
    | [3] => ck_w E.1 (ck_at c 0) (.methodLink own n Lib.objectInit) && ck_w E.1 (ck_at c 1) (.instanceMethod Lib.objectInit) && ck_w E.1 (ck_at c 2) (.code Lib.objectInit ⟨#[0xb1]⟩ 1 none)
    | _ => true
  | _ => true
theorem ck_fld_ok {E : ck_N} {G : am_G} {Ts : List Cond} {I : am_I} {P : Nat → Option ah_M} (hE : ck_env E G Ts I P) {own mn : String} {n kd k t : Nat} {wr : Bool} {c : Nat × Nat} (h : ck_fld E own mn n wr kd k t c = true) : am_fld G Ts own mn n wr kd k t := by
  obtain ⟨⟨tbl, rfl, hr⟩, ⟨g1, -⟩, hf, -, -⟩ := hE
  unfold ck_fld at h
  cases hc : E.2.1[kd]? with
  | none => rw [hc] at h; cases h
  | some r =>
    obtain ⟨C, T, N⟩ := r
    rw [hc] at h
    simp only [Bool.and_eq_true] at h
    obtain ⟨⟨⟨h1, h2⟩, h3⟩, h4⟩ := h
    have hk : k < N := by
      have := Nat.le_of_ble_eq_true h1
      omega
    obtain ⟨f1, ty, f2, f3⟩ := hf kd C T N hc k hk
    rw [Nat.eq_of_beq_eq_true h3] at f3
    refine ⟨C, T, N, by rw [g1]; exact hc, hk, f1, ck_w_ok hr h2, ⟨ty, f2, f3⟩, fun q1 q2 => ?_⟩
    subst q1
    rw [q2] at h4
    simpa using h4
theorem ck_ts_ok {pc : Nat} {lo hi : Int} {offs : Array Int} {ts : List (Int32 × Nat)} (h : ck_ts pc lo hi offs ts = true) : (∀ x : Int32, (∀ z, (x, z) ∉ ts) → x.toInt < lo ∨ hi < x.toInt) ∧ ∀ x z, (x, z) ∈ ts → ¬ x.toInt < lo ∧ ¬ hi < x.toInt ∧ ∃ off, offs[(x.toInt - lo).toNat]? = some off ∧ (pc : Int) + off = (z : Int) := by
  unfold ck_ts at h
  obtain ⟨h1, h2⟩ := Bool.and_eq_true_iff.mp h
  constructor
  · intro x hx
    by_cases hq : x.toInt < lo ∨ hi < x.toInt
    · exact hq
    · exfalso
      have h3 := List.all_eq_true.mp h2 (x.toInt - lo).toNat (List.mem_range.mpr (by omega))
      cases he : ts[(x.toInt - lo).toNat]? with
      | none => rw [he] at h3; cases h3
      | some e =>
        rw [he] at h3
        have h4 := of_decide_eq_true h3
        have h5 : e.1 = x := Int32.toInt_inj.mp (by omega)
        exact hx e.2 (by rw [← h5]; exact List.mem_of_getElem? he)
  · intro x z hx
    have h3 := List.all_eq_true.mp h1 _ hx
    simp only [Bool.and_eq_true, decide_eq_true_eq] at h3
    refine ⟨h3.1.1, h3.1.2, ?_⟩
    cases ho : offs[(x.toInt - lo).toNat]? with
    | none => rw [ho] at h3; exact absurd h3.2 (by simp)
    | some off => rw [ho] at h3; exact ⟨off, rfl, of_decide_eq_true h3.2⟩
theorem ck_off {dflt k : Int} : ∀ {ps : List (Int × Int)}, (∀ e ∈ ps, e.1 ≠ k) → Op.lookupswitch.offset ps dflt k = dflt
  | [], _ => rfl
  | (a, o) :: r, h => by
    rw [Op.lookupswitch.offset_cons, if_neg (h (a, o) List.mem_cons_self)]
    exact ck_off fun e he => h e (List.mem_cons_of_mem _ he)
theorem ck_ls_ok {pc t : Nat} {dflt : Int} {ps : List (Int × Int)} {ts : List (Int32 × Nat)} (hd : (pc : Int) + dflt = (t : Int)) (h : ck_ls pc dflt ps ts = true) : (ps.zip (ps.drop 1)).all (fun (a, next) => a.1 < next.1) = true ∧ (∀ x : Int32, (∀ z, (x, z) ∉ ts) → (pc : Int) + Op.lookupswitch.offset ps dflt x.toInt = (t : Int)) ∧ ∀ x z, (x, z) ∈ ts → (pc : Int) + Op.lookupswitch.offset ps dflt x.toInt = (z : Int) := by
  unfold ck_ls at h
  simp only [Bool.and_eq_true] at h
  obtain ⟨⟨h1, h2⟩, h3⟩ := h
  refine ⟨h1, fun x hx => ?_, fun x z hx => of_decide_eq_true (List.all_eq_true.mp h3 _ hx)⟩
  rw [ck_off, hd]
  intro e he hk
  have h4 : e.1 ∈ ps.map (·.1) := List.mem_map.mpr ⟨e, he, rfl⟩
  rw [of_decide_eq_true h2] at h4
  obtain ⟨e', he', hx'⟩ := List.mem_map.mp h4
  have h5 : e'.1 = x := Int32.toInt_inj.mp (by rw [hx', hk])
  exact hx e'.2 (by rw [← h5]; exact he')
