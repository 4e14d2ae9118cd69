/-! CHECKS OF CLASSES, ARRAY KINDS, EXCEPTIONS -/
def ck_tgB (t : Nat) (ty : FieldType) : Bool := match t, ty with
  | 0, .int => true
  | 1, .long => true
  | 2, .object _ => true
  | 2, .array _ => true
  | 3, .boolean => true
  | _, _ => false
theorem ck_tgB_ok {t : Nat} {ty : FieldType} (h : ck_tgB t ty = true) : ck_tg t ty := by
  unfold ck_tgB at h
  split at h
  · exact Or.inl ⟨rfl, rfl⟩
  · exact Or.inr (Or.inl ⟨rfl, rfl⟩)
  · exact Or.inr (Or.inr (Or.inl ⟨rfl, Or.inl ⟨_, rfl⟩⟩))
  · exact Or.inr (Or.inr (Or.inl ⟨rfl, Or.inr ⟨_, rfl⟩⟩))
  · exact Or.inr (Or.inr (Or.inr ⟨rfl, rfl⟩))
  · cases h
def ck_fos (cl : List vw_C) (ft : Nat → Nat → Nat) : Bool := (List.range cl.length).all fun kd => match cl[kd]? with
  | some (C, T, N) => (List.range N).all fun k => decide ((T k).1 = C) && (match parseFieldDescriptor (T k).2.2.1 with | some ty => ck_tgB (ft kd k) ty | none => false)
  | none => true
theorem ck_fos_ok {cl : List vw_C} {ft : Nat → Nat → Nat} (h : ck_fos cl ft = true) : ∀ (kd : Nat) (C : String) (T : u_T) (N : Nat), cl[kd]? = some (C, T, N) → ∀ k, k < N → (T k).1 = C ∧ ∃ ty, parseFieldDescriptor (T k).2.2.1 = some ty ∧ ck_tg (ft kd k) ty := by
  intro kd C T N hc k hk
  have h1 := List.all_eq_true.mp h kd (List.mem_range.mpr (List.getElem?_eq_some_iff.mp hc).1)
  rw [hc] at h1
  obtain ⟨h2, h3⟩ := and_t (List.all_eq_true.mp h1 k (List.mem_range.mpr hk))
  refine ⟨of_decide_eq_true h2, ?_⟩
  cases hp : parseFieldDescriptor (T k).2.2.1 with
  | none => rw [hp] at h3; cases h3
  | some ty => rw [hp] at h3; exact ⟨ty, rfl, ck_tgB_ok h3⟩
def ck_cls (run : Nat → List Cond) (cl : List vw_C) (cs : List (List (Nat × Nat))) : Bool := (List.range cl.length).all fun kd => match cl[kd]? with
  | some (C, T, N) => Nat.blt kd 100 && ck_w run ((cs.getD kd []).getD N (0, 0)) (.instantiable C N) && (List.range N).all fun k => ck_w run ((cs.getD kd []).getD k (0, 0)) (u_lay C T k)
  | none => true
theorem ck_cls_ok {run : Nat → List Cond} {tbl : List Cond} {cl : List vw_C} {cs : List (List (Nat × Nat))} (hr : ∀ k v, v ∈ run k → v ∈ tbl) (h : ck_cls run cl cs = true) : ∀ (kd : Nat) (C : String) (T : u_T) (N : Nat), cl[kd]? = some (C, T, N) → kd < 100 ∧ Cond.instantiable C N ∈ tbl.filter ck_gd ∧ ∀ w ∈ u_ws C T N, w ∈ tbl.filter ck_gd := by
  intro kd C T N hc
  have h1 := List.all_eq_true.mp h kd (List.mem_range.mpr (List.getElem?_eq_some_iff.mp hc).1)
  rw [hc] at h1
  obtain ⟨h1, h4⟩ := and_t h1
  obtain ⟨h2, h3⟩ := and_t h1
  refine ⟨Nat.le_of_ble_eq_true h2, ck_w_ok hr h3, fun w hw => ?_⟩
  obtain ⟨k, hk, rfl⟩ := List.mem_map.mp hw
  exact ck_w_ok hr (List.all_eq_true.mp h4 k hk)
def ck_dis (cl : List vw_C) : Bool := (List.range cl.length).all fun kd => match cl[kd]? with
  | some (_, T, N) => (List.range N).all fun b => (List.range b).all fun a => decide ((T a).2.1 ≠ (T b).2.1)
  | none => true
theorem ck_dis_ok {cl : List vw_C} (h : ck_dis cl = true) : ∀ (kd : Nat) (C : String) (T : u_T) (N : Nat), cl[kd]? = some (C, T, N) → ∀ a, a < N → ∀ b, b < N → a ≠ b → (T a).2.1 ≠ (T b).2.1 := by
  intro kd C T N hc a ha b hb hab
  have h1 := List.all_eq_true.mp h kd (List.mem_range.mpr (List.getElem?_eq_some_iff.mp hc).1)
  rw [hc] at h1
  rcases Nat.lt_or_gt_of_ne hab with hl | hl
  · exact of_decide_eq_true (List.all_eq_true.mp (List.all_eq_true.mp h1 b (List.mem_range.mpr hb)) a (List.mem_range.mpr hl))
  · exact (of_decide_eq_true (List.all_eq_true.mp (List.all_eq_true.mp h1 a (List.mem_range.mpr ha)) b (List.mem_range.mpr hl))).symm
theorem ck_T4 {run : Nat → List Cond} {tbl : List Cond} {cl : List vw_C} {cs : List (List (Nat × Nat))} {ft : Nat → Nat → Nat} (hr : ∀ k v, v ∈ run k → v ∈ tbl) (h1 : ck_cls run cl cs = true) (h2 : ck_dis cl = true) (h3 : ck_fos cl ft = true) : ∀ (kd : Nat) (C : String) (T : u_T) (N : Nat), cl[kd]? = some (C, T, N) → kd < 100 ∧ (∀ w ∈ u_ws C T N, w ∈ tbl.filter ck_gd) ∧ (∀ a, a < N → ∀ b, b < N → a ≠ b → (T a).2.1 ≠ (T b).2.1) ∧ ∀ k, k < N → parseFieldDescriptor (T k).2.2.1 = some ((parseFieldDescriptor (T k).2.2.1).getD .int) := by
  intro kd C T N hc
  obtain ⟨k1, -, k2⟩ := ck_cls_ok hr h1 kd C T N hc
  refine ⟨k1, k2, ck_dis_ok h2 kd C T N hc, fun k hk => ?_⟩
  obtain ⟨-, ty, h4, -⟩ := ck_fos_ok h3 kd C T N hc k hk
  rw [h4]; rfl
def ck_aks (cl : List vw_C) (ak : List (Nat × FieldType)) : Bool := ak.all fun q => Nat.blt q.1 110 || (match q.2 with
  | .object C => match cl[q.1 - 110]? with | some r => decide (r.1 = C) | none => false
  | _ => false)
theorem ck_aks_ok {cl : List vw_C} {ak : List (Nat × FieldType)} (h : ck_aks cl ak = true) : ∀ kd ty, (kd, ty) ∈ ak → 110 ≤ kd → ∃ C, ty = .object C ∧ ∃ r, cl[kd - 110]? = some r ∧ r.1 = C := by
  intro kd ty hm hk
  have h1 := List.all_eq_true.mp h _ hm
  dsimp only at h1
  rcases Bool.or_eq_true_iff.mp h1 with h2 | h2
  · have := Nat.le_of_ble_eq_true h2
    omega
  · cases ty <;> first | cases h2 | skip
    rename_i C
    refine ⟨C, rfl, ?_⟩
    dsimp only at h2
    cases hc : cl[kd - 110]? with
    | none => rw [hc] at h2; cases h2
    | some r => rw [hc] at h2; exact ⟨r, rfl, of_decide_eq_true h2⟩
/-- an atom of a throw: a word, a static of the start, or an exception's cast to itself -/
def ck_a (run : Nat → List Cond) (sta : List (String × String × String)) (exc : List (Nat × String)) (dec : List MethodName) (cs : List (Nat × Nat)) (a : Cond) : Bool := cs.any (fun c => ck_w run c a) || sta.any (fun q => decide (a = .laysStatic q.1 q.2.1 q.2.2) || decide (a = .isRef (.static q.1 q.2.1 q.2.2))) || (exc.any (fun q => decide (a = .castable q.2 q.2)) || dec.any (fun q => decide (a = .declares q)))
def ck_ats (run : Nat → List Cond) (sta : List (String × String × String)) (exc : List (Nat × String)) (dec : List MethodName) (cs : List (Nat × Nat)) (l : List Cond) : Bool := l.all (ck_a run sta exc dec cs)
theorem ck_a_ok {run : Nat → List Cond} {tbl : List Cond} {sta : List (String × String × String)} {exc : List (Nat × String)} {dec : List MethodName} {cs : List (Nat × Nat)} {a : Cond} (hr : ∀ k v, v ∈ run k → v ∈ tbl) (h : ck_a run sta exc dec cs a = true) : a ∈ tbl.filter ck_gd ∨ (∃ q ∈ sta, a = .laysStatic q.1 q.2.1 q.2.2 ∨ a = .isRef (.static q.1 q.2.1 q.2.2)) ∨ (∃ q ∈ exc, a = .castable q.2 q.2) ∨ ∃ q ∈ dec, a = .declares q := by
  unfold ck_a at h
  rcases Bool.or_eq_true_iff.mp h with h | h
  · rcases Bool.or_eq_true_iff.mp h with h | h
    · obtain ⟨c, -, h1⟩ := List.any_eq_true.mp h
      exact Or.inl (ck_w_ok hr h1)
    · obtain ⟨q, hq, h1⟩ := List.any_eq_true.mp h
      refine Or.inr (Or.inl ⟨q, hq, ?_⟩)
      rcases Bool.or_eq_true_iff.mp h1 with h2 | h2
      · exact Or.inl (of_decide_eq_true h2)
      · exact Or.inr (of_decide_eq_true h2)
  · rcases Bool.or_eq_true_iff.mp h with h | h
    · obtain ⟨q, hq, h1⟩ := List.any_eq_true.mp h
      exact Or.inr (Or.inr (Or.inl ⟨q, hq, of_decide_eq_true h1⟩))
    · obtain ⟨q, hq, h1⟩ := List.any_eq_true.mp h
      exact Or.inr (Or.inr (Or.inr ⟨q, hq, of_decide_eq_true h1⟩))
def ck_xok (G : am_G) (Ts : List Cond) (kd : Nat) (X : String) (names : List String) : Prop := ((kd, X) ∈ am_exc G ∧ 200 ≤ kd ∧ Bundle.fit X = true ∧ (∀ x ∈ names, Bundle.fit x = true) ∧ names.length ≤ 3) ∧ Cond.instantiable X 6 ∈ Ts ∧ Cond.initialized X ∈ Ts ∧
    ∀ own ic, Cond.methodLink own ic (Bundle.initS X) ∈ Ts → ∀ a ∈ Bundle.ownAtoms own ic X names, a ∈ Ts ∨ (∃ q ∈ am_sta G, a = .laysStatic q.1 q.2.1 q.2.2 ∨ a = .isRef (.static q.1 q.2.1 q.2.2)) ∨ (∃ q ∈ am_exc G, a = .castable q.2 q.2) ∨ ∃ q ∈ am_dec G, a = .declares q
theorem ck_ats_all {G : am_G} {run : Nat → List Cond} {tbl : List Cond} {cs : List (Nat × Nat)} {A B : List Cond} {w : Cond} {l : List Cond} (hr : ∀ k v, v ∈ run k → v ∈ tbl) (h1 : ck_ats run (am_sta G) (am_exc G) (am_dec G) cs A = true) (h2 : ck_ats run (am_sta G) (am_exc G) (am_dec G) cs B = true) (hw : w ∈ tbl.filter ck_gd) (hl : l = A ++ w :: B) : ∀ a ∈ l, a ∈ tbl.filter ck_gd ∨ (∃ q ∈ am_sta G, a = .laysStatic q.1 q.2.1 q.2.2 ∨ a = .isRef (.static q.1 q.2.1 q.2.2)) ∨ (∃ q ∈ am_exc G, a = .castable q.2 q.2) ∨ ∃ q ∈ am_dec G, a = .declares q := by
  subst hl
  intro a ha
  rcases List.mem_append.mp ha with h | h
  · exact ck_a_ok hr (List.all_eq_true.mp h1 a h)
  · rcases List.mem_cons.mp h with rfl | h
    · exact Or.inl hw
    · exact ck_a_ok hr (List.all_eq_true.mp h2 a h)
