/-! ONE STEP OF THE ABSTRACT MACHINE IS ONE OF THE MACHINE'S -/
theorem i32_le {a b : Int32} (h : b ≤ a) : ¬ a < b := by rw [Int32.le_iff_toInt_le] at h; rw [Int32.lt_iff_toInt_lt]; omega
theorem i32_nle {a b : Int32} (h : ¬ b ≤ a) : a < b := by rw [Int32.le_iff_toInt_le] at h; rw [Int32.lt_iff_toInt_lt]; omega
theorem i32_lt {a b : Int32} (h : b < a) : ¬ a ≤ b := by rw [Int32.lt_iff_toInt_lt] at h; rw [Int32.le_iff_toInt_le]; omega
theorem i32_nlt {a b : Int32} (h : ¬ b < a) : a ≤ b := by rw [Int32.lt_iff_toInt_lt] at h; rw [Int32.le_iff_toInt_le]; omega
theorem if_t {α : Type} {c : Prop} [Decidable c] {a b : Option α} {z : α} (e : (if c then a else b) = some z) (h : c) : a = some z := by rw [if_pos h] at e; exact e
theorem if_f {α : Type} {c : Prop} [Decidable c] {a b : Option α} {z : α} (e : (if c then a else b) = some z) (h : ¬ c) : b = some z := by rw [if_neg h] at e; exact e
theorem at_inv {ρ : Type} {h : ah_H} {r : Option Nat} {kd : Nat} {K : Nat → List AV → Option ρ} {z : ρ} (e : ah_at h r kd K = some z) : ∃ a vs, r = some a ∧ h.1 a = some (kd, vs) ∧ K a vs = some z := by
  unfold ah_at at e
  cases r with
  | none => cases e
  | some a =>
    dsimp only at e
    cases ho : h.1 a with
    | none => rw [ho] at e; cases e
    | some o =>
      rw [ho] at e
      dsimp only at e
      by_cases hk : o.1 = kd
      · rw [if_pos hk] at e
        exact ⟨a, o.2, rfl, by rw [ho, ← hk], e⟩
      · rw [if_neg hk] at e; cases e
theorem atA_inv {ρ : Type} {lo hi : Nat} {h : ah_H} {r : Option Nat} {K : Nat → Nat → List AV → Option ρ} {z : ρ} (e : ah_atA lo hi h r K = some z) : ∃ a kd vs, r = some a ∧ h.1 a = some (kd, vs) ∧ lo ≤ kd ∧ kd < hi ∧ K a kd vs = some z := by
  unfold ah_atA at e
  cases r with
  | none => cases e
  | some a =>
    dsimp only at e
    cases ho : h.1 a with
    | none => rw [ho] at e; cases e
    | some o =>
      rw [ho] at e
      dsimp only at e
      by_cases hk : lo ≤ o.1 ∧ o.1 < hi
      · rw [if_pos hk] at e
        exact ⟨a, o.1, o.2, rfl, ho, hk.1, hk.2, e⟩
      · rw [if_neg hk] at e; cases e
theorem vI_inv {ρ : Type} {v : Option AV} {K : Int32 → Option ρ} {z : ρ} (e : ah_vI v K = some z) : ∃ x, v = some (.inl x) ∧ K x = some z := by
  unfold ah_vI at e
  split at e
  · exact ⟨_, rfl, e⟩
  · cases e
theorem vJ_inv {ρ : Type} {v : Option AV} {K : Int64 → Option ρ} {z : ρ} (e : ah_vJ v K = some z) : ∃ x, v = some (.inr (.inl x)) ∧ K x = some z := by
  unfold ah_vJ at e
  split at e
  · exact ⟨_, rfl, e⟩
  · cases e
theorem vR_inv {ρ : Type} {v : Option AV} {K : Option Nat → Option ρ} {z : ρ} (e : ah_vR v K = some z) : ∃ x, v = some (.inr (.inr x)) ∧ K x = some z := by
  unfold ah_vR at e
  split at e
  · exact ⟨_, rfl, e⟩
  · cases e
theorem ix_inv {ρ : Type} {vs : List AV} {j : Int32} {K : Option AV → Option ρ} {z : ρ} (e : ah_ix vs j K = some z) : ¬ j < 0 ∧ K vs[j.toNatClampNeg]? = some z := by
  unfold ah_ix at e
  by_cases h : j < 0
  · rw [if_pos h] at e; cases e
  · rw [if_neg h] at e; exact ⟨h, e⟩
theorem sx_inv {ρ : Type} {h : ah_H} {a kd : Nat} {vs : List AV} {j : Int32} {v : AV} {K : ah_H → Option ρ} {z : ρ} (e : ah_sx h a kd vs j v K = some z) : ¬ j < 0 ∧ j.toNatClampNeg < vs.length ∧ K (ah_up h a (kd, vs.set j.toNatClampNeg v)) = some z := by
  unfold ah_sx at e
  by_cases h1 : j < 0
  · rw [if_pos h1] at e; cases e
  · rw [if_neg h1] at e
    by_cases h2 : j.toNatClampNeg < vs.length
    · rw [if_pos h2] at e; exact ⟨h1, h2, e⟩
    · rw [if_neg h2] at e; cases e
theorem mk_inv {ρ : Type} {lim : Nat × Nat} {h : ah_H} {o : ah_O} {n : Nat} {K : Option Nat → ah_H → Option ρ} {z : ρ} (e : ah_mk lim h o n K = some z) : (h.2.1 < lim.1 ∧ h.2.2.1 + n ≤ lim.2) ∧ K (some h.2.1) (ah_new h o n) = some z := by
  unfold ah_mk at e
  by_cases h1 : h.2.1 < lim.1 ∧ h.2.2.1 + n ≤ lim.2
  · rw [if_pos h1] at e; exact ⟨h1, e⟩
  · rw [if_neg h1] at e; cases e
theorem mka_inv {ρ : Type} {lim : Nat × Nat} {h : ah_H} {kd : Nat} {v : AV} {n : Int32} {K : Option Nat → ah_H → Option ρ} {z : ρ} (e : ah_mka lim h kd v n K = some z) : ¬ n < 0 ∧ n.toNatClampNeg * 8 ≤ 536870912 ∧ (h.2.1 < lim.1 ∧ h.2.2.1 + n.toNatClampNeg ≤ lim.2) ∧ K (some h.2.1) (ah_new h (kd, List.replicate n.toNatClampNeg v) n.toNatClampNeg) = some z := by
  unfold ah_mka at e
  by_cases h1 : n < 0
  · rw [if_pos h1] at e; cases e
  · rw [if_neg h1] at e
    by_cases h2 : n.toNatClampNeg * 8 ≤ 536870912
    · rw [if_pos h2] at e
      obtain ⟨a, b⟩ := mk_inv e
      exact ⟨h1, h2, a, b⟩
    · rw [if_neg h2] at e; cases e
theorem bif_t {α : Type} {c : Bool} {a : Option α} {z : α} (e : (bif c then a else none) = some z) : c = true ∧ a = some z := by
  cases c
  · cases e
  · exact ⟨rfl, e⟩
theorem sw_inv {ρ : Type} {x : Int32} {d : Nat} {K : Nat → Option ρ} {z : ρ} : ∀ {ts : List (Int32 × Nat)}, ah_sw x d K ts = some z → ((∀ t, (x, t) ∉ ts) ∧ K d = some z) ∨ ∃ t, (x, t) ∈ ts ∧ K t = some z
  | [], e => Or.inl ⟨(fun t h => by cases h), e⟩
  | (c, t) :: r, e => by
    unfold ah_sw at e
    by_cases h : x = c
    · rw [if_pos h] at e
      exact Or.inr ⟨t, by rw [h]; exact List.mem_cons_self, e⟩
    · rw [if_neg h] at e
      rcases sw_inv e with ⟨h1, h2⟩ | ⟨t', h1, h2⟩
      · refine Or.inl ⟨fun t' ht => ?_, h2⟩
        rcases List.mem_cons.mp ht with q | q
        · cases q; exact h rfl
        · exact h1 t' q
      · exact Or.inr ⟨t', List.mem_cons_of_mem _ h1, h2⟩
theorem ah_sk {v : Option AV} {L L1 : ah_L} {i : Nat} (h : ah_set v (ah_kill L i) i = some L1) : L1.length = L.length ∧ i < L.length := by
  obtain ⟨a, b, -⟩ := ah_set_spec h
  have c := (ah_kill_spec L i).1
  omega
theorem ift_inv {α : Type} {c : Prop} [Decidable c] {a : Option α} {z : α} (e : (if c then a else none) = some z) : c ∧ a = some z := by
  by_cases h : c
  · rw [if_pos h] at e; exact ⟨h, e⟩
  · rw [if_neg h] at e; cases e
theorem ret_inv {ρ : Type} {rt : Nat} {r : Option ah_R} {X : Nat × Nat → ah_H → Option ρ} {K : List AV → ah_H → Option ρ} {z : ρ} (e : ah_ret rt r X K = some z) : (∃ rv h', r = some (.inl rv, h') ∧ K rv.toList h' = some z) ∨ ∃ a h', r = some (.inr a, h') ∧ X a h' = some z := by
  unfold ah_ret at e
  split at e <;> (first | unfold ah_cI at e | unfold ah_cJ at e | unfold ah_cR at e | unfold ah_cV at e) <;> split at e <;> first | exact Or.inl ⟨_, _, rfl, e⟩ | exact Or.inr ⟨_, _, rfl, e⟩ | cases e
theorem cV_inv {ρ : Type} {r : Option ah_R} {X : Nat × Nat → ah_H → Option ρ} {K : ah_H → Option ρ} {z : ρ} (e : ah_cV r X K = some z) : (∃ h', r = some (.inl none, h') ∧ K h' = some z) ∨ ∃ a h', r = some (.inr a, h') ∧ X a h' = some z := by
  unfold ah_cV at e
  split at e <;> first | exact Or.inl ⟨_, rfl, e⟩ | exact Or.inr ⟨_, _, rfl, e⟩ | cases e
theorem good_cons {Ts : List Cond} (h : GoodIn Ts Ts) {w : Cond} (hw : w ∈ Ts) : GoodIn Ts (w :: Ts) := fun v hv => by
  rcases List.mem_cons.mp hv with q | q
  · rw [q]; exact h w hw
  · exact h v q
theorem rv_map (rv : Option AV) (st : List AV) : (rv.map toV).toList ++ st.map toV = (rv.toList ++ st).map toV := by cases rv <;> rfl
def am_sw : Instr → Bool
  | .tableswitch _ _ _ _ => true
  | .lookupswitch _ _ => true
  | _ => false
/-- what holds throughout a method's body -/
def am_S (G : am_G) (Ts : List Cond) (own mn : String) (mrt : Nat) (p : Program) (R : Room) (s : State) (m : MethodId) (args : Array Value) (meth : Method) (c : Code) (cc : ByteArray) (nL d : Nat) (h0 : ah_H) : Prop :=
  CallFix p m c cc nL s args Ts own ∧ am_rt mrt meth.sig.returnType ∧ meth.locks = false ∧ meth.name = mn ∧ am_Rm G R s d h0 ∧ ar_K G.1 G.2.1 G.2.2.1 s ∧ ar_X G s
/-- what the tables say of classes and array kinds -/
def am_T (G : am_G) (Ts : List Cond) : Prop :=
  GoodIn Ts Ts ∧ (∀ kd ty, (kd, ty) ∈ G.2.1 → 110 ≤ kd → ∃ C, ty = .object C ∧ ∃ r, G.1[kd - 110]? = some r ∧ r.1 = C) ∧ ((100, FieldType.int) ∈ G.2.1 ∧ (101, FieldType.long) ∈ G.2.1 ∧ (102, FieldType.boolean) ∈ G.2.1 ∧ (103, FieldType.byte) ∈ G.2.1 ∧ (104, FieldType.int) ∈ G.2.1) ∧
  ∀ kd C T N, G.1[kd]? = some (C, T, N) → kd < 100 ∧ (∀ w ∈ u_ws C T N, w ∈ Ts) ∧ (∀ a, a < N → ∀ b, b < N → a ≠ b → (T a).2.1 ≠ (T b).2.1) ∧ ∀ k, k < N → parseFieldDescriptor (T k).2.2.1 = some ((parseFieldDescriptor (T k).2.2.1).getD .int)
theorem pure_sw {i : Instr} {st st' : List AV} (h : ah_pure i st = some st') : am_sw i = false := by
  cases i <;> first | rfl | (simp [ah_pure] at h)
