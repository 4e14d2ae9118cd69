/-! THE CLASS'S METHODS ON A FRESH OBJECT -/
def xx (kd : Nat) (h : ah_H) : ah_R → Prop := rX fun e h' => e = (kd, h.2.1) ∧ h' = ah_new h (kd, []) 6
def rm (lim : Nat × Nat) (h : ah_H) : Prop := h.2.1 + 20 ≤ lim.1 ∧ h.2.2.1 + 200 ≤ lim.2
/-- the class's own cells -/
def clsR (x p : Nat) : Prop := x ≤ p ∧ p < x + 656
def kC (x : Nat) (h h' : ah_H) : Prop := ∃ c n, c ≤ 10 ∧ n ≤ 100 ∧ hk (clsR x) c n h h'
section Cl
variable {lim : Nat × Nat} {d : Nat} {h : ah_H} {x : Nat}
theorem thr {kd : Nat} (hr : rm lim h) : wq (ah_mk lim h (kd, []) 6 fun _ h3 => some (.inr (kd, h.2.1), h3)) (xx kd h) := wq_mk ⟨by have := hr.1; omega, by have := hr.2; omega⟩ (wq_some (rX_i ⟨rfl, rfl⟩))
theorem c_pick0 {t : Nat} {r : AV} {i : Int32} (ht : h.1 t = some (8, [r, aI 0])) : wq (vc lim (d + 1) m_Things_pick [aR t, aI i] h) (rR fun v h' => v = none ∧ h' = h) :=
  wq_eq e_Things_pick (wq_if _ (fun _ => wq_some (rR_i ⟨rfl, rfl⟩)) (fun hn => wq_gI ht rfl (wq_f hn (wq_some (rR_i ⟨rfl, rfl⟩)))))
theorem c_unit0 {fs : List AV} {i : Int32} (hx : h.1 x = some (0, fs)) (h4 : fs[4]? = some (aI 0)) : wq (vc lim (d + 1) m_Code_unitAt [aR x, aI i] h) (rR fun v h' => v = none ∧ h' = h) :=
  wq_eq e_Code_unitAt (wq_if _ (fun _ => wq_some (rR_i ⟨rfl, rfl⟩)) (fun hn => wq_gI hx h4 (wq_f hn (wq_some (rR_i ⟨rfl, rfl⟩)))))
theorem c_vthing0 {fs : List AV} {i j : Int32} (hx : h.1 x = some (0, fs)) (h4 : fs[4]? = some (aI 0)) : wq (vc lim (d + 2) m_Code_variableThing [aR x, aI i, aI j] h) (rR fun v h' => v = none ∧ h' = h) := by
  refine wq_eq e_Code_variableThing (wq_at hx (wq_cR (c_unit0 hx h4) ?_))
  rintro r h' ⟨rfl, rfl⟩
  exact wq_t rfl (wq_some (rR_i ⟨rfl, rfl⟩))
theorem c_has0 {t : Nat} {fs : List AV} {i : Int32} (ht : h.1 t = some (9, fs)) (h10 : fs[10]? = some (aI 0)) : wq (vc lim (d + 1) m_Told_has [aR t, aI i] h) (rI fun v h' => v = 0 ∧ h' = h) :=
  wq_eq e_Told_has (wq_if _ (fun _ => wq_t (by decide) (wq_some (rI_i ⟨rfl, rfl⟩))) (fun hn => wq_gI ht h10 (wq_f hn (wq_t (by decide) (wq_some (rI_i ⟨rfl, rfl⟩))))))
theorem c_isAssign0 {t : Nat} {fs : List AV} {i : Int32} (ht : h.1 t = some (9, fs)) (h10 : fs[10]? = some (aI 0)) : wq (vc lim (d + 2) m_Told_isAssign [aR t, aI i] h) (rI fun v h' => v = 0 ∧ h' = h) := by
  refine wq_eq e_Told_isAssign (wq_at ht (wq_cI (c_has0 ht h10) ?_))
  rintro r h' ⟨rfl, rfl⟩
  exact wq_t rfl (wq_t (by decide) (wq_some (rI_i ⟨rfl, rfl⟩)))
theorem c_placeOf0 {t : Nat} {fs : List AV} {i j : Int32} (ht : h.1 t = some (9, fs)) (h10 : fs[10]? = some (aI 0)) : wq (vc lim (d + 2) m_Told_placeOf [aR t, aI i, aI j] h) (rI fun v h' => v = -1 ∧ h' = h) := by
  refine wq_eq e_Told_placeOf (wq_at ht (wq_cI (c_has0 ht h10) ?_))
  rintro r h' ⟨rfl, rfl⟩
  exact wq_t rfl (wq_some (rI_i ⟨rfl, rfl⟩))
theorem c_datumOf0 {t : Nat} {fs : List AV} {i j : Int32} (ht : h.1 t = some (9, fs)) (h10 : fs[10]? = some (aI 0)) : wq (vc lim (d + 3) m_Told_datumOf [aR t, aI i, aI j] h) (rR fun v h' => v = none ∧ h' = h) := by
  refine wq_eq e_Told_datumOf (wq_at ht (wq_cI (c_placeOf0 ht h10) ?_))
  rintro r h' ⟨rfl, rfl⟩
  exact wq_t rfl (wq_some (rR_i ⟨rfl, rfl⟩))
theorem c_put {a b c e : Int32} (hf : fC x h) (hr : rm lim h) : wq (vc lim (d + 5) m_Code_put [aR x, aI a, aI b, aI c, aI e] h) (xx 202 h) := by
  obtain ⟨f1, f2, -⟩ := hf
  refine wq_eq e_Code_put (wq_gR f1 rfl (wq_at f2 (wq_cR (c_pick0 f2) ?_)))
  rintro r h' ⟨rfl, rfl⟩
  exact wq_t rfl (thr hr)
theorem c_mark {a b c : Int32} (hf : fC x h) (hr : rm lim h) : wq (vc lim (d + 5) m_Code_mark [aR x, aI a, aI b, aI c] h) (xx 202 h) := by
  obtain ⟨f1, f2, -⟩ := hf
  refine wq_eq e_Code_mark (wq_gR f1 rfl (wq_at f2 (wq_cR (c_pick0 f2) ?_)))
  rintro r h' ⟨rfl, rfl⟩
  exact wq_t rfl (thr hr)
theorem c_get {a b : Int32} (hf : fC x h) (hr : rm lim h) : wq (vc lim (d + 5) m_Code_get [aR x, aI a, aI b] h) (xx 202 h) := by
  obtain ⟨f1, f2, -⟩ := hf
  refine wq_eq e_Code_get (wq_gR f1 rfl (wq_at f2 (wq_cR (c_pick0 f2) ?_)))
  rintro r h' ⟨rfl, rfl⟩
  exact wq_t rfl (thr hr)
theorem c_set {a b c e : Int32} (hf : fC x h) (hr : rm lim h) : wq (vc lim (d + 5) m_Code_set [aR x, aI a, aI b, aI c, aI e] h) (xx 202 h) := by
  obtain ⟨f1, -⟩ := hf
  refine wq_eq e_Code_set (wq_at f1 (wq_cR (c_vthing0 f1 rfl) ?_))
  rintro r h' ⟨rfl, rfl⟩
  exact wq_t rfl (thr hr)
theorem c_variableOf {a b c : Int32} (hf : fC x h) (hr : rm lim h) : wq (vc lim (d + 5) m_Code_variableOf [aR x, aI a, aI b, aI c] h) (xx 202 h) := by
  obtain ⟨f1, -⟩ := hf
  refine wq_eq e_Code_variableOf (wq_at f1 (wq_cR (c_vthing0 f1 rfl) ?_))
  rintro r h' ⟨rfl, rfl⟩
  exact wq_t rfl (thr hr)
theorem c_resume {a b : Int32} (hf : fC x h) (hr : rm lim h) : wq (vc lim (d + 5) m_Code_resume [aR x, aI a, aI b] h) (xx 202 h) := by
  obtain ⟨f1, -⟩ := hf
  refine wq_eq e_Code_resume (wq_at f1 (wq_cR (c_unit0 f1 rfl) ?_))
  rintro r h' ⟨rfl, rfl⟩
  exact wq_t rfl (thr hr)
theorem c_holds {a : Int32} (hf : fC x h) (hr : rm lim h) : wq (vc lim (d + 5) m_Code_holds [aR x, aI a] h) (xx 202 h) := by
  obtain ⟨f1, -⟩ := hf
  refine wq_eq e_Code_holds (wq_at f1 (wq_cR (c_unit0 f1 rfl) ?_))
  rintro r h' ⟨rfl, rfl⟩
  exact wq_t rfl (thr hr)
theorem c_about {a b : Int32} (hf : fC x h) (hr : rm lim h) : wq (vc lim (d + 5) m_Code_about [aR x, aI a, aI b] h) (xx 202 h) := by
  obtain ⟨f1, -⟩ := hf
  refine wq_eq e_Code_about (wq_at f1 (wq_cR (c_unit0 f1 rfl) ?_))
  rintro r h' ⟨rfl, rfl⟩
  exact wq_t rfl (thr hr)
theorem c_waits {a b : Int32} (hf : fC x h) (hr : rm lim h) : wq (vc lim (d + 5) m_Code_waits [aR x, aI a, aI b] h) (xx 202 h) := by
  obtain ⟨f1, -⟩ := hf
  refine wq_eq e_Code_waits (wq_at f1 (wq_cR (c_unit0 f1 rfl) ?_))
  rintro r h' ⟨rfl, rfl⟩
  exact wq_t rfl (thr hr)
theorem c_until {a : Int32} (hf : fC x h) (hr : rm lim h) : wq (vc lim (d + 5) m_Code_until [aR x, aI a] h) (xx 202 h) := by
  obtain ⟨f1, -⟩ := hf
  refine wq_eq e_Code_until (wq_at f1 (wq_cR (c_unit0 f1 rfl) ?_))
  rintro r h' ⟨rfl, rfl⟩
  exact wq_t rfl (thr hr)
theorem c_act {a b : Int32} (hf : fC x h) (hr : rm lim h) : wq (vc lim (d + 5) m_Code_act [aR x, aI a, aI b] h) (xx 202 h) := by
  obtain ⟨f1, -, -, -, -, -, -, -, -, -, -, -, fs, t1, t2⟩ := hf
  refine wq_eq e_Code_act (wq_gR f1 rfl (wq_at t1 (wq_cI (c_has0 t1 t2) ?_)))
  rintro r h' ⟨rfl, rfl⟩
  exact wq_t rfl (thr hr)
theorem c_value {a b c : Int32} (hf : fC x h) (hr : rm lim h) : wq (vc lim (d + 5) m_Code_value [aR x, aI a, aI b, aI c] h) (xx 202 h) := by
  obtain ⟨f1, -, -, -, -, -, -, -, -, -, -, -, fs, t1, t2⟩ := hf
  refine wq_eq e_Code_value (wq_gR f1 rfl (wq_at t1 (wq_cR (c_datumOf0 t1 t2) ?_)))
  rintro r h' ⟨rfl, rfl⟩
  exact wq_t rfl (thr hr)
theorem c_delay {a b : Int32} (hf : fC x h) (hr : rm lim h) : wq (vc lim (d + 5) m_Code_delay [aR x, aI a, aI b] h) (xx 202 h) := by
  obtain ⟨f1, -, -, -, -, -, -, -, -, -, -, -, fs, t1, t2⟩ := hf
  have key : wq (ah_val lim ah_P (d + 4) 19 26 [some (.inr (.inr (some x))), some (.inl a), some (.inl b), none] [] h) (xx 202 h) := by
    refine wq_eq q_19_26 (wq_gR f1 rfl (wq_at t1 (wq_cI (c_placeOf0 t1 t2) ?_)))
    rintro r h' ⟨rfl, rfl⟩
    exact wq_t rfl (thr hr)
  refine wq_eq e_Code_delay (wq_if _ (fun _ => wq_gR f1 rfl (wq_at t1 (wq_cI (c_isAssign0 t1 t2) ?_))) (fun _ => key))
  rintro r h' ⟨rfl, rfl⟩
  exact wq_t rfl key
theorem c_processes (hf : fC x h) : wq (vc lim (d + 5) m_Code_processes [aR x] h) (rI fun v h' => v = 0 ∧ h' = h) := wq_eq e_Code_processes (wq_gI hf.1 rfl (wq_some (rI_i ⟨rfl, rfl⟩)))
theorem c_acts (hf : fC x h) : wq (vc lim (d + 5) m_Code_acts [aR x] h) (rI fun v h' => v = 0 ∧ h' = h) := by
  obtain ⟨f1, -, -, -, -, -, -, -, -, -, -, -, fs, t1, t2⟩ := hf
  exact wq_eq e_Code_acts (wq_gR f1 rfl (wq_gI t1 t2 (wq_some (rI_i ⟨rfl, rfl⟩))))
end Cl
/-! what a class may be -/
def can (c a b : Int32) : Prop := (c = 0 ∧ a = 0 ∧ b = 0) ∨ (c = 1 ∧ ¬ a < 1 ∧ a ≤ 64 ∧ b = 0) ∨ (c = 2 ∧ ¬ a < -2147483647 ∧ ¬ b < -2147483647 ∧ a ≤ b)
section Can
variable {lim : Nat × Nat} {d : Nat} {h : ah_H} {c a b : Int32}
theorem wq_1 {A : Option ah_R} {Φ : ah_R → Prop} {B : Option ah_R} (k : wq A Φ) : wq (if (1 : Int32) = 0 ∨ (1 : Int32) = 1 then A else B) Φ := wq_t (by decide) k
theorem wq_0 {A : Option ah_R} {Φ : ah_R → Prop} {B : Option ah_R} (k : wq A Φ) : wq (if (0 : Int32) = 0 ∨ (0 : Int32) = 1 then A else B) Φ := wq_t (by decide) k
theorem c_canBe : wq (vc lim (d + 1) m_Thing_canBe [aI c, aI a, aI b] h) (rI fun v h' => h' = h ∧ ((v = 1 ∧ can c a b) ∨ (v = 0 ∧ ¬ can c a b))) := by
  refine wq_eq e_Thing_canBe ?_
  unfold can
  repeat' (first
    | refine wq_1 (wq_some (rI_i ⟨rfl, Or.inl ⟨rfl, ?_⟩⟩))
    | refine wq_0 (wq_some (rI_i ⟨rfl, Or.inr ⟨rfl, ?_⟩⟩))
    | refine wq_if _ (fun _ => ?_) (fun _ => ?_))
  all_goals (try simp_all)
  all_goals (intro h1; exact absurd h1 (i32_lt (by assumption)))
theorem c_noKind : wq (vc lim (d + 1) m_Ref_noKind [aI c, aI a, aI b] h) (rI fun v h' => h' = h ∧ ((v = 0 ∧ can c a b) ∨ (v = 1 ∧ ¬ can c a b))) := by
  refine wq_eq e_Ref_noKind ?_
  unfold can
  repeat' (first
    | refine wq_0 (wq_some (rI_i ⟨rfl, Or.inl ⟨rfl, ?_⟩⟩))
    | refine wq_1 (wq_some (rI_i ⟨rfl, Or.inr ⟨rfl, ?_⟩⟩))
    | refine wq_if _ (fun _ => ?_) (fun _ => ?_))
  all_goals (try simp_all)
  all_goals (intro h1; exact absurd h1 (i32_lt (by assumption)))
end Can
