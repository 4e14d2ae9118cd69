/-! THINGS, NODES AND PROCESSES ARE MADE -/
section Mk
variable {lim : Nat × Nat} {K : Nat} {ws : Nat × Nat → Bool} {c n d : Nat} {κ0 κ : kM} {h0 h b : ah_H} {a : Nat}
theorem n_thing49 {i l lo hi : Int32} (A : AL K ws c n κ0 h0 κ h) (hs : ∀ v, [1].contains v.1 = true → ws v = true) (ha : h0.2.1 ≤ a) (hl : a < h.2.1) (hn : κ a = none) (e : h.1 a = some (7, [aI i, aI l, aI lo, aI 0, aN, aN, aI 0, aI 0])) (hr : h.2.1 + 2 ≤ lim.1 ∧ h.2.2.1 + 14 ≤ lim.2) :
    wq (ah_val lim ah_P (d + 1) 224 49 [some (aR a), some (aI i), none, none] [aI hi, aR a] h) (rV fun h' => ∃ κ' nw ls, AL K ws (c + 2) (n + 14) κ0 h0 κ' h' ∧ κ' a = none ∧ (∀ q v, κ q = some v → κ' q = some v) ∧ h'.1 a = some (7, [aI i, aI l, aI lo, aI hi, aR nw, aR ls, aI 0, aI 0]) ∧ κ' nw = some (1, 0) ∧ κ' ls = some (1, 0) ∧ h'.2.1 = h.2.1 + 2) := by
  have g1 := A.2.2.2.2.2.1
  refine wq_eq q_224_49 (wq_wr e (Nat.le_of_ble_eq_true rfl) ?_)
  have A1 := AL_up (o := (7, [aI i, aI l, aI lo, aI hi, aN, aN, aI 0, aI 0])) A ha hn
  refine wq_mk ⟨by show h.2.1 < _; omega, by show h.2.2.1 + 7 ≤ _; omega⟩ ?_
  have A2 := AL_new (o := (1, [.inl 0, .inl 0, .inr (.inl 0), .inr (.inl 0), .inr (.inl 0), .inr (.inl 0), .inr (.inl 0)])) (k := 7) A1
  have A3 := AL_ins (a := h.2.1) (kd := 1) (m := 0) A2 g1 (Nat.lt_succ_self _) (AL_fr A (Nat.le_refl _)) nw_eq i1
  refine wq_at nw_eq (wq_cV (s_Datum_init A3.1 ins_eq) ?_)
  rintro h4 ⟨W4, q4⟩
  have A4 := AL_call A3 W4 q4 hs
  have n4 : ins κ h.2.1 (1, 0) a = none := ins_ne (by omega) hn
  have m4 : h4.2.1 = h.2.1 + 1 := W4.2.2.1
  have r4 : h4.2.2.1 = h.2.2.1 + 7 := W4.2.2.2
  have e4 : h4.1 a = some (7, [aI i, aI l, aI lo, aI hi, aN, aN, aI 0, aI 0]) := (W4.2.1 a n4).trans (nw_ne (by show a ≠ h.2.1; omega) up_eq)
  refine wq_wr e4 (Nat.le_of_ble_eq_true rfl) ?_
  have A5 := AL_up (o := (7, [aI i, aI l, aI lo, aI hi, aR h.2.1, aN, aI 0, aI 0])) A4 ha n4
  refine wq_mk ⟨by show h4.2.1 < _; omega, by show h4.2.2.1 + 7 ≤ _; omega⟩ ?_
  have A6 := AL_new (o := (1, [.inl 0, .inl 0, .inr (.inl 0), .inr (.inl 0), .inr (.inl 0), .inr (.inl 0), .inr (.inl 0)])) (k := 7) A5
  have A7 := AL_ins (a := h4.2.1) (kd := 1) (m := 0) A6 (by omega) (Nat.lt_succ_self _) (AL_fr A4 (Nat.le_refl _)) nw_eq i1
  refine wq_at nw_eq (wq_cV (s_Datum_init A7.1 ins_eq) ?_)
  rintro h8 ⟨W8, q8⟩
  have A8 := AL_call A7 W8 q8 hs
  have n8 : ins (ins κ h.2.1 (1, 0)) h4.2.1 (1, 0) a = none := ins_ne (by omega) n4
  have t8 : ins (ins κ h.2.1 (1, 0)) h4.2.1 (1, 0) h.2.1 = some (1, 0) := ins_ne (by omega) ins_eq
  have s8 : ins (ins κ h.2.1 (1, 0)) h4.2.1 (1, 0) h4.2.1 = some (1, 0) := ins_eq
  have e8 : h8.1 a = some (7, [aI i, aI l, aI lo, aI hi, aR h.2.1, aN, aI 0, aI 0]) := (W8.2.1 a n8).trans (nw_ne (by show a ≠ h4.2.1; omega) up_eq)
  refine wq_wr e8 (Nat.le_of_ble_eq_true rfl) ?_
  have A9 := AL_up (o := (7, [aI i, aI l, aI lo, aI hi, aR h.2.1, aR h4.2.1, aI 0, aI 0])) A8 ha n8
  refine wq_gR up_eq rfl (wq_gI up_eq rfl (wk_at A9.1 t8 rfl (fun _ => wq_cV (s_Datum_hold A9.1 t8) ?_)))
  rintro h12 ⟨W12, q12⟩
  have A12 := AL_call A9 W12 q12 hs
  have e12 : h12.1 a = some (7, [aI i, aI l, aI lo, aI hi, aR h.2.1, aR h4.2.1, aI 0, aI 0]) := (W12.2.1 a n8).trans up_eq
  refine wq_gR e12 rfl (wq_gI e12 rfl ?_)
  obtain ⟨x1, x2, x3, x4, x5, x6, x7, ed⟩ := o1 A12.1 t8
  refine wk_wr A12.1 t8 rfl ed (Nat.le_of_ble_eq_true rfl) i1 ?_
  intro h15 W15 _ o15
  have A15 := AL_call A12 W15 (fk_w (ws := [1]) fk_0 t8 o15 rfl) hs
  have e15 : h15.1 a = some (7, [aI i, aI l, aI lo, aI hi, aR h.2.1, aR h4.2.1, aI 0, aI 0]) := (W15.2.1 a n8).trans e12
  refine wq_gR e15 rfl (wq_gR e15 rfl (wk_at A15.1 s8 rfl (fun _ => wq_cV (s_Datum_copy A15.1 s8 t8) ?_)))
  rintro h18 ⟨W18, q18⟩
  have A18 := AL_call A15 W18 q18 hs
  refine wq_some (rV_i ⟨_, _, _, A18, n8, fun q v hq => ?_, (W18.2.1 a n8).trans e15, t8, s8, ?_⟩)
  rotate_left
  · have z1 : h8.2.1 = h4.2.1 + 1 := W8.2.2.1
    have z2 : h12.2.1 = h8.2.1 := W12.2.2.1
    have z3 := W15.2.2.1
    have z4 := W18.2.2.1
    omega
  have := A.2.1 q v hq
  exact ins_ne (by omega) (ins_ne (by omega) hq)
theorem n_Thing_init {i x y : Int32} (A : AL K ws c n κ0 h0 κ h) (hs : ∀ v, [1].contains v.1 = true → ws v = true) (ha : h0.2.1 ≤ a) (hl : a < h.2.1) (hn : κ a = none) (e : h.1 a = some (7, [aI 0, aI 0, aI 0, aI 0, aN, aN, aI 0, aI 0])) (hr : h.2.1 + 2 ≤ lim.1 ∧ h.2.2.1 + 14 ≤ lim.2) :
    wq (vc lim (d + 2) m_Thing_init [aR a, aI i, aI x, aI y] h) (rV fun h' => ∃ κ' nw ls, AL K ws (c + 2) (n + 14) κ0 h0 κ' h' ∧ κ' a = none ∧ (∀ q v, κ q = some v → κ' q = some v) ∧ h'.1 a = some (7, [aI i, aI (if i = 1 then x else 1), aI (if i = 2 then x else 0), aI (if i = 2 then y else 8), aR nw, aR ls, aI 0, aI 0]) ∧ κ' nw = some (1, 0) ∧ κ' ls = some (1, 0) ∧ h'.2.1 = h.2.1 + 2) := by
  refine wq_eq e_Thing_init (wq_nn (wq_wr e (Nat.le_of_ble_eq_true rfl) ?_))
  have A1 := AL_up (o := (7, [aI i, aI 0, aI 0, aI 0, aN, aN, aI 0, aI 0])) A ha hn
  have key : ∀ l : Int32, wq (ah_val lim ah_P (d + 1) 224 20 [some (aR a), some (aI i), some (aI x), some (aI y)] [aI l, aR a] (ah_up h a (7, [aI i, aI 0, aI 0, aI 0, aN, aN, aI 0, aI 0]))) (rV fun h' => ∃ κ' nw ls, AL K ws (c + 2) (n + 14) κ0 h0 κ' h' ∧ κ' a = none ∧ (∀ q v, κ q = some v → κ' q = some v) ∧ h'.1 a = some (7, [aI i, aI l, aI (if i = 2 then x else 0), aI (if i = 2 then y else 8), aR nw, aR ls, aI 0, aI 0]) ∧ κ' nw = some (1, 0) ∧ κ' ls = some (1, 0) ∧ h'.2.1 = h.2.1 + 2) := by
    intro l
    refine wq_eq q_224_20 (wq_wr up_eq (Nat.le_of_ble_eq_true rfl) ?_)
    have A2 := AL_up (o := (7, [aI i, aI l, aI 0, aI 0, aN, aN, aI 0, aI 0])) A1 ha hn
    refine wq_if _ (fun c1 => ?_) (fun c1 => ?_)
    · refine wq_wr up_eq (Nat.le_of_ble_eq_true rfl) (wq_t c1 ?_)
      rw [if_pos c1, if_pos c1]
      exact n_thing49 (AL_up (o := (7, [aI i, aI l, aI x, aI 0, aN, aN, aI 0, aI 0])) A2 ha hn) hs ha hl hn up_eq hr
    · refine wq_wr up_eq (Nat.le_of_ble_eq_true rfl) (wq_f c1 ?_)
      rw [if_neg c1, if_neg c1]
      exact n_thing49 (AL_up (o := (7, [aI i, aI l, aI 0, aI 0, aN, aN, aI 0, aI 0])) A2 ha hn) hs ha hl hn up_eq hr
  refine wq_if _ (fun c1 => ?_) (fun c1 => ?_)
  · rw [if_pos c1]
    exact key x
  · rw [if_neg c1]
    exact key 1
theorem n_Things_isFull {m rw : Nat} {x : Int32} (W : cI K κ b h) (t0 : κ a = some (8, m)) (e : h.1 a = some (8, [aR rw, aI x])) (t1 : κ rw = some (117, m)) : wq (vc lim (d + 1) m_Things_isFull [aR a] h) (rI fun z h' => h' = h ∧ ((z = 0 ∧ x.toInt < m) ∨ (z = 1 ∧ (m : Int) ≤ x.toInt))) := by
  refine wq_eq e_Things_isFull (wq_gI e rfl (wq_gR e rfl (wk_len W t1 (by decide) ?_)))
  intro l hl
  refine wq_if _ (fun c1 => wq_t (by decide) (wq_some (rI_i ⟨rfl, Or.inl ⟨rfl, ?_⟩⟩))) (fun c1 => wq_t (by decide) (wq_some (rI_i ⟨rfl, Or.inr ⟨rfl, ?_⟩⟩)))
  · have := lt_i c1
    omega
  · have := nlt_i c1
    omega
/-- a thing at the end of a row -/
theorem n_Things_keep {m rw : Nat} {x : Int32} {r : Option Nat} (W : cI K κ b h) (t0 : κ a = some (8, m)) (e : h.1 a = some (8, [aR rw, aI x])) (t1 : κ rw = some (117, m)) (b0 : 0 ≤ x.toInt) (b1 : x.toInt < m) (bm : m ≤ 4000) (hr : ∀ t, r = some t → κ t = some (7, 0)) :
    wq (vc lim (d + 2) m_Things_keep [aR a, .inr (.inr r)] h) (rI fun z h' => z = x ∧ cI K κ b h' ∧ h'.1 a = some (8, [aR rw, aI (x + 1)]) ∧ (∃ vs, h.1 rw = some (117, vs) ∧ h'.1 rw = some (117, vs.set x.toNatClampNeg (.inr (.inr r)))) ∧ ∀ q, q ≠ a → q ≠ rw → h'.1 q = h.1 q) := by
  have hne : a ≠ rw := kne t0 t1 rfl
  refine wq_eq e_Things_keep (wk_at W t0 rfl (fun _ => wq_cI (n_Things_isFull W t0 e t1) ?_))
  rintro y h2 ⟨rfl, py⟩
  obtain ⟨vs, ev, ov⟩ := W.1 rw 117 m t1
  have hx : (x + 1).toInt = x.toInt + 1 := ad_i (by show _ ≤ x.toInt + 1; omega) (by show x.toInt + 1 ≤ _; omega)
  refine wq_if _ (fun c1 => ?_) (fun c1 => ?_)
  · refine wq_gR e rfl (wq_gI e rfl ?_)
    have hl : x.toNatClampNeg < vs.length := by rw [ov.1]; exact ix_lt b0 b1
    have W3 := cI_up W t1 (ok_set117 (k := x.toNatClampNeg) hr ov)
    have fin : wq (ah_gI (ah_up h2 rw (117, vs.set x.toNatClampNeg (.inr (.inr r)))) (some a) 8 1 fun i5 => ah_wr (ah_up h2 rw (117, vs.set x.toNatClampNeg (.inr (.inr r)))) (some a) 8 1 (.inl (i5 + (1 : Int32))) fun h6 => ah_gI h6 (some a) 8 1 fun i7 => some (.inl (some (.inl (i7 - (1 : Int32)))), h6)) (rI fun z h' => z = x ∧ cI K κ b h' ∧ h'.1 a = some (8, [aR rw, aI (x + 1)]) ∧ (∃ vs, h2.1 rw = some (117, vs) ∧ h'.1 rw = some (117, vs.set x.toNatClampNeg (.inr (.inr r)))) ∧ ∀ q, q ≠ a → q ≠ rw → h'.1 q = h2.1 q) := by
      refine wq_gI (up_ne hne e) rfl (wq_wr (up_ne hne e) (Nat.le_of_ble_eq_true rfl) (wq_gI up_eq rfl (wq_some (rI_i ⟨?_, ?_, up_eq, ⟨vs, ev, up_ne hne.symm up_eq⟩, ?_⟩))))
      · apply Int32.toInt_inj.mp
        rw [sb_i (by rw [hx]; show _ ≤ x.toInt + 1 - 1; omega) (by rw [hx]; show x.toInt + 1 - 1 ≤ _; omega), hx]
        show x.toInt + 1 - 1 = x.toInt
        omega
      · exact cI_up W3 t0 (i8 t1 (by rw [hx]; omega) (by rw [hx]; omega) bm)
      · intro q h1 h2
        exact up_ne h1 (up_ne h2 rfl)
    cases r with
    | none => exact wq_sN ev (by decide) (ix_ge b0) hl fin
    | some t =>
      obtain ⟨us, eu, -⟩ := W.1 t 7 0 (hr t rfl)
      exact wq_sR ev (by decide) eu rfl (ix_ge b0) hl fin
  · exfalso
    rcases py with ⟨p1, p2⟩ | ⟨p1, p2⟩
    · exact c1 p1
    · omega
/-- what a new signal or variable of these numbers is -/
def thV (i x y : Int32) (nw ls : Nat) : List AV := [aI i, aI (if i = 1 then x else 1), aI (if i = 2 then x else 0), aI (if i = 2 then y else 8), aR nw, aR ls, aI 0, aI 0]
def wsT (m : Nat) : Nat × Nat → Bool := fun v => Nat.beq v.1 1 || ((Nat.beq v.1 8 || Nat.beq v.1 117) && Nat.beq v.2 m)
theorem wsT_1 {m : Nat} : ∀ v : Nat × Nat, [1].contains v.1 = true → wsT m v = true := by
  intro v hv
  have : v.1 = 1 := by simpa using hv
  simp [wsT, this]
/-- a new thing at the end of a row -/
theorem n_newThing {m sg rw : Nat} {cnt i x y : Int32} {Φ : ah_R → Prop} (W : cI K κ h h) (hd : dm κ h) (t0 : κ sg = some (8, m)) (e : h.1 sg = some (8, [aR rw, aI cnt])) (t1 : κ rw = some (117, m)) (b0 : 0 ≤ cnt.toInt) (b1 : cnt.toInt < m) (bm : m ≤ 4000) (hr : h.2.1 + 3 ≤ lim.1 ∧ h.2.2.1 + 22 ≤ lim.2)
    (k : ∀ h' κ' t nw ls vs, AL K (wsT m) 3 22 κ h κ' h' → h'.1 sg = some (8, [aR rw, aI (cnt + 1)]) → h.1 rw = some (117, vs) → h'.1 rw = some (117, vs.set cnt.toNatClampNeg (aR t)) → κ' t = some (7, 0) → h'.1 t = some (7, thV i x y nw ls) → κ' nw = some (1, 0) → κ' ls = some (1, 0) → h.2.1 ≤ t → (∀ q v, κ q = some v → Nat.beq v.1 1 = false → q ≠ sg → q ≠ rw → h'.1 q = h.1 q) → Φ (.inl (some (.inl cnt)), h')) :
    wq (ah_mk lim h (7, [.inl 0, .inl 0, .inl 0, .inl 0, .inr (.inr none), .inr (.inr none), .inl 0, .inl 0]) 8 fun r8 h9 => ah_at h9 r8 7 fun _ _ => ah_cV (vc lim (d + 2) 224 [.inr (.inr r8), .inl i, .inl x, .inl y] h9) (nx h9) fun h10 => ah_at h10 (some sg) 8 fun _ _ => ah_cI (vc lim (d + 2) 230 [aR sg, .inr (.inr r8)] h10) (nx h10) fun i12 h11 => some (.inl (some (.inl i12)), h11)) Φ := by
  have A0 := AL_0 (ws := fun v => Nat.beq v.1 1) W hd
  have w1 : ∀ v : Nat × Nat, [1].contains v.1 = true → (fun v : Nat × Nat => Nat.beq v.1 1) v = true := by
    intro v hv
    have : v.1 = 1 := by simpa using hv
    simp [this]
  refine wq_mk ⟨by omega, by omega⟩ (wq_at nw_eq ?_)
  have A1 := AL_new (o := (7, [.inl 0, .inl 0, .inl 0, .inl 0, .inr (.inr none), .inr (.inr none), .inl 0, .inl 0])) (k := 8) A0
  have n1 : κ h.2.1 = none := dm_none hd (Nat.le_refl _)
  refine wq_cV (n_Thing_init A1 w1 (Nat.le_refl _) (Nat.lt_succ_self _) n1 nw_eq ⟨by show h.2.1 + 1 + 2 ≤ _; omega, by show h.2.2.1 + 8 + 14 ≤ _; omega⟩) ?_
  rintro h10 ⟨κ1, nw, ls, A2, n2, l2, e2, t2, t3, m2⟩
  have m2 : h10.2.1 = h.2.1 + 1 + 2 := m2
  have A3 := AL_ins (a := h.2.1) (kd := 7) (m := 0) A2 (Nat.le_refl _) (by omega) n2 e2 (i7 (ins_le n2 _ _ t2) (ins_le n2 _ _ t3))
  have s3 : ins κ1 h.2.1 (7, 0) sg = some (8, m) := ins_le n2 _ _ (l2 _ _ t0)
  have r3 : ins κ1 h.2.1 (7, 0) rw = some (117, m) := ins_le n2 _ _ (l2 _ _ t1)
  have es : h10.1 sg = some (8, [aR rw, aI cnt]) := (A3.2.2.2.2.1 sg _ t0 rfl).trans e
  have er : h10.1 rw = h.1 rw := A3.2.2.2.2.1 rw _ t1 rfl
  refine wk_at A3.1 s3 rfl (fun _ => wq_cI (n_Things_keep (r := some h.2.1) A3.1 s3 es r3 b0 b1 bm (fun t et => by cases et; exact ins_eq)) ?_)
  rintro z h11 ⟨rfl, W4, e4, ⟨vs, e5, e6⟩, o4⟩
  have A4 := AL_ch (AL_ws A3 (ws' := wsT m) (fun v hv => by have : v.1 = 1 := Nat.eq_of_beq_eq_true hv; simp [wsT, this])) W4 (fun q v h1 h2 => o4 q (fun eq => by
    subst eq
    rw [t0] at h1
    cases h1
    simp [wsT] at h2) (fun eq => by
    subst eq
    rw [t1] at h1
    cases h1
    simp [wsT] at h2))
  have hq7 : h.2.1 ≠ sg := fun eq => by have := hd sg _ t0; omega
  have hq8 : h.2.1 ≠ rw := fun eq => by have := hd rw _ t1; omega
  exact wq_some (k _ _ h.2.1 nw ls vs (AL_le A4 (by omega) (by omega)) e4 (er.symm.trans e5) e6 ins_eq ((o4 _ hq7 hq8).trans e2) (ins_le n2 _ _ t2) (ins_le n2 _ _ t3) (Nat.le_refl _) (fun q v hq hv g1 g2 => (o4 q g1 g2).trans (A3.2.2.2.2.1 q v hq hv)))
/-- how signal ends -/
def sgP (K : Nat) (κ : kM) (m : Nat) (sg rw : Nat) (cnt i x y : Int32) (h : ah_H) : ah_R → Prop := fun z => (¬ cb i x y ∧ z = (.inr (200, h.2.1), ah_new h (200, []) 6)) ∨ (cb i x y ∧ (m : Int) ≤ cnt.toInt ∧ z = (.inr (201, h.2.1), ah_new h (201, []) 6)) ∨ (cb i x y ∧ cnt.toInt < m ∧ ∃ h' κ' t nw ls vs, z = (.inl (some (.inl cnt)), h') ∧ AL K (wsT m) 3 22 κ h κ' h' ∧ h'.1 sg = some (8, [aR rw, aI (cnt + 1)]) ∧ h.1 rw = some (117, vs) ∧ h'.1 rw = some (117, vs.set cnt.toNatClampNeg (aR t)) ∧ κ' t = some (7, 0) ∧ h'.1 t = some (7, thV i x y nw ls) ∧ κ' nw = some (1, 0) ∧ κ' ls = some (1, 0) ∧ h.2.1 ≤ t ∧ (∀ q v, κ q = some v → Nat.beq v.1 1 = false → q ≠ sg → q ≠ rw → h'.1 q = h.1 q))
theorem n_signal {sg rw mk lk un td rn : Nat} {cnt uc nk i x y : Int32} (W : cI K κ h h) (hd : dm κ h) (ex : h.1 a = some (0, [aR sg, aR mk, aR lk, aR un, aI uc, aI nk, aR td, aR rn])) (t0 : κ sg = some (8, 512)) (e : h.1 sg = some (8, [aR rw, aI cnt])) (t1 : κ rw = some (117, 512)) (b0 : 0 ≤ cnt.toInt) (hr : h.2.1 + 3 ≤ lim.1 ∧ h.2.2.1 + 22 ≤ lim.2) : wq (vc lim (d + 3) m_Code_signal [aR a, aI i, aI x, aI y] h) (sgP K κ 512 sg rw cnt i x y h) := by
  have rm0 : rm lim h := ⟨by omega, by omega⟩
  refine wq_eq e_Code_signal (wq_cI (s_Thing_canBe W) ?_)
  rintro z h1 ⟨rfl, hz⟩
  refine wq_if _ (fun c1 => thX rm0 (Or.inl ⟨?_, rfl⟩)) (fun c1 => ?_)
  · rcases hz with ⟨-, p⟩ | ⟨p, -⟩
    · exact p
    · rw [c1] at p; cases p
  have hcb : cb i x y := by
    rcases hz with ⟨p, -⟩ | ⟨-, p⟩
    · exact absurd p c1
    · exact p
  refine wq_gR ex rfl (wk_at W t0 rfl (fun _ => wq_cI (n_Things_isFull W t0 e t1) ?_))
  rintro z2 h2 ⟨rfl, hz2⟩
  refine wq_if _ (fun c2 => ?_) (fun c2 => thX rm0 (Or.inr (Or.inl ⟨hcb, ?_, rfl⟩)))
  · have hlt : cnt.toInt < 512 := by
      rcases hz2 with ⟨-, p⟩ | ⟨p, -⟩
      · exact p
      · rw [c2] at p; cases p
    refine wq_gR ex rfl (n_newThing W hd t0 e t1 b0 hlt (by omega) hr ?_)
    intro h' κ' t nw ls vs g1 g2 g3 g4 g5 g6 g7 g8 g9 g10
    exact Or.inr (Or.inr ⟨hcb, hlt, h', κ', t, nw, ls, vs, rfl, g1, g2, g3, g4, g5, g6, g7, g8, g9, g10⟩)
  · rcases hz2 with ⟨p, -⟩ | ⟨-, p⟩
    · exact absurd p c2
    · exact p
theorem n_variable {sg mk lk un td rn nd vr ht rt rw : Nat} {cnt uc nk rc i x y : Int32} (W : cI K κ h h) (hd : dm κ h) (ex : h.1 a = some (0, [aR sg, aR mk, aR lk, aR un, aI uc, aI nk, aR td, aR rn])) (em : h.1 mk = some (4, [aR nd, aR vr, aR ht, aR rt, aI rc])) (t0 : κ vr = some (8, 128)) (e : h.1 vr = some (8, [aR rw, aI cnt])) (t1 : κ rw = some (117, 128)) (b0 : 0 ≤ cnt.toInt) (hr : h.2.1 + 3 ≤ lim.1 ∧ h.2.2.1 + 22 ≤ lim.2) : wq (vc lim (d + 3) m_Code_variable [aR a, aI i, aI x, aI y] h) (sgP K κ 128 vr rw cnt i x y h) := by
  have rm0 : rm lim h := ⟨by omega, by omega⟩
  refine wq_eq e_Code_variable (wq_cI (s_Thing_canBe W) ?_)
  rintro z h1 ⟨rfl, hz⟩
  refine wq_if _ (fun c1 => thX rm0 (Or.inl ⟨?_, rfl⟩)) (fun c1 => ?_)
  · rcases hz with ⟨-, p⟩ | ⟨p, -⟩
    · exact p
    · rw [c1] at p; cases p
  have hcb : cb i x y := by
    rcases hz with ⟨p, -⟩ | ⟨-, p⟩
    · exact absurd p c1
    · exact p
  refine wq_gR ex rfl (wq_gR em rfl (wk_at W t0 rfl (fun _ => wq_cI (n_Things_isFull W t0 e t1) ?_)))
  rintro z2 h2 ⟨rfl, hz2⟩
  refine wq_if _ (fun c2 => ?_) (fun c2 => thX rm0 (Or.inr (Or.inl ⟨hcb, ?_, rfl⟩)))
  · have hlt : cnt.toInt < 128 := by
      rcases hz2 with ⟨-, p⟩ | ⟨p, -⟩
      · exact p
      · rw [c2] at p; cases p
    refine wq_gR ex rfl (wq_gR em rfl (n_newThing W hd t0 e t1 b0 hlt (by omega) hr ?_))
    intro h' κ' t nw ls vs g1 g2 g3 g4 g5 g6 g7 g8 g9 g10
    exact Or.inr (Or.inr ⟨hcb, hlt, h', κ', t, nw, ls, vs, rfl, g1, g2, g3, g4, g5, g6, g7, g8, g9, g10⟩)
  · rcases hz2 with ⟨p, -⟩ | ⟨-, p⟩
    · exact absurd p c2
    · exact p
end Mk
