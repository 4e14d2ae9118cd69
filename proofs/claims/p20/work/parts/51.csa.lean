/-! CONTRACTS: values, things, nodes, by program (wip/tools/clsgen.py) -/
section CsA
variable {lim : Nat × Nat} {K : Nat} {κ : kM} {b : ah_H}
/-- such a signal or variable can be -/
def cb (i x y : Int32) : Prop := if i = 0 then x = 0 ∧ y = 0 else if i = 1 then ¬ x < 1 ∧ x ≤ 64 ∧ y = 0 else if i = 2 then ¬ x < (-2147483647 : Int32) ∧ ¬ y < (-2147483647 : Int32) ∧ x ≤ y else False
theorem s_Datum_init {d : Nat} {h : ah_H} {v0 : Nat} (W : cI K κ b h) (t0 : κ v0 = some (1, 0)) : wq (vc lim (d + 1) m_Datum_init [.inr (.inr (some v0))] h) (rV fun h' => cI K κ b h' ∧ fk [1] κ h h') := by
  refine wq_eq e_Datum_init ?_
  refine wq_nn ?_
  obtain ⟨i_1, l_1, n_1, bA_1, bB_1, bC_1, bD_1, e_1⟩ := o1 W t0
  refine wk_wr W t0 rfl e_1 (Nat.le_of_ble_eq_true rfl) (i1) ?_
  intro h2 W3 e4 o5
  have G6 := fk_w (ws := [1]) fk_0 t0 o5 rfl
  exact wq_some (rV_i ⟨W3, G6⟩)
theorem s_Datum_hold {d : Nat} {h : ah_H} {v0 : Nat} {v1 : Int32} {v2 : Int32} {v3 : Int64} {v5 : Int64} {v7 : Int64} {v9 : Int64} (W : cI K κ b h) (t0 : κ v0 = some (1, 0)) : wq (vc lim (d + 1) m_Datum_hold [.inr (.inr (some v0)), .inl v1, .inl v2, .inr (.inl v3), .inr (.inl v5), .inr (.inl v7), .inr (.inl v9)] h) (rV fun h' => cI K κ b h' ∧ fk [1] κ h h') := by
  refine wq_eq e_Datum_hold ?_
  obtain ⟨i_1, l_1, n_1, bA_1, bB_1, bC_1, bD_1, e_1⟩ := o1 W t0
  refine wk_wr W t0 rfl e_1 (Nat.le_of_ble_eq_true rfl) (i1) ?_
  intro h2 W3 e4 o5
  have G6 := fk_w (ws := [1]) fk_0 t0 o5 rfl
  refine wk_wr W3 t0 rfl e4 (Nat.le_of_ble_eq_true rfl) (i1) ?_
  intro h7 W8 e9 o10
  have G11 := fk_w (ws := [1]) G6 t0 o10 rfl
  refine wk_wr W8 t0 rfl e9 (Nat.le_of_ble_eq_true rfl) (i1) ?_
  intro h12 W13 e14 o15
  have G16 := fk_w (ws := [1]) G11 t0 o15 rfl
  refine wk_wr W13 t0 rfl e14 (Nat.le_of_ble_eq_true rfl) (i1) ?_
  intro h17 W18 e19 o20
  have G21 := fk_w (ws := [1]) G16 t0 o20 rfl
  refine wk_wr W18 t0 rfl e19 (Nat.le_of_ble_eq_true rfl) (i1) ?_
  intro h22 W23 e24 o25
  have G26 := fk_w (ws := [1]) G21 t0 o25 rfl
  refine wk_wr W23 t0 rfl e24 (Nat.le_of_ble_eq_true rfl) (i1) ?_
  intro h27 W28 e29 o30
  have G31 := fk_w (ws := [1]) G26 t0 o30 rfl
  refine wk_wr W28 t0 rfl e29 (Nat.le_of_ble_eq_true rfl) (i1) ?_
  intro h32 W33 e34 o35
  have G36 := fk_w (ws := [1]) G31 t0 o35 rfl
  exact wq_some (rV_i ⟨W33, G36⟩)
theorem s_Datum_beNumber {d : Nat} {h : ah_H} {v0 : Nat} {v1 : Int64} (W : cI K κ b h) (t0 : κ v0 = some (1, 0)) : wq (vc lim (d + 1) m_Datum_beNumber [.inr (.inr (some v0)), .inr (.inl v1)] h) (rV fun h' => cI K κ b h' ∧ fk [1] κ h h') := by
  refine wq_eq e_Datum_beNumber ?_
  obtain ⟨i_1, l_1, n_1, bA_1, bB_1, bC_1, bD_1, e_1⟩ := o1 W t0
  refine wk_wr W t0 rfl e_1 (Nat.le_of_ble_eq_true rfl) (i1) ?_
  intro h2 W3 e4 o5
  have G6 := fk_w (ws := [1]) fk_0 t0 o5 rfl
  refine wk_wr W3 t0 rfl e4 (Nat.le_of_ble_eq_true rfl) (i1) ?_
  intro h7 W8 e9 o10
  have G11 := fk_w (ws := [1]) G6 t0 o10 rfl
  refine wk_wr W8 t0 rfl e9 (Nat.le_of_ble_eq_true rfl) (i1) ?_
  intro h12 W13 e14 o15
  have G16 := fk_w (ws := [1]) G11 t0 o15 rfl
  refine wk_wr W13 t0 rfl e14 (Nat.le_of_ble_eq_true rfl) (i1) ?_
  intro h17 W18 e19 o20
  have G21 := fk_w (ws := [1]) G16 t0 o20 rfl
  refine wk_wr W18 t0 rfl e19 (Nat.le_of_ble_eq_true rfl) (i1) ?_
  intro h22 W23 e24 o25
  have G26 := fk_w (ws := [1]) G21 t0 o25 rfl
  refine wk_wr W23 t0 rfl e24 (Nat.le_of_ble_eq_true rfl) (i1) ?_
  intro h27 W28 e29 o30
  have G31 := fk_w (ws := [1]) G26 t0 o30 rfl
  refine wk_wr W28 t0 rfl e29 (Nat.le_of_ble_eq_true rfl) (i1) ?_
  intro h32 W33 e34 o35
  have G36 := fk_w (ws := [1]) G31 t0 o35 rfl
  exact wq_some (rV_i ⟨W33, G36⟩)
theorem s_Datum_copy {d : Nat} {h : ah_H} {v0 : Nat} {v1 : Nat} (W : cI K κ b h) (t0 : κ v0 = some (1, 0)) (t1 : κ v1 = some (1, 0)) : wq (vc lim (d + 1) m_Datum_copy [.inr (.inr (some v0)), .inr (.inr (some v1))] h) (rV fun h' => cI K κ b h' ∧ fk [1] κ h h') := by
  refine wq_eq e_Datum_copy ?_
  obtain ⟨i_1, l_1, n_1, bA_1, bB_1, bC_1, bD_1, e_1⟩ := o1 W t1
  refine wq_gI e_1 rfl ?_
  obtain ⟨i_2, l_2, n_2, bA_2, bB_2, bC_2, bD_2, e_2⟩ := o1 W t0
  refine wk_wr W t0 rfl e_2 (Nat.le_of_ble_eq_true rfl) (i1) ?_
  intro h3 W4 e5 o6
  have G7 := fk_w (ws := [1]) fk_0 t0 o6 rfl
  obtain ⟨i_8, l_8, n_8, bA_8, bB_8, bC_8, bD_8, e_8⟩ := o1 W4 t1
  refine wq_gI e_8 rfl ?_
  refine wk_wr W4 t0 rfl e5 (Nat.le_of_ble_eq_true rfl) (i1) ?_
  intro h9 W10 e11 o12
  have G13 := fk_w (ws := [1]) G7 t0 o12 rfl
  obtain ⟨i_14, l_14, n_14, bA_14, bB_14, bC_14, bD_14, e_14⟩ := o1 W10 t1
  refine wq_gJ e_14 rfl ?_
  refine wk_wr W10 t0 rfl e11 (Nat.le_of_ble_eq_true rfl) (i1) ?_
  intro h15 W16 e17 o18
  have G19 := fk_w (ws := [1]) G13 t0 o18 rfl
  obtain ⟨i_20, l_20, n_20, bA_20, bB_20, bC_20, bD_20, e_20⟩ := o1 W16 t1
  refine wq_gJ e_20 rfl ?_
  refine wk_wr W16 t0 rfl e17 (Nat.le_of_ble_eq_true rfl) (i1) ?_
  intro h21 W22 e23 o24
  have G25 := fk_w (ws := [1]) G19 t0 o24 rfl
  obtain ⟨i_26, l_26, n_26, bA_26, bB_26, bC_26, bD_26, e_26⟩ := o1 W22 t1
  refine wq_gJ e_26 rfl ?_
  refine wk_wr W22 t0 rfl e23 (Nat.le_of_ble_eq_true rfl) (i1) ?_
  intro h27 W28 e29 o30
  have G31 := fk_w (ws := [1]) G25 t0 o30 rfl
  obtain ⟨i_32, l_32, n_32, bA_32, bB_32, bC_32, bD_32, e_32⟩ := o1 W28 t1
  refine wq_gJ e_32 rfl ?_
  refine wk_wr W28 t0 rfl e29 (Nat.le_of_ble_eq_true rfl) (i1) ?_
  intro h33 W34 e35 o36
  have G37 := fk_w (ws := [1]) G31 t0 o36 rfl
  obtain ⟨i_38, l_38, n_38, bA_38, bB_38, bC_38, bD_38, e_38⟩ := o1 W34 t1
  refine wq_gJ e_38 rfl ?_
  refine wk_wr W34 t0 rfl e35 (Nat.le_of_ble_eq_true rfl) (i1) ?_
  intro h39 W40 e41 o42
  have G43 := fk_w (ws := [1]) G37 t0 o42 rfl
  exact wq_some (rV_i ⟨W40, G43⟩)
theorem s_Datum_beLogic {d : Nat} {h : ah_H} {v0 : Nat} {v1 : Int32} (W : cI K κ b h) (t0 : κ v0 = some (1, 0)) : wq (vc lim (d + 2) m_Datum_beLogic [.inr (.inr (some v0)), .inl v1] h) (rV fun h' => cI K κ b h' ∧ fk [1] κ h h') := by
  refine wq_eq e_Datum_beLogic ?_
  refine wk_at W t0 rfl (fun _ => ?_)
  refine wq_cV (s_Datum_hold W t0) ?_
  rintro h1 ⟨W2, g3⟩
  have G4 := fk_c (ws := [1]) fk_0 g3 rfl
  exact wq_some (rV_i ⟨W2, G4⟩)
theorem s_Datum_keepPart {d : Nat} {h : ah_H} {v0 : Nat} {v1 : Int32} {v2 : Int32} {v3 : Int32} (W : cI K κ b h) (t0 : κ v0 = some (1, 0)) : wq (vc lim (d + 2) m_Datum_keepPart [.inr (.inr (some v0)), .inl v1, .inl v2, .inl v3] h) (rV fun h' => cI K κ b h' ∧ fk [1] κ h h') := by
  refine wq_eq e_Datum_keepPart ?_
  obtain ⟨i_1, l_1, n_1, bA_1, bB_1, bC_1, bD_1, e_1⟩ := o1 W t0
  refine wq_gJ e_1 rfl ?_
  refine wq_gJ e_1 rfl ?_
  refine wq_gJ e_1 rfl ?_
  refine wq_gJ e_1 rfl ?_
  refine wk_at W t0 rfl (fun _ => ?_)
  refine wq_cV (s_Datum_hold W t0) ?_
  rintro h2 ⟨W3, g4⟩
  have G5 := fk_c (ws := [1]) fk_0 g4 rfl
  exact wq_some (rV_i ⟨W3, G5⟩)
theorem s_Datum_overlay {d : Nat} {h : ah_H} {v0 : Nat} {v1 : Int32} {v2 : Nat} (W : cI K κ b h) (t0 : κ v0 = some (1, 0)) (t2 : κ v2 = some (1, 0)) : wq (vc lim (d + 2) m_Datum_overlay [.inr (.inr (some v0)), .inl v1, .inr (.inr (some v2))] h) (rV fun h' => cI K κ b h' ∧ fk [1] κ h h') := by
  refine wq_eq e_Datum_overlay ?_
  obtain ⟨i_1, l_1, n_1, bA_1, bB_1, bC_1, bD_1, e_1⟩ := o1 W t2
  refine wq_gI e_1 rfl ?_
  obtain ⟨i_2, l_2, n_2, bA_2, bB_2, bC_2, bD_2, e_2⟩ := o1 W t0
  refine wq_gI e_2 rfl ?_
  refine wq_gI e_2 rfl ?_
  refine wq_gJ e_2 rfl ?_
  refine wq_gJ e_1 rfl ?_
  refine wq_gJ e_2 rfl ?_
  refine wq_gJ e_1 rfl ?_
  refine wq_gJ e_2 rfl ?_
  refine wq_gJ e_1 rfl ?_
  refine wq_gJ e_2 rfl ?_
  refine wq_gJ e_1 rfl ?_
  refine wk_at W t0 rfl (fun _ => ?_)
  refine wq_cV (s_Datum_hold W t0) ?_
  rintro h3 ⟨W4, g5⟩
  have G6 := fk_c (ws := [1]) fk_0 g5 rfl
  exact wq_some (rV_i ⟨W4, G6⟩)
theorem s_Datum_change {d : Nat} {h : ah_H} {v0 : Nat} {v1 : Int32} {v2 : Int32} (W : cI K κ b h) (t0 : κ v0 = some (1, 0)) : wq (vc lim (d + 2) m_Datum_change [.inr (.inr (some v0)), .inl v1, .inl v2] h) (rV fun h' => cI K κ b h' ∧ fk [1] κ h h') := by
  refine wq_eq e_Datum_change ?_
  obtain ⟨i_1, l_1, n_1, bA_1, bB_1, bC_1, bD_1, e_1⟩ := o1 W t0
  refine wq_gI e_1 rfl ?_
  refine wq_if _ (fun c2 => ?_) (fun c2 => ?_)
  · refine wk_wr W t0 rfl e_1 (Nat.le_of_ble_eq_true rfl) (i1) ?_
    intro h3 W4 e5 o6
    have G7 := fk_w (ws := [1]) fk_0 t0 o6 rfl
    exact wq_some (rV_i ⟨W4, G7⟩)
  · refine wq_gI e_1 rfl ?_
    refine wq_gI e_1 rfl ?_
    refine wq_gJ e_1 rfl ?_
    refine wq_gJ e_1 rfl ?_
    refine wq_gJ e_1 rfl ?_
    refine wq_gJ e_1 rfl ?_
    refine wk_at W t0 rfl (fun _ => ?_)
    refine wq_cV (s_Datum_hold W t0) ?_
    rintro h8 ⟨W9, g10⟩
    have G11 := fk_c (ws := [1]) fk_0 g10 rfl
    exact wq_some (rV_i ⟨W9, G11⟩)
theorem s_Datum_element {d : Nat} {h : ah_H} {v0 : Nat} {v1 : Int32} (W : cI K κ b h) (t0 : κ v0 = some (1, 0)) : wq (vc lim (d + 1) m_Datum_element [.inr (.inr (some v0)), .inl v1] h) (rI fun x h' => h' = h ∧ True) := by
  refine wq_eq e_Datum_element ?_
  obtain ⟨i_1, l_1, n_1, bA_1, bB_1, bC_1, bD_1, e_1⟩ := o1 W t0
  refine wq_gI e_1 rfl ?_
  refine wq_if _ (fun c2 => ?_) (fun c2 => ?_)
  · refine wq_gJ e_1 rfl ?_
    exact wq_some (rI_i ⟨rfl, trivial⟩)
  · refine wq_gJ e_1 rfl ?_
    refine wq_gJ e_1 rfl ?_
    refine wq_gJ e_1 rfl ?_
    refine wq_gJ e_1 rfl ?_
    exact wq_some (rI_i ⟨rfl, trivial⟩)
theorem s_Datum_zeros {d : Nat} {h : ah_H} {v0 : Nat} (W : cI K κ b h) (t0 : κ v0 = some (1, 0)) : wq (vc lim (d + 1) m_Datum_zeros [.inr (.inr (some v0))] h) (rJ fun x h' => h' = h ∧ True) := by
  refine wq_eq e_Datum_zeros ?_
  obtain ⟨i_1, l_1, n_1, bA_1, bB_1, bC_1, bD_1, e_1⟩ := o1 W t0
  refine wq_gJ e_1 rfl ?_
  refine wq_gJ e_1 rfl ?_
  exact wq_some (rJ_i ⟨rfl, trivial⟩)
theorem s_Datum_ones {d : Nat} {h : ah_H} {v0 : Nat} (W : cI K κ b h) (t0 : κ v0 = some (1, 0)) : wq (vc lim (d + 1) m_Datum_ones [.inr (.inr (some v0))] h) (rJ fun x h' => h' = h ∧ True) := by
  refine wq_eq e_Datum_ones ?_
  obtain ⟨i_1, l_1, n_1, bA_1, bB_1, bC_1, bD_1, e_1⟩ := o1 W t0
  refine wq_gJ e_1 rfl ?_
  refine wq_gJ e_1 rfl ?_
  exact wq_some (rJ_i ⟨rfl, trivial⟩)
theorem s_Datum_unset {d : Nat} {h : ah_H} {v0 : Nat} (W : cI K κ b h) (t0 : κ v0 = some (1, 0)) : wq (vc lim (d + 1) m_Datum_unset [.inr (.inr (some v0))] h) (rJ fun x h' => h' = h ∧ True) := by
  refine wq_eq e_Datum_unset ?_
  obtain ⟨i_1, l_1, n_1, bA_1, bB_1, bC_1, bD_1, e_1⟩ := o1 W t0
  refine wq_gJ e_1 rfl ?_
  refine wq_gJ e_1 rfl ?_
  refine wq_gJ e_1 rfl ?_
  refine wq_gJ e_1 rfl ?_
  refine wq_gI e_1 rfl ?_
  exact wq_some (rJ_i ⟨rfl, trivial⟩)
theorem s_Datum_isClear {d : Nat} {h : ah_H} {v0 : Nat} (W : cI K κ b h) (t0 : κ v0 = some (1, 0)) : wq (vc lim (d + 1) m_Datum_isClear [.inr (.inr (some v0))] h) (rI fun x h' => h' = h ∧ (x = 0 ∨ x = 1)) := by
  refine wq_eq e_Datum_isClear ?_
  obtain ⟨i_1, l_1, n_1, bA_1, bB_1, bC_1, bD_1, e_1⟩ := o1 W t0
  refine wq_gJ e_1 rfl ?_
  refine wq_gI e_1 rfl ?_
  refine wq_if _ (fun c2 => ?_) (fun c2 => ?_)
  · exact wq_t (Or.inr rfl) (wq_some (rI_i ⟨rfl, (Or.inr rfl)⟩))
  · exact wq_t (Or.inl rfl) (wq_some (rI_i ⟨rfl, (Or.inl rfl)⟩))
theorem s_Datum_isSame {d : Nat} {h : ah_H} {v0 : Nat} {v1 : Nat} (W : cI K κ b h) (t0 : κ v0 = some (1, 0)) (t1 : κ v1 = some (1, 0)) : wq (vc lim (d + 1) m_Datum_isSame [.inr (.inr (some v0)), .inr (.inr (some v1))] h) (rI fun x h' => h' = h ∧ (x = 0 ∨ x = 1)) := by
  refine wq_eq e_Datum_isSame ?_
  obtain ⟨i_1, l_1, n_1, bA_1, bB_1, bC_1, bD_1, e_1⟩ := o1 W t0
  refine wq_gJ e_1 rfl ?_
  obtain ⟨i_2, l_2, n_2, bA_2, bB_2, bC_2, bD_2, e_2⟩ := o1 W t1
  refine wq_gJ e_2 rfl ?_
  refine wq_if _ (fun c3 => ?_) (fun c3 => ?_)
  · refine wq_gJ e_1 rfl ?_
    refine wq_gJ e_2 rfl ?_
    refine wq_if _ (fun c4 => ?_) (fun c4 => ?_)
    · refine wq_gJ e_1 rfl ?_
      refine wq_gJ e_2 rfl ?_
      refine wq_if _ (fun c5 => ?_) (fun c5 => ?_)
      · refine wq_gJ e_1 rfl ?_
        refine wq_gJ e_2 rfl ?_
        refine wq_if _ (fun c6 => ?_) (fun c6 => ?_)
        · refine wq_gJ e_1 rfl ?_
          refine wq_gJ e_2 rfl ?_
          refine wq_if _ (fun c7 => ?_) (fun c7 => ?_)
          · exact wq_t (Or.inr rfl) (wq_some (rI_i ⟨rfl, (Or.inr rfl)⟩))
          · exact wq_t (Or.inl rfl) (wq_some (rI_i ⟨rfl, (Or.inl rfl)⟩))
        · exact wq_t (Or.inl rfl) (wq_some (rI_i ⟨rfl, (Or.inl rfl)⟩))
      · exact wq_t (Or.inl rfl) (wq_some (rI_i ⟨rfl, (Or.inl rfl)⟩))
    · exact wq_t (Or.inl rfl) (wq_some (rI_i ⟨rfl, (Or.inl rfl)⟩))
  · exact wq_t (Or.inl rfl) (wq_some (rI_i ⟨rfl, (Or.inl rfl)⟩))
theorem s_Datum_unlike {d : Nat} {h : ah_H} {v0 : Nat} {v1 : Nat} (W : cI K κ b h) (t0 : κ v0 = some (1, 0)) (t1 : κ v1 = some (1, 0)) : wq (vc lim (d + 1) m_Datum_unlike [.inr (.inr (some v0)), .inr (.inr (some v1))] h) (rI fun x h' => h' = h ∧ True) := by
  refine wq_eq e_Datum_unlike ?_
  obtain ⟨i_1, l_1, n_1, bA_1, bB_1, bC_1, bD_1, e_1⟩ := o1 W t0
  refine wq_gI e_1 rfl ?_
  obtain ⟨i_2, l_2, n_2, bA_2, bB_2, bC_2, bD_2, e_2⟩ := o1 W t1
  refine wq_gI e_2 rfl ?_
  refine wq_if _ (fun c3 => ?_) (fun c3 => ?_)
  · refine wq_gI e_1 rfl ?_
    refine wq_gI e_2 rfl ?_
    refine wq_if _ (fun c4 => ?_) (fun c4 => ?_)
    · exact wq_some (rI_i ⟨rfl, trivial⟩)
    · exact wq_some (rI_i ⟨rfl, trivial⟩)
  · exact wq_some (rI_i ⟨rfl, trivial⟩)
theorem s_Thing_canBe {d : Nat} {h : ah_H} {v0 : Int32} {v1 : Int32} {v2 : Int32} (W : cI K κ b h)  : wq (vc lim (d + 1) m_Thing_canBe [.inl v0, .inl v1, .inl v2] h) (rI fun x h' => h' = h ∧ ((x = 0 ∧ ¬ cb v0 v1 v2) ∨ (x = 1 ∧ cb v0 v1 v2))) := by
  refine wq_eq e_Thing_canBe ?_
  refine wq_if _ (fun c1 => ?_) (fun c1 => ?_)
  · refine wq_if _ (fun c2 => ?_) (fun c2 => ?_)
    · refine wq_if _ (fun c3 => ?_) (fun c3 => ?_)
      · exact wq_t (Or.inr rfl) (wq_some (rI_i ⟨rfl, Or.inr ⟨rfl, by simp [cb, c1, c2, c3]⟩⟩))
      · exact wq_t (Or.inl rfl) (wq_some (rI_i ⟨rfl, Or.inl ⟨rfl, by simp [cb, c1, c2, c3]⟩⟩))
    · exact wq_t (Or.inl rfl) (wq_some (rI_i ⟨rfl, Or.inl ⟨rfl, by simp [cb, c1, c2]⟩⟩))
  refine wq_if _ (fun c4 => ?_) (fun c4 => ?_)
  · refine wq_if _ (fun c5 => ?_) (fun c5 => ?_)
    · exact wq_t (Or.inl rfl) (wq_some (rI_i ⟨rfl, Or.inl ⟨rfl, by simp [cb, c1, c4, c5]⟩⟩))
    · refine wq_if _ (fun c6 => ?_) (fun c6 => ?_)
      · refine wq_if _ (fun c7 => ?_) (fun c7 => ?_)
        · exact wq_t (Or.inr rfl) (wq_some (rI_i ⟨rfl, Or.inr ⟨rfl, by simp [cb, c1, c4, c5, c6, c7]⟩⟩))
        · exact wq_t (Or.inl rfl) (wq_some (rI_i ⟨rfl, Or.inl ⟨rfl, by simp [cb, c1, c4, c5, c6, c7]⟩⟩))
      · exact wq_t (Or.inl rfl) (wq_some (rI_i ⟨rfl, Or.inl ⟨rfl, by simp [cb, c1, c4, c5, c6]⟩⟩))
  refine wq_if _ (fun c8 => ?_) (fun c8 => ?_)
  · refine wq_if _ (fun c9 => ?_) (fun c9 => ?_)
    · exact wq_t (Or.inl rfl) (wq_some (rI_i ⟨rfl, Or.inl ⟨rfl, by simp [cb, c1, c4, c8, c9]⟩⟩))
    · refine wq_if _ (fun c10 => ?_) (fun c10 => ?_)
      · exact wq_t (Or.inl rfl) (wq_some (rI_i ⟨rfl, Or.inl ⟨rfl, by simp [cb, c1, c4, c8, c9, c10]⟩⟩))
      · refine wq_if _ (fun c11 => ?_) (fun c11 => ?_)
        · exact wq_t (Or.inr rfl) (wq_some (rI_i ⟨rfl, Or.inr ⟨rfl, by simp [cb, c1, c4, c8, c9, c10, c11]⟩⟩))
        · exact wq_t (Or.inl rfl) (wq_some (rI_i ⟨rfl, Or.inl ⟨rfl, by simp [cb, c1, c4, c8, c9, c10, c11]⟩⟩))
  exact wq_t (Or.inl rfl) (wq_some (rI_i ⟨rfl, Or.inl ⟨rfl, by simp [cb, c1, c4, c8]⟩⟩))
theorem s_Thing_hasElement {d : Nat} {h : ah_H} {v0 : Nat} {v1 : Int32} (W : cI K κ b h) (t0 : κ v0 = some (7, 0)) : wq (vc lim (d + 1) m_Thing_hasElement [.inr (.inr (some v0)), .inl v1] h) (rI fun x h' => h' = h ∧ (x = 0 ∨ x = 1)) := by
  refine wq_eq e_Thing_hasElement ?_
  refine wq_if _ (fun c1 => ?_) (fun c1 => ?_)
  · exact wq_t (Or.inl rfl) (wq_some (rI_i ⟨rfl, (Or.inl rfl)⟩))
  · obtain ⟨i_2, l_2, lo_2, hi_2, nw_2, ls_2, ev_2, ac_2, e_2, tnw_2, tls_2⟩ := o7 W t0
    refine wq_gI e_2 rfl ?_
    refine wq_if _ (fun c3 => ?_) (fun c3 => ?_)
    · exact wq_t (Or.inr rfl) (wq_some (rI_i ⟨rfl, (Or.inr rfl)⟩))
    · exact wq_t (Or.inl rfl) (wq_some (rI_i ⟨rfl, (Or.inl rfl)⟩))
theorem s_Thing_allows {d : Nat} {h : ah_H} {v0 : Nat} {v1 : Int64} (W : cI K κ b h) (t0 : κ v0 = some (7, 0)) : wq (vc lim (d + 1) m_Thing_allows [.inr (.inr (some v0)), .inr (.inl v1)] h) (rI fun x h' => h' = h ∧ (x = 0 ∨ x = 1)) := by
  refine wq_eq e_Thing_allows ?_
  obtain ⟨i_1, l_1, lo_1, hi_1, nw_1, ls_1, ev_1, ac_1, e_1, tnw_1, tls_1⟩ := o7 W t0
  refine wq_gI e_1 rfl ?_
  refine wq_if _ (fun c2 => ?_) (fun c2 => ?_)
  · exact wq_t (Or.inl rfl) (wq_some (rI_i ⟨rfl, (Or.inl rfl)⟩))
  · refine wq_gI e_1 rfl ?_
    refine wq_if _ (fun c3 => ?_) (fun c3 => ?_)
    · exact wq_t (Or.inr rfl) (wq_some (rI_i ⟨rfl, (Or.inr rfl)⟩))
    · exact wq_t (Or.inl rfl) (wq_some (rI_i ⟨rfl, (Or.inl rfl)⟩))
theorem s_Things_pick {d : Nat} {h : ah_H} {n0 : Nat} {v0 : Nat} {v1 : Int32} (W : cI K κ b h) (t0 : κ v0 = some (8, n0)) : wq (vc lim (d + 1) m_Things_pick [.inr (.inr (some v0)), .inl v1] h) (rR fun r h' => h' = h ∧ ∀ t, r = some t → κ t = some (7, 0)) := by
  refine wq_eq e_Things_pick ?_
  refine wq_if _ (fun c1 => ?_) (fun c1 => ?_)
  · exact wq_some (rR_i ⟨rfl, nofun⟩)
  · obtain ⟨rw_2, c_2, e_2, trw_2, b0_2, b1_2, b2_2⟩ := o8 W t0
    refine wq_gI e_2 rfl ?_
    refine wq_if _ (fun c3 => ?_) (fun c3 => ?_)
    · refine wq_gR e_2 rfl ?_
      refine wk_len W trw_2 (by decide) ?_
      intro len4 hl5
      refine wq_if _ (fun c6 => ?_) (fun c6 => ?_)
      · refine wq_gR e_2 rfl ?_
        refine wk_l7 W trw_2 (by have := nlt_i c1; have := lt_i c3; have := lt_i c6; have : (0 : Int32).toInt = 0 := rfl; omega) (by have := nlt_i c1; have := lt_i c3; have := lt_i c6; have : (0 : Int32).toInt = 0 := rfl; omega) (fun v7 t8 => ?_)
        exact wq_some (rR_i ⟨rfl, t8⟩)
      · exact wq_some (rR_i ⟨rfl, nofun⟩)
    · exact wq_some (rR_i ⟨rfl, nofun⟩)
theorem s_Nodes_kindOf {d : Nat} {h : ah_H} {n0 : Nat} {v0 : Nat} {v1 : Int32} (W : cI K κ b h) (t0 : κ v0 = some (5, n0)) : wq (vc lim (d + 1) m_Nodes_kindOf [.inr (.inr (some v0)), .inl v1] h) (rI fun x h' => h' = h ∧ True) := by
  refine wq_eq e_Nodes_kindOf ?_
  refine wq_if _ (fun c1 => ?_) (fun c1 => ?_)
  · exact wq_some (rI_i ⟨rfl, trivial⟩)
  · obtain ⟨aA_2, aB_2, aC_2, aD_2, aE_2, aF_2, aG_2, aH_2, c_2, kt_2, e_2, taA_2, taB_2, taC_2, taD_2, taE_2, taF_2, taG_2, taH_2, b0_2, b1_2, b2_2, b3_2, b4_2⟩ := o5 W t0
    refine wq_gI e_2 rfl ?_
    refine wq_if _ (fun c3 => ?_) (fun c3 => ?_)
    · refine wq_gR e_2 rfl ?_
      refine wk_lI W taA_2 (by have := nlt_i c1; have := lt_i c3; have : (0 : Int32).toInt = 0 := rfl; omega) (by have := nlt_i c1; have := lt_i c3; have : (0 : Int32).toInt = 0 := rfl; omega) (fun v4 => ?_)
      exact wq_some (rI_i ⟨rfl, trivial⟩)
    · exact wq_some (rI_i ⟨rfl, trivial⟩)
theorem s_Nodes_givenOf {d : Nat} {h : ah_H} {n0 : Nat} {v0 : Nat} {v1 : Int32} (W : cI K κ b h) (t0 : κ v0 = some (5, n0)) : wq (vc lim (d + 1) m_Nodes_givenOf [.inr (.inr (some v0)), .inl v1] h) (rI fun x h' => h' = h ∧ True) := by
  refine wq_eq e_Nodes_givenOf ?_
  refine wq_if _ (fun c1 => ?_) (fun c1 => ?_)
  · exact wq_some (rI_i ⟨rfl, trivial⟩)
  · obtain ⟨aA_2, aB_2, aC_2, aD_2, aE_2, aF_2, aG_2, aH_2, c_2, kt_2, e_2, taA_2, taB_2, taC_2, taD_2, taE_2, taF_2, taG_2, taH_2, b0_2, b1_2, b2_2, b3_2, b4_2⟩ := o5 W t0
    refine wq_gI e_2 rfl ?_
    refine wq_if _ (fun c3 => ?_) (fun c3 => ?_)
    · refine wq_gR e_2 rfl ?_
      refine wk_lI W taB_2 (by have := nlt_i c1; have := lt_i c3; have : (0 : Int32).toInt = 0 := rfl; omega) (by have := nlt_i c1; have := lt_i c3; have : (0 : Int32).toInt = 0 := rfl; omega) (fun v4 => ?_)
      exact wq_some (rI_i ⟨rfl, trivial⟩)
    · exact wq_some (rI_i ⟨rfl, trivial⟩)
theorem s_Nodes_startOf {d : Nat} {h : ah_H} {n0 : Nat} {v0 : Nat} {v1 : Int32} (W : cI K κ b h) (t0 : κ v0 = some (5, n0)) : wq (vc lim (d + 1) m_Nodes_startOf [.inr (.inr (some v0)), .inl v1] h) (rI fun x h' => h' = h ∧ True) := by
  refine wq_eq e_Nodes_startOf ?_
  refine wq_if _ (fun c1 => ?_) (fun c1 => ?_)
  · exact wq_some (rI_i ⟨rfl, trivial⟩)
  · obtain ⟨aA_2, aB_2, aC_2, aD_2, aE_2, aF_2, aG_2, aH_2, c_2, kt_2, e_2, taA_2, taB_2, taC_2, taD_2, taE_2, taF_2, taG_2, taH_2, b0_2, b1_2, b2_2, b3_2, b4_2⟩ := o5 W t0
    refine wq_gI e_2 rfl ?_
    refine wq_if _ (fun c3 => ?_) (fun c3 => ?_)
    · refine wq_gR e_2 rfl ?_
      refine wk_lI W taC_2 (by have := nlt_i c1; have := lt_i c3; have : (0 : Int32).toInt = 0 := rfl; omega) (by have := nlt_i c1; have := lt_i c3; have : (0 : Int32).toInt = 0 := rfl; omega) (fun v4 => ?_)
      exact wq_some (rI_i ⟨rfl, trivial⟩)
    · exact wq_some (rI_i ⟨rfl, trivial⟩)
theorem s_Nodes_parentOf {d : Nat} {h : ah_H} {n0 : Nat} {v0 : Nat} {v1 : Int32} (W : cI K κ b h) (t0 : κ v0 = some (5, n0)) : wq (vc lim (d + 1) m_Nodes_parentOf [.inr (.inr (some v0)), .inl v1] h) (rI fun x h' => h' = h ∧ True) := by
  refine wq_eq e_Nodes_parentOf ?_
  refine wq_if _ (fun c1 => ?_) (fun c1 => ?_)
  · exact wq_some (rI_i ⟨rfl, trivial⟩)
  · obtain ⟨aA_2, aB_2, aC_2, aD_2, aE_2, aF_2, aG_2, aH_2, c_2, kt_2, e_2, taA_2, taB_2, taC_2, taD_2, taE_2, taF_2, taG_2, taH_2, b0_2, b1_2, b2_2, b3_2, b4_2⟩ := o5 W t0
    refine wq_gI e_2 rfl ?_
    refine wq_if _ (fun c3 => ?_) (fun c3 => ?_)
    · refine wq_gR e_2 rfl ?_
      refine wk_lI W taD_2 (by have := nlt_i c1; have := lt_i c3; have : (0 : Int32).toInt = 0 := rfl; omega) (by have := nlt_i c1; have := lt_i c3; have : (0 : Int32).toInt = 0 := rfl; omega) (fun v4 => ?_)
      exact wq_some (rI_i ⟨rfl, trivial⟩)
    · exact wq_some (rI_i ⟨rfl, trivial⟩)
theorem s_Nodes_placeOf {d : Nat} {h : ah_H} {n0 : Nat} {v0 : Nat} {v1 : Int32} (W : cI K κ b h) (t0 : κ v0 = some (5, n0)) : wq (vc lim (d + 1) m_Nodes_placeOf [.inr (.inr (some v0)), .inl v1] h) (rI fun x h' => h' = h ∧ True) := by
  refine wq_eq e_Nodes_placeOf ?_
  refine wq_if _ (fun c1 => ?_) (fun c1 => ?_)
  · exact wq_some (rI_i ⟨rfl, trivial⟩)
  · obtain ⟨aA_2, aB_2, aC_2, aD_2, aE_2, aF_2, aG_2, aH_2, c_2, kt_2, e_2, taA_2, taB_2, taC_2, taD_2, taE_2, taF_2, taG_2, taH_2, b0_2, b1_2, b2_2, b3_2, b4_2⟩ := o5 W t0
    refine wq_gI e_2 rfl ?_
    refine wq_if _ (fun c3 => ?_) (fun c3 => ?_)
    · refine wq_gR e_2 rfl ?_
      refine wk_lI W taE_2 (by have := nlt_i c1; have := lt_i c3; have : (0 : Int32).toInt = 0 := rfl; omega) (by have := nlt_i c1; have := lt_i c3; have : (0 : Int32).toInt = 0 := rfl; omega) (fun v4 => ?_)
      exact wq_some (rI_i ⟨rfl, trivial⟩)
    · exact wq_some (rI_i ⟨rfl, trivial⟩)
theorem s_Nodes_kidsOf {d : Nat} {h : ah_H} {n0 : Nat} {v0 : Nat} {v1 : Int32} (W : cI K κ b h) (t0 : κ v0 = some (5, n0)) : wq (vc lim (d + 1) m_Nodes_kidsOf [.inr (.inr (some v0)), .inl v1] h) (rI fun x h' => h' = h ∧ True) := by
  refine wq_eq e_Nodes_kidsOf ?_
  refine wq_if _ (fun c1 => ?_) (fun c1 => ?_)
  · exact wq_some (rI_i ⟨rfl, trivial⟩)
  · obtain ⟨aA_2, aB_2, aC_2, aD_2, aE_2, aF_2, aG_2, aH_2, c_2, kt_2, e_2, taA_2, taB_2, taC_2, taD_2, taE_2, taF_2, taG_2, taH_2, b0_2, b1_2, b2_2, b3_2, b4_2⟩ := o5 W t0
    refine wq_gI e_2 rfl ?_
    refine wq_if _ (fun c3 => ?_) (fun c3 => ?_)
    · refine wq_gR e_2 rfl ?_
      refine wk_lI W taG_2 (by have := nlt_i c1; have := lt_i c3; have : (0 : Int32).toInt = 0 := rfl; omega) (by have := nlt_i c1; have := lt_i c3; have : (0 : Int32).toInt = 0 := rfl; omega) (fun v4 => ?_)
      exact wq_some (rI_i ⟨rfl, trivial⟩)
    · exact wq_some (rI_i ⟨rfl, trivial⟩)
theorem s_Nodes_kid {d : Nat} {h : ah_H} {n0 : Nat} {v0 : Nat} {v1 : Int32} {v2 : Int32} (W : cI K κ b h) (t0 : κ v0 = some (5, n0)) : wq (vc lim (d + 1) m_Nodes_kid [.inr (.inr (some v0)), .inl v1, .inl v2] h) (rI fun x h' => h' = h ∧ True) := by
  refine wq_eq e_Nodes_kid ?_
  refine wq_if _ (fun c1 => ?_) (fun c1 => ?_)
  · exact wq_some (rI_i ⟨rfl, trivial⟩)
  · obtain ⟨aA_2, aB_2, aC_2, aD_2, aE_2, aF_2, aG_2, aH_2, c_2, kt_2, e_2, taA_2, taB_2, taC_2, taD_2, taE_2, taF_2, taG_2, taH_2, b0_2, b1_2, b2_2, b3_2, b4_2⟩ := o5 W t0
    refine wq_gI e_2 rfl ?_
    refine wq_if _ (fun c3 => ?_) (fun c3 => ?_)
    · refine wq_if _ (fun c4 => ?_) (fun c4 => ?_)
      · exact wq_some (rI_i ⟨rfl, trivial⟩)
      · refine wq_gR e_2 rfl ?_
        refine wk_lI W taG_2 (by have := nlt_i c1; have := lt_i c3; have := nlt_i c4; have : (0 : Int32).toInt = 0 := rfl; omega) (by have := nlt_i c1; have := lt_i c3; have := nlt_i c4; have : (0 : Int32).toInt = 0 := rfl; omega) (fun v5 => ?_)
        refine wq_if _ (fun c6 => ?_) (fun c6 => ?_)
        · refine wq_gR e_2 rfl ?_
          refine wk_lI W taF_2 (by have := nlt_i c1; have := lt_i c3; have := nlt_i c4; have := lt_i c6; have : (0 : Int32).toInt = 0 := rfl; omega) (by have := nlt_i c1; have := lt_i c3; have := nlt_i c4; have := lt_i c6; have : (0 : Int32).toInt = 0 := rfl; omega) (fun v7 => ?_)
          refine wq_if _ (fun c8 => ?_) (fun c8 => ?_)
          · exact wq_some (rI_i ⟨rfl, trivial⟩)
          · refine wq_gR e_2 rfl ?_
            refine wk_len W taH_2 (by decide) ?_
            intro len9 hl10
            refine wq_if _ (fun c11 => ?_) (fun c11 => ?_)
            · refine wq_gR e_2 rfl ?_
              refine wk_lI W taH_2 (by have := nlt_i c1; have := lt_i c3; have := nlt_i c4; have := lt_i c6; have := nlt_i c8; have := lt_i c11; have : (0 : Int32).toInt = 0 := rfl; have := bd_i c_2; have := bd_i len9; have := bd_i v1; have := bd_i v2; have := bd_i v5; have := bd_i v7; omega) (by have := nlt_i c1; have := lt_i c3; have := nlt_i c4; have := lt_i c6; have := nlt_i c8; have := lt_i c11; have : (0 : Int32).toInt = 0 := rfl; have := bd_i c_2; have := bd_i len9; have := bd_i v1; have := bd_i v2; have := bd_i v5; have := bd_i v7; omega) (fun v12 => ?_)
              exact wq_some (rI_i ⟨rfl, trivial⟩)
            · exact wq_some (rI_i ⟨rfl, trivial⟩)
        · exact wq_some (rI_i ⟨rfl, trivial⟩)
    · exact wq_some (rI_i ⟨rfl, trivial⟩)
theorem s_Nodes_isLoop {d : Nat} {h : ah_H} {n0 : Nat} {v0 : Nat} {v1 : Int32} (W : cI K κ b h) (t0 : κ v0 = some (5, n0)) : wq (vc lim (d + 2) m_Nodes_isLoop [.inr (.inr (some v0)), .inl v1] h) (rI fun x h' => h' = h ∧ (x = 0 ∨ x = 1)) := by
  refine wq_eq e_Nodes_isLoop ?_
  refine wk_at W t0 rfl (fun _ => ?_)
  refine wq_cI (s_Nodes_kindOf W t0) ?_
  rintro y3 h1 ⟨rfl, p4⟩
  refine wq_if _ (fun c5 => ?_) (fun c5 => ?_)
  · exact wq_t (Or.inl rfl) (wq_some (rI_i ⟨rfl, (Or.inl rfl)⟩))
  · refine wq_if _ (fun c6 => ?_) (fun c6 => ?_)
    · exact wq_t (Or.inr rfl) (wq_some (rI_i ⟨rfl, (Or.inr rfl)⟩))
    · exact wq_t (Or.inl rfl) (wq_some (rI_i ⟨rfl, (Or.inl rfl)⟩))
theorem s_Maker_heightOf {d : Nat} {h : ah_H} {v0 : Nat} {v1 : Int32} (W : cI K κ b h) (t0 : κ v0 = some (4, 0)) : wq (vc lim (d + 1) m_Maker_heightOf [.inr (.inr (some v0)), .inl v1] h) (rI fun x h' => h' = h ∧ True) := by
  refine wq_eq e_Maker_heightOf ?_
  refine wq_if _ (fun c1 => ?_) (fun c1 => ?_)
  · exact wq_some (rI_i ⟨rfl, trivial⟩)
  · obtain ⟨nd_2, vr_2, ht_2, rt_2, rc_2, e_2, tnd_2, tvr_2, tht_2, trt_2, b0_2, b1_2⟩ := o4 W t0
    refine wq_gR e_2 rfl ?_
    refine wk_len W tht_2 (by decide) ?_
    intro len3 hl4
    refine wq_if _ (fun c5 => ?_) (fun c5 => ?_)
    · refine wq_gR e_2 rfl ?_
      refine wk_lI W tht_2 (by have := nlt_i c1; have := lt_i c5; have : (0 : Int32).toInt = 0 := rfl; omega) (by have := nlt_i c1; have := lt_i c5; have : (0 : Int32).toInt = 0 := rfl; omega) (fun v6 => ?_)
      exact wq_some (rI_i ⟨rfl, trivial⟩)
    · exact wq_some (rI_i ⟨rfl, trivial⟩)
theorem s_Unit_countStep {d : Nat} {h : ah_H} {n0 : Nat} {v0 : Nat} (W : cI K κ b h) (t0 : κ v0 = some (10, n0)) : wq (vc lim (d + 1) m_Unit_countStep [.inr (.inr (some v0))] h) (rV fun h' => cI K κ b h' ∧ fk [10] κ h h') := by
  refine wq_eq e_Unit_countStep ?_
  obtain ⟨nd_1, nn_1, vr_1, vn_1, s2_1, s3_1, s4_1, s5_1, s6_1, s7_1, s8_1, w9_1, nx_1, en_1, e_1, tnd_1, tvr_1, tnx_1, ten_1⟩ := o10 W t0
  refine wq_gI e_1 rfl ?_
  refine wq_if _ (fun c2 => ?_) (fun c2 => ?_)
  · refine wq_gI e_1 rfl ?_
    refine wk_wr W t0 rfl e_1 (Nat.le_of_ble_eq_true rfl) (i10 tnd_1 tvr_1 tnx_1 ten_1) ?_
    intro h3 W4 e5 o6
    have G7 := fk_w (ws := [10]) fk_0 t0 o6 rfl
    exact wq_some (rV_i ⟨W4, G7⟩)
  · exact wq_some (rV_i ⟨W, fk_0⟩)
theorem s_Unit_goToLook {d : Nat} {h : ah_H} {n0 : Nat} {v0 : Nat} {v1 : Int32} (W : cI K κ b h) (t0 : κ v0 = some (10, n0)) : wq (vc lim (d + 1) m_Unit_goToLook [.inr (.inr (some v0)), .inl v1] h) (rI fun x h' => cI K κ b h' ∧ fk [10] κ h h' ∧ (x = 0 ∨ x = 1)) := by
  refine wq_eq e_Unit_goToLook ?_
  obtain ⟨nd_1, nn_1, vr_1, vn_1, s2_1, s3_1, s4_1, s5_1, s6_1, s7_1, s8_1, w9_1, nx_1, en_1, e_1, tnd_1, tvr_1, tnx_1, ten_1⟩ := o10 W t0
  refine wk_wr W t0 rfl e_1 (Nat.le_of_ble_eq_true rfl) (i10 tnd_1 tvr_1 tnx_1 ten_1) ?_
  intro h2 W3 e4 o5
  have G6 := fk_w (ws := [10]) fk_0 t0 o5 rfl
  refine wk_wr W3 t0 rfl e4 (Nat.le_of_ble_eq_true rfl) (i10 tnd_1 tvr_1 tnx_1 ten_1) ?_
  intro h7 W8 e9 o10
  have G11 := fk_w (ws := [10]) G6 t0 o10 rfl
  exact wq_t (Or.inr rfl) (wq_some (rI_i ⟨W8, G11, (Or.inr rfl)⟩))
theorem s_Unit_leaveWait {d : Nat} {h : ah_H} {n0 : Nat} {v0 : Nat} (W : cI K κ b h) (t0 : κ v0 = some (10, n0)) : wq (vc lim (d + 1) m_Unit_leaveWait [.inr (.inr (some v0))] h) (rV fun h' => cI K κ b h' ∧ fk [10] κ h h') := by
  refine wq_eq e_Unit_leaveWait ?_
  obtain ⟨nd_1, nn_1, vr_1, vn_1, s2_1, s3_1, s4_1, s5_1, s6_1, s7_1, s8_1, w9_1, nx_1, en_1, e_1, tnd_1, tvr_1, tnx_1, ten_1⟩ := o10 W t0
  refine wk_wr W t0 rfl e_1 (Nat.le_of_ble_eq_true rfl) (i10 tnd_1 tvr_1 tnx_1 ten_1) ?_
  intro h2 W3 e4 o5
  have G6 := fk_w (ws := [10]) fk_0 t0 o5 rfl
  refine wk_wr W3 t0 rfl e4 (Nat.le_of_ble_eq_true rfl) (i10 tnd_1 tvr_1 tnx_1 ten_1) ?_
  intro h7 W8 e9 o10
  have G11 := fk_w (ws := [10]) G6 t0 o10 rfl
  exact wq_some (rV_i ⟨W8, G11⟩)
theorem s_Unit_fail {d : Nat} {h : ah_H} {n0 : Nat} {v0 : Nat} {v1 : Int32} {v2 : Int32} (W : cI K κ b h) (t0 : κ v0 = some (10, n0)) : wq (vc lim (d + 2) m_Unit_fail [.inr (.inr (some v0)), .inl v1, .inl v2] h) (rI fun x h' => cI K κ b h' ∧ fk [10] κ h h' ∧ (x = 0 ∨ x = 1)) := by
  refine wq_eq e_Unit_fail ?_
  refine wk_at W t0 rfl (fun _ => ?_)
  refine wq_cV (s_Unit_leaveWait W t0) ?_
  rintro h1 ⟨W2, g3⟩
  have G4 := fk_c (ws := [10]) fk_0 g3 rfl
  obtain ⟨nd_5, nn_5, vr_5, vn_5, s2_5, s3_5, s4_5, s5_5, s6_5, s7_5, s8_5, w9_5, nx_5, en_5, e_5, tnd_5, tvr_5, tnx_5, ten_5⟩ := o10 W2 t0
  refine wk_wr W2 t0 rfl e_5 (Nat.le_of_ble_eq_true rfl) (i10 tnd_5 tvr_5 tnx_5 ten_5) ?_
  intro h6 W7 e8 o9
  have G10 := fk_w (ws := [10]) G4 t0 o9 rfl
  refine wk_wr W7 t0 rfl e8 (Nat.le_of_ble_eq_true rfl) (i10 tnd_5 tvr_5 tnx_5 ten_5) ?_
  intro h11 W12 e13 o14
  have G15 := fk_w (ws := [10]) G10 t0 o14 rfl
  refine wk_wr W12 t0 rfl e13 (Nat.le_of_ble_eq_true rfl) (i10 tnd_5 tvr_5 tnx_5 ten_5) ?_
  intro h16 W17 e18 o19
  have G20 := fk_w (ws := [10]) G15 t0 o19 rfl
  exact wq_t (Or.inl rfl) (wq_some (rI_i ⟨W17, G20, (Or.inl rfl)⟩))
theorem s_Unit_beginCount {d : Nat} {h : ah_H} {n0 : Nat} {v0 : Nat} {v1 : Int32} {v2 : Int64} {v4 : Int64} (W : cI K κ b h) (t0 : κ v0 = some (10, n0)) : wq (vc lim (d + 1) m_Unit_beginCount [.inr (.inr (some v0)), .inl v1, .inr (.inl v2), .inr (.inl v4)] h) (rV fun h' => cI K κ b h' ∧ fk [101] κ h h') := by
  refine wq_eq e_Unit_beginCount ?_
  refine wq_if _ (fun c1 => ?_) (fun c1 => ?_)
  · exact wq_some (rV_i ⟨W, fk_0⟩)
  · obtain ⟨nd_2, nn_2, vr_2, vn_2, s2_2, s3_2, s4_2, s5_2, s6_2, s7_2, s8_2, w9_2, nx_2, en_2, e_2, tnd_2, tvr_2, tnx_2, ten_2⟩ := o10 W t0
    refine wq_gR e_2 rfl ?_
    refine wk_len W tnx_2 (by decide) ?_
    intro len3 hl4
    refine wq_if _ (fun c5 => ?_) (fun c5 => ?_)
    · refine wq_gR e_2 rfl ?_
      refine wk_sJ W tnx_2 (by have := nlt_i c1; have := lt_i c5; have : (0 : Int32).toInt = 0 := rfl; omega) (by have := nlt_i c1; have := lt_i c5; have : (0 : Int32).toInt = 0 := rfl; omega) ?_
      intro h6 W7 o8
      have G9 := fk_w (ws := [101]) fk_0 tnx_2 o8 rfl
      have e10 := (o8 _ (kne t0 tnx_2 rfl)).trans e_2
      refine wq_gR e10 rfl ?_
      refine wk_sJ W7 ten_2 (by have := nlt_i c1; have := lt_i c5; have : (0 : Int32).toInt = 0 := rfl; omega) (by have := nlt_i c1; have := lt_i c5; have : (0 : Int32).toInt = 0 := rfl; omega) ?_
      intro h11 W12 o13
      have G14 := fk_w (ws := [101]) G9 ten_2 o13 rfl
      have e15 := (o13 _ (kne t0 ten_2 rfl)).trans e10
      exact wq_some (rV_i ⟨W12, G14⟩)
    · exact wq_some (rV_i ⟨W, fk_0⟩)
theorem s_Unit_isCountOver {d : Nat} {h : ah_H} {n0 : Nat} {v0 : Nat} {v1 : Int32} (W : cI K κ b h) (t0 : κ v0 = some (10, n0)) : wq (vc lim (d + 2) m_Unit_isCountOver [.inr (.inr (some v0)), .inl v1] h) (rI fun x h' => h' = h ∧ (x = 0 ∨ x = 1)) := by
  refine wq_eq e_Unit_isCountOver ?_
  refine wq_if _ (fun c1 => ?_) (fun c1 => ?_)
  · exact wq_t (Or.inr rfl) (wq_some (rI_i ⟨rfl, (Or.inr rfl)⟩))
  · obtain ⟨nd_2, nn_2, vr_2, vn_2, s2_2, s3_2, s4_2, s5_2, s6_2, s7_2, s8_2, w9_2, nx_2, en_2, e_2, tnd_2, tvr_2, tnx_2, ten_2⟩ := o10 W t0
    refine wq_gR e_2 rfl ?_
    refine wk_len W tnx_2 (by decide) ?_
    intro len3 hl4
    refine wq_if _ (fun c5 => ?_) (fun c5 => ?_)
    · refine wq_gR e_2 rfl ?_
      refine wk_at W tnd_2 rfl (fun _ => ?_)
      refine wq_cI (s_Nodes_kindOf W tnd_2) ?_
      rintro y8 h6 ⟨rfl, p9⟩
      refine wq_if _ (fun c10 => ?_) (fun c10 => ?_)
      · refine wq_gR e_2 rfl ?_
        refine wk_lJ W tnx_2 (by have := nlt_i c1; have := lt_i c5; have := congrArg Int32.toInt c10; have : (0 : Int32).toInt = 0 := rfl; have : (38 : Int32).toInt = 38 := rfl; omega) (by have := nlt_i c1; have := lt_i c5; have := congrArg Int32.toInt c10; have : (0 : Int32).toInt = 0 := rfl; have : (38 : Int32).toInt = 38 := rfl; omega) (fun v11 => ?_)
        refine wq_gR e_2 rfl ?_
        refine wk_lJ W ten_2 (by have := nlt_i c1; have := lt_i c5; have := congrArg Int32.toInt c10; have : (0 : Int32).toInt = 0 := rfl; have : (38 : Int32).toInt = 38 := rfl; omega) (by have := nlt_i c1; have := lt_i c5; have := congrArg Int32.toInt c10; have : (0 : Int32).toInt = 0 := rfl; have : (38 : Int32).toInt = 38 := rfl; omega) (fun v12 => ?_)
        refine wq_if _ (fun c13 => ?_) (fun c13 => ?_)
        · exact wq_t (Or.inl rfl) (wq_some (rI_i ⟨rfl, (Or.inl rfl)⟩))
        · exact wq_t (Or.inr rfl) (wq_some (rI_i ⟨rfl, (Or.inr rfl)⟩))
      · refine wq_gR e_2 rfl ?_
        refine wk_lJ W tnx_2 (by have := nlt_i c1; have := lt_i c5; have := ne_i c10; have : (0 : Int32).toInt = 0 := rfl; have : (38 : Int32).toInt = 38 := rfl; omega) (by have := nlt_i c1; have := lt_i c5; have := ne_i c10; have : (0 : Int32).toInt = 0 := rfl; have : (38 : Int32).toInt = 38 := rfl; omega) (fun v14 => ?_)
        refine wq_gR e_2 rfl ?_
        refine wk_lJ W ten_2 (by have := nlt_i c1; have := lt_i c5; have := ne_i c10; have : (0 : Int32).toInt = 0 := rfl; have : (38 : Int32).toInt = 38 := rfl; omega) (by have := nlt_i c1; have := lt_i c5; have := ne_i c10; have : (0 : Int32).toInt = 0 := rfl; have : (38 : Int32).toInt = 38 := rfl; omega) (fun v15 => ?_)
        refine wq_if _ (fun c16 => ?_) (fun c16 => ?_)
        · exact wq_t (Or.inr rfl) (wq_some (rI_i ⟨rfl, (Or.inr rfl)⟩))
        · exact wq_t (Or.inl rfl) (wq_some (rI_i ⟨rfl, (Or.inl rfl)⟩))
    · exact wq_t (Or.inr rfl) (wq_some (rI_i ⟨rfl, (Or.inr rfl)⟩))
theorem s_Unit_countOn {d : Nat} {h : ah_H} {n0 : Nat} {v0 : Nat} {v1 : Int32} (W : cI K κ b h) (t0 : κ v0 = some (10, n0)) : wq (vc lim (d + 2) m_Unit_countOn [.inr (.inr (some v0)), .inl v1] h) (rJ fun x h' => cI K κ b h' ∧ fk [101] κ h h' ∧ True) := by
  refine wq_eq e_Unit_countOn ?_
  refine wq_if _ (fun c1 => ?_) (fun c1 => ?_)
  · exact wq_some (rJ_i ⟨W, fk_0, trivial⟩)
  · obtain ⟨nd_2, nn_2, vr_2, vn_2, s2_2, s3_2, s4_2, s5_2, s6_2, s7_2, s8_2, w9_2, nx_2, en_2, e_2, tnd_2, tvr_2, tnx_2, ten_2⟩ := o10 W t0
    refine wq_gR e_2 rfl ?_
    refine wk_len W tnx_2 (by decide) ?_
    intro len3 hl4
    refine wq_if _ (fun c5 => ?_) (fun c5 => ?_)
    · refine wq_gR e_2 rfl ?_
      refine wk_lJ W tnx_2 (by have := nlt_i c1; have := lt_i c5; have : (0 : Int32).toInt = 0 := rfl; omega) (by have := nlt_i c1; have := lt_i c5; have : (0 : Int32).toInt = 0 := rfl; omega) (fun v6 => ?_)
      refine wq_gR e_2 rfl ?_
      refine wq_gR e_2 rfl ?_
      refine wk_at W tnd_2 rfl (fun _ => ?_)
      refine wq_cI (s_Nodes_kindOf W tnd_2) ?_
      rintro y9 h7 ⟨rfl, p10⟩
      refine wq_if _ (fun c11 => ?_) (fun c11 => ?_)
      · refine wk_sJ W tnx_2 (by have := nlt_i c1; have := lt_i c5; have := congrArg Int32.toInt c11; have : (0 : Int32).toInt = 0 := rfl; have : (38 : Int32).toInt = 38 := rfl; omega) (by have := nlt_i c1; have := lt_i c5; have := congrArg Int32.toInt c11; have : (0 : Int32).toInt = 0 := rfl; have : (38 : Int32).toInt = 38 := rfl; omega) ?_
        intro h12 W13 o14
        have G15 := fk_w (ws := [101]) fk_0 tnx_2 o14 rfl
        have e16 := (o14 _ (kne t0 tnx_2 rfl)).trans e_2
        exact wq_some (rJ_i ⟨W13, G15, trivial⟩)
      · refine wk_sJ W tnx_2 (by have := nlt_i c1; have := lt_i c5; have := ne_i c11; have : (0 : Int32).toInt = 0 := rfl; have : (38 : Int32).toInt = 38 := rfl; omega) (by have := nlt_i c1; have := lt_i c5; have := ne_i c11; have : (0 : Int32).toInt = 0 := rfl; have : (38 : Int32).toInt = 38 := rfl; omega) ?_
        intro h17 W18 o19
        have G20 := fk_w (ws := [101]) fk_0 tnx_2 o19 rfl
        have e21 := (o19 _ (kne t0 tnx_2 rfl)).trans e_2
        exact wq_some (rJ_i ⟨W18, G20, trivial⟩)
    · exact wq_some (rJ_i ⟨W, fk_0, trivial⟩)
theorem s_Unit_signalsWaitedFor {d : Nat} {h : ah_H} {n0 : Nat} {v0 : Nat} (W : cI K κ b h) (t0 : κ v0 = some (10, n0)) : wq (vc lim (d + 2) m_Unit_signalsWaitedFor [.inr (.inr (some v0))] h) (rI fun x h' => h' = h ∧ True) := by
  refine wq_eq e_Unit_signalsWaitedFor ?_
  obtain ⟨nd_1, nn_1, vr_1, vn_1, s2_1, s3_1, s4_1, s5_1, s6_1, s7_1, s8_1, w9_1, nx_1, en_1, e_1, tnd_1, tvr_1, tnx_1, ten_1⟩ := o10 W t0
  refine wq_gR e_1 rfl ?_
  refine wq_gR e_1 rfl ?_
  refine wq_gI e_1 rfl ?_
  refine wk_at W tnd_1 rfl (fun _ => ?_)
  refine wq_cI (s_Nodes_kid W tnd_1) ?_
  rintro y4 h2 ⟨rfl, p5⟩
  refine wk_at W tnd_1 rfl (fun _ => ?_)
  refine wq_cI (s_Nodes_kidsOf W tnd_1) ?_
  rintro y8 h6 ⟨rfl, p9⟩
  exact wq_some (rI_i ⟨rfl, trivial⟩)
theorem s_Unit_signalWaitedFor {d : Nat} {h : ah_H} {n0 : Nat} {v0 : Nat} {v1 : Int32} (W : cI K κ b h) (t0 : κ v0 = some (10, n0)) : wq (vc lim (d + 2) m_Unit_signalWaitedFor [.inr (.inr (some v0)), .inl v1] h) (rI fun x h' => h' = h ∧ True) := by
  refine wq_eq e_Unit_signalWaitedFor ?_
  obtain ⟨nd_1, nn_1, vr_1, vn_1, s2_1, s3_1, s4_1, s5_1, s6_1, s7_1, s8_1, w9_1, nx_1, en_1, e_1, tnd_1, tvr_1, tnx_1, ten_1⟩ := o10 W t0
  refine wq_gR e_1 rfl ?_
  refine wq_gR e_1 rfl ?_
  refine wq_gR e_1 rfl ?_
  refine wq_gI e_1 rfl ?_
  refine wk_at W tnd_1 rfl (fun _ => ?_)
  refine wq_cI (s_Nodes_kid W tnd_1) ?_
  rintro y4 h2 ⟨rfl, p5⟩
  refine wk_at W tnd_1 rfl (fun _ => ?_)
  refine wq_cI (s_Nodes_kid W tnd_1) ?_
  rintro y8 h6 ⟨rfl, p9⟩
  refine wk_at W tnd_1 rfl (fun _ => ?_)
  refine wq_cI (s_Nodes_givenOf W tnd_1) ?_
  rintro y12 h10 ⟨rfl, p13⟩
  exact wq_some (rI_i ⟨rfl, trivial⟩)
theorem s_Unit_waitsForExpression {d : Nat} {h : ah_H} {n0 : Nat} {v0 : Nat} (W : cI K κ b h) (t0 : κ v0 = some (10, n0)) : wq (vc lim (d + 2) m_Unit_waitsForExpression [.inr (.inr (some v0))] h) (rI fun x h' => h' = h ∧ (x = 0 ∨ x = 1)) := by
  refine wq_eq e_Unit_waitsForExpression ?_
  obtain ⟨nd_1, nn_1, vr_1, vn_1, s2_1, s3_1, s4_1, s5_1, s6_1, s7_1, s8_1, w9_1, nx_1, en_1, e_1, tnd_1, tvr_1, tnx_1, ten_1⟩ := o10 W t0
  refine wq_gI e_1 rfl ?_
  refine wq_if _ (fun c2 => ?_) (fun c2 => ?_)
  · exact wq_t (Or.inl rfl) (wq_some (rI_i ⟨rfl, (Or.inl rfl)⟩))
  · refine wq_gR e_1 rfl ?_
    refine wq_gR e_1 rfl ?_
    refine wq_gI e_1 rfl ?_
    refine wk_at W tnd_1 rfl (fun _ => ?_)
    refine wq_cI (s_Nodes_kid W tnd_1) ?_
    rintro y5 h3 ⟨rfl, p6⟩
    refine wk_at W tnd_1 rfl (fun _ => ?_)
    refine wq_cI (s_Nodes_kindOf W tnd_1) ?_
    rintro y9 h7 ⟨rfl, p10⟩
    refine wq_if _ (fun c11 => ?_) (fun c11 => ?_)
    · exact wq_t (Or.inl rfl) (wq_some (rI_i ⟨rfl, (Or.inl rfl)⟩))
    · exact wq_t (Or.inr rfl) (wq_some (rI_i ⟨rfl, (Or.inr rfl)⟩))
end CsA
