/-! CONTRACTS: what is told, by program (wip/tools/clsgen.py) -/
section CsB
variable {lim : Nat × Nat} {K : Nat} {κ : kM} {b : ah_H}
theorem s_Told_has {d : Nat} {h : ah_H} {v0 : Nat} {v1 : Int32} (W : cI K κ b h) (t0 : κ v0 = some (9, 0)) : wq (vc lim (d + 1) m_Told_has [.inr (.inr (some v0)), .inl v1] h) (rI fun x h' => h' = h ∧ ((x = 0 ∨ x = 1) ∧ (x = 1 → 0 ≤ v1.toInt ∧ v1.toInt < 200))) := by
  refine wq_eq e_Told_has ?_
  refine wq_if _ (fun c1 => ?_) (fun c1 => ?_)
  · exact wq_t (Or.inl rfl) (wq_some (rI_i ⟨rfl, Or.inl rfl, fun h => absurd h (by decide)⟩))
  · obtain ⟨aA_2, aB_2, aC_2, aD_2, aE_2, aF_2, aG_2, aH_2, aI_2, aJ_2, c_2, to_2, e_2, taA_2, taB_2, taC_2, taD_2, taE_2, taF_2, taG_2, taH_2, taI_2, taJ_2, b0_2, b1_2, b2_2, b3_2⟩ := o9 W t0
    refine wq_gI e_2 rfl ?_
    refine wq_if _ (fun c3 => ?_) (fun c3 => ?_)
    · refine wq_if _ (fun c4 => ?_) (fun c4 => ?_)
      · exact wq_t (Or.inr rfl) (wq_some (rI_i ⟨rfl, Or.inr rfl, fun _ => ⟨(by have := nlt_i c1; have := lt_i c3; have := lt_i c4; have : (0 : Int32).toInt = 0 := rfl; have : (200 : Int32).toInt = 200 := rfl; omega), (by have := nlt_i c1; have := lt_i c3; have := lt_i c4; have : (0 : Int32).toInt = 0 := rfl; have : (200 : Int32).toInt = 200 := rfl; omega)⟩⟩))
      · exact wq_t (Or.inl rfl) (wq_some (rI_i ⟨rfl, Or.inl rfl, fun h => absurd h (by decide)⟩))
    · exact wq_t (Or.inl rfl) (wq_some (rI_i ⟨rfl, Or.inl rfl, fun h => absurd h (by decide)⟩))
theorem s_Told_isAssign {d : Nat} {h : ah_H} {v0 : Nat} {v1 : Int32} (W : cI K κ b h) (t0 : κ v0 = some (9, 0)) : wq (vc lim (d + 2) m_Told_isAssign [.inr (.inr (some v0)), .inl v1] h) (rI fun x h' => h' = h ∧ ((x = 0 ∨ x = 1) ∧ (x = 1 → 0 ≤ v1.toInt ∧ v1.toInt < 200))) := by
  refine wq_eq e_Told_isAssign ?_
  refine wk_at W t0 rfl (fun _ => ?_)
  refine wq_cI (s_Told_has W t0) ?_
  rintro y3 h1 ⟨rfl, p4⟩
  refine wq_if _ (fun c5 => ?_) (fun c5 => ?_)
  · exact wq_t (Or.inl rfl) (wq_some (rI_i ⟨rfl, Or.inl rfl, fun h => absurd h (by decide)⟩))
  · have f6 := p4.2 (p4.1.resolve_left c5)
    obtain ⟨aA_7, aB_7, aC_7, aD_7, aE_7, aF_7, aG_7, aH_7, aI_7, aJ_7, c_7, to_7, e_7, taA_7, taB_7, taC_7, taD_7, taE_7, taF_7, taG_7, taH_7, taI_7, taJ_7, b0_7, b1_7, b2_7, b3_7⟩ := o9 W t0
    refine wq_gR e_7 rfl ?_
    refine wk_lT W taA_7 (by have := ne_i c5; have : (0 : Int32).toInt = 0 := rfl; omega) (by have := ne_i c5; have : (0 : Int32).toInt = 0 := rfl; omega) (fun v8 => ?_)
    refine wq_if _ (fun c9 => ?_) (fun c9 => ?_)
    · exact wq_t (Or.inr rfl) (wq_some (rI_i ⟨rfl, Or.inr rfl, fun _ => ⟨(by have := ne_i c5; have := congrArg Int32.toInt c9; have : (0 : Int32).toInt = 0 := rfl; omega), (by have := ne_i c5; have := congrArg Int32.toInt c9; have : (0 : Int32).toInt = 0 := rfl; omega)⟩⟩))
    · exact wq_t (Or.inl rfl) (wq_some (rI_i ⟨rfl, Or.inl rfl, fun h => absurd h (by decide)⟩))
theorem s_Told_hasRoomFor {d : Nat} {h : ah_H} {v0 : Nat} {v1 : Int32} (W : cI K κ b h) (t0 : κ v0 = some (9, 0)) : wq (vc lim (d + 1) m_Told_hasRoomFor [.inr (.inr (some v0)), .inl v1] h) (rI fun x h' => h' = h ∧ ((x = 0 ∨ x = 1) ∧ (x = 1 → ∀ vs, h.1 v0 = some (9, vs) → ∀ c, vs[10]? = some (aI c) → c.toInt < 200))) := by
  refine wq_eq e_Told_hasRoomFor ?_
  obtain ⟨aA_1, aB_1, aC_1, aD_1, aE_1, aF_1, aG_1, aH_1, aI_1, aJ_1, c_1, to_1, e_1, taA_1, taB_1, taC_1, taD_1, taE_1, taF_1, taG_1, taH_1, taI_1, taJ_1, b0_1, b1_1, b2_1, b3_1⟩ := o9 W t0
  refine wq_gI e_1 rfl ?_
  refine wq_if _ (fun c2 => ?_) (fun c2 => ?_)
  · refine wq_gI e_1 rfl ?_
    refine wq_if _ (fun c3 => ?_) (fun c3 => ?_)
    · exact wq_t (Or.inr rfl) (wq_some (rI_i ⟨rfl, Or.inr rfl, fun _ vs e1 c e2 => by rw [e_1] at e1; cases e1; cases e2; exact (by have := lt_i c2; have := le_i c3; have : (200 : Int32).toInt = 200 := rfl; have : (500 : Int32).toInt = 500 := rfl; omega)⟩))
    · exact wq_t (Or.inl rfl) (wq_some (rI_i ⟨rfl, Or.inl rfl, fun h => absurd h (by decide)⟩))
  · exact wq_t (Or.inl rfl) (wq_some (rI_i ⟨rfl, Or.inl rfl, fun h => absurd h (by decide)⟩))
theorem s_Told_clear {d : Nat} {h : ah_H} {v0 : Nat} (W : cI K κ b h) (t0 : κ v0 = some (9, 0)) : wq (vc lim (d + 1) m_Told_clear [.inr (.inr (some v0))] h) (rV fun h' => cI K κ b h' ∧ fk [9] κ h h') := by
  refine wq_eq e_Told_clear ?_
  obtain ⟨aA_1, aB_1, aC_1, aD_1, aE_1, aF_1, aG_1, aH_1, aI_1, aJ_1, c_1, to_1, e_1, taA_1, taB_1, taC_1, taD_1, taE_1, taF_1, taG_1, taH_1, taI_1, taJ_1, b0_1, b1_1, b2_1, b3_1⟩ := o9 W t0
  refine wk_wr W t0 rfl e_1 (Nat.le_of_ble_eq_true rfl) (i9 taA_1 taB_1 taC_1 taD_1 taE_1 taF_1 taG_1 taH_1 taI_1 taJ_1 (by have : (0 : Int32).toInt = 0 := rfl; omega) (by have : (0 : Int32).toInt = 0 := rfl; omega) b2_1 b3_1) ?_
  intro h2 W3 e4 o5
  have G6 := fk_w (ws := [9]) fk_0 t0 o5 rfl
  refine wk_wr W3 t0 rfl e4 (Nat.le_of_ble_eq_true rfl) (i9 taA_1 taB_1 taC_1 taD_1 taE_1 taF_1 taG_1 taH_1 taI_1 taJ_1 (by exact (by have : (0 : Int32).toInt = 0 := rfl; omega)) (by exact (by have : (0 : Int32).toInt = 0 := rfl; omega)) (by have : (0 : Int32).toInt = 0 := rfl; omega) (by have : (0 : Int32).toInt = 0 := rfl; omega)) ?_
  intro h7 W8 e9 o10
  have G11 := fk_w (ws := [9]) G6 t0 o10 rfl
  exact wq_some (rV_i ⟨W8, G11⟩)
theorem s_Told_tellReport {d : Nat} {h : ah_H} {v0 : Nat} {v1 : Int32} (W : cI K κ b h) (t0 : κ v0 = some (9, 0)) : wq (vc lim (d + 2) m_Told_tellReport [.inr (.inr (some v0)), .inl v1] h) (rV fun h' => cI K κ b h' ∧ fk [9, 101, 105] κ h h') := by
  refine wq_eq e_Told_tellReport ?_
  refine wk_at W t0 rfl (fun _ => ?_)
  refine wq_cI (s_Told_hasRoomFor W t0) ?_
  rintro y3 h1 ⟨rfl, p4⟩
  refine wq_if _ (fun c5 => ?_) (fun c5 => ?_)
  · exact wq_some (rV_i ⟨W, fk_0⟩)
  · obtain ⟨aA_6, aB_6, aC_6, aD_6, aE_6, aF_6, aG_6, aH_6, aI_6, aJ_6, c_6, to_6, e_6, taA_6, taB_6, taC_6, taD_6, taE_6, taF_6, taG_6, taH_6, taI_6, taJ_6, b0_6, b1_6, b2_6, b3_6⟩ := o9 W t0
    have f7 := p4.2 (p4.1.resolve_left c5) _ e_6 _ rfl
    refine wq_gR e_6 rfl ?_
    refine wq_gI e_6 rfl ?_
    refine wk_sT W taA_6 (by have := ne_i c5; have : (0 : Int32).toInt = 0 := rfl; omega) (by have := ne_i c5; have : (0 : Int32).toInt = 0 := rfl; omega) ?_
    intro h8 W9 o10
    have G11 := fk_w (ws := [9, 101, 105]) fk_0 taA_6 o10 rfl
    have e12 := (o10 _ (kne t0 taA_6 rfl)).trans e_6
    refine wq_gR e12 rfl ?_
    refine wq_gI e12 rfl ?_
    refine wk_sT W9 taB_6 (by have := ne_i c5; have : (0 : Int32).toInt = 0 := rfl; omega) (by have := ne_i c5; have : (0 : Int32).toInt = 0 := rfl; omega) ?_
    intro h13 W14 o15
    have G16 := fk_w (ws := [9, 101, 105]) G11 taB_6 o15 rfl
    have e17 := (o15 _ (kne t0 taB_6 rfl)).trans e12
    refine wq_gR e17 rfl ?_
    refine wq_gI e17 rfl ?_
    refine wk_sT W14 taC_6 (by have := ne_i c5; have : (0 : Int32).toInt = 0 := rfl; omega) (by have := ne_i c5; have : (0 : Int32).toInt = 0 := rfl; omega) ?_
    intro h18 W19 o20
    have G21 := fk_w (ws := [9, 101, 105]) G16 taC_6 o20 rfl
    have e22 := (o20 _ (kne t0 taC_6 rfl)).trans e17
    refine wq_gR e22 rfl ?_
    refine wq_gI e22 rfl ?_
    refine wk_sT W19 taD_6 (by have := ne_i c5; have : (0 : Int32).toInt = 0 := rfl; omega) (by have := ne_i c5; have : (0 : Int32).toInt = 0 := rfl; omega) ?_
    intro h23 W24 o25
    have G26 := fk_w (ws := [9, 101, 105]) G21 taD_6 o25 rfl
    have e27 := (o25 _ (kne t0 taD_6 rfl)).trans e22
    refine wq_gR e27 rfl ?_
    refine wq_gI e27 rfl ?_
    refine wk_sT W24 taE_6 (by have := ne_i c5; have : (0 : Int32).toInt = 0 := rfl; omega) (by have := ne_i c5; have : (0 : Int32).toInt = 0 := rfl; omega) ?_
    intro h28 W29 o30
    have G31 := fk_w (ws := [9, 101, 105]) G26 taE_6 o30 rfl
    have e32 := (o30 _ (kne t0 taE_6 rfl)).trans e27
    refine wq_gR e32 rfl ?_
    refine wq_gI e32 rfl ?_
    refine wk_sT W29 taF_6 (by have := ne_i c5; have : (0 : Int32).toInt = 0 := rfl; omega) (by have := ne_i c5; have : (0 : Int32).toInt = 0 := rfl; omega) ?_
    intro h33 W34 o35
    have G36 := fk_w (ws := [9, 101, 105]) G31 taF_6 o35 rfl
    have e37 := (o35 _ (kne t0 taF_6 rfl)).trans e32
    refine wq_gR e37 rfl ?_
    refine wq_gI e37 rfl ?_
    refine wq_gI e37 rfl ?_
    refine wk_sT W34 taG_6 (by have := ne_i c5; have : (0 : Int32).toInt = 0 := rfl; omega) (by have := ne_i c5; have : (0 : Int32).toInt = 0 := rfl; omega) ?_
    intro h38 W39 o40
    have G41 := fk_w (ws := [9, 101, 105]) G36 taG_6 o40 rfl
    have e42 := (o40 _ (kne t0 taG_6 rfl)).trans e37
    refine wq_gR e42 rfl ?_
    refine wq_gI e42 rfl ?_
    refine wk_sJ W39 taH_6 (by have := ne_i c5; have : (0 : Int32).toInt = 0 := rfl; omega) (by have := ne_i c5; have : (0 : Int32).toInt = 0 := rfl; omega) ?_
    intro h43 W44 o45
    have G46 := fk_w (ws := [9, 101, 105]) G41 taH_6 o45 rfl
    have e47 := (o45 _ (kne t0 taH_6 rfl)).trans e42
    refine wq_gI e47 rfl ?_
    refine wk_wr W44 t0 rfl e47 (Nat.le_of_ble_eq_true rfl) (i9 taA_6 taB_6 taC_6 taD_6 taE_6 taF_6 taG_6 taH_6 taI_6 taJ_6 (by have := ne_i c5; have : (0 : Int32).toInt = 0 := rfl; have : (1 : Int32).toInt = 1 := rfl; have := bd_i c_6; have := bd_i y3; have := bd_i c_6; have := bd_i (1 : Int32); have : (c_6 + (1 : Int32)).toInt = c_6.toInt + (1 : Int32).toInt := ad_i (by omega) (by omega); omega) (by have := ne_i c5; have : (0 : Int32).toInt = 0 := rfl; have : (1 : Int32).toInt = 1 := rfl; have := bd_i c_6; have := bd_i y3; have := bd_i c_6; have := bd_i (1 : Int32); have : (c_6 + (1 : Int32)).toInt = c_6.toInt + (1 : Int32).toInt := ad_i (by omega) (by omega); omega) b2_6 b3_6) ?_
    intro h48 W49 e50 o51
    have G52 := fk_w (ws := [9, 101, 105]) G46 t0 o51 rfl
    exact wq_some (rV_i ⟨W49, G52⟩)
theorem s_Told_tellAssign {d : Nat} {h : ah_H} {v0 : Nat} {v1 : Int32} {v2 : Int32} {v3 : Int32} {v4 : Int32} {v5 : Int64} (W : cI K κ b h) (t0 : κ v0 = some (9, 0)) : wq (vc lim (d + 2) m_Told_tellAssign [.inr (.inr (some v0)), .inl v1, .inl v2, .inl v3, .inl v4, .inr (.inl v5)] h) (rV fun h' => cI K κ b h' ∧ fk [9, 101, 105] κ h h') := by
  refine wq_eq e_Told_tellAssign ?_
  refine wk_at W t0 rfl (fun _ => ?_)
  refine wq_cI (s_Told_hasRoomFor W t0) ?_
  rintro y3 h1 ⟨rfl, p4⟩
  refine wq_if _ (fun c5 => ?_) (fun c5 => ?_)
  · exact wq_some (rV_i ⟨W, fk_0⟩)
  · obtain ⟨aA_6, aB_6, aC_6, aD_6, aE_6, aF_6, aG_6, aH_6, aI_6, aJ_6, c_6, to_6, e_6, taA_6, taB_6, taC_6, taD_6, taE_6, taF_6, taG_6, taH_6, taI_6, taJ_6, b0_6, b1_6, b2_6, b3_6⟩ := o9 W t0
    have f7 := p4.2 (p4.1.resolve_left c5) _ e_6 _ rfl
    refine wq_gR e_6 rfl ?_
    refine wq_gI e_6 rfl ?_
    refine wk_sT W taA_6 (by have := ne_i c5; have : (0 : Int32).toInt = 0 := rfl; omega) (by have := ne_i c5; have : (0 : Int32).toInt = 0 := rfl; omega) ?_
    intro h8 W9 o10
    have G11 := fk_w (ws := [9, 101, 105]) fk_0 taA_6 o10 rfl
    have e12 := (o10 _ (kne t0 taA_6 rfl)).trans e_6
    refine wq_gR e12 rfl ?_
    refine wq_gI e12 rfl ?_
    refine wk_sT W9 taB_6 (by have := ne_i c5; have : (0 : Int32).toInt = 0 := rfl; omega) (by have := ne_i c5; have : (0 : Int32).toInt = 0 := rfl; omega) ?_
    intro h13 W14 o15
    have G16 := fk_w (ws := [9, 101, 105]) G11 taB_6 o15 rfl
    have e17 := (o15 _ (kne t0 taB_6 rfl)).trans e12
    refine wq_gR e17 rfl ?_
    refine wq_gI e17 rfl ?_
    refine wk_sT W14 taC_6 (by have := ne_i c5; have : (0 : Int32).toInt = 0 := rfl; omega) (by have := ne_i c5; have : (0 : Int32).toInt = 0 := rfl; omega) ?_
    intro h18 W19 o20
    have G21 := fk_w (ws := [9, 101, 105]) G16 taC_6 o20 rfl
    have e22 := (o20 _ (kne t0 taC_6 rfl)).trans e17
    refine wq_gR e22 rfl ?_
    refine wq_gI e22 rfl ?_
    refine wk_sT W19 taD_6 (by have := ne_i c5; have : (0 : Int32).toInt = 0 := rfl; omega) (by have := ne_i c5; have : (0 : Int32).toInt = 0 := rfl; omega) ?_
    intro h23 W24 o25
    have G26 := fk_w (ws := [9, 101, 105]) G21 taD_6 o25 rfl
    have e27 := (o25 _ (kne t0 taD_6 rfl)).trans e22
    refine wq_gR e27 rfl ?_
    refine wq_gI e27 rfl ?_
    refine wk_sT W24 taE_6 (by have := ne_i c5; have : (0 : Int32).toInt = 0 := rfl; omega) (by have := ne_i c5; have : (0 : Int32).toInt = 0 := rfl; omega) ?_
    intro h28 W29 o30
    have G31 := fk_w (ws := [9, 101, 105]) G26 taE_6 o30 rfl
    have e32 := (o30 _ (kne t0 taE_6 rfl)).trans e27
    refine wq_gR e32 rfl ?_
    refine wq_gI e32 rfl ?_
    refine wk_sT W29 taF_6 (by have := ne_i c5; have : (0 : Int32).toInt = 0 := rfl; omega) (by have := ne_i c5; have : (0 : Int32).toInt = 0 := rfl; omega) ?_
    intro h33 W34 o35
    have G36 := fk_w (ws := [9, 101, 105]) G31 taF_6 o35 rfl
    have e37 := (o35 _ (kne t0 taF_6 rfl)).trans e32
    refine wq_gR e37 rfl ?_
    refine wq_gI e37 rfl ?_
    refine wq_gI e37 rfl ?_
    refine wk_sT W34 taG_6 (by have := ne_i c5; have : (0 : Int32).toInt = 0 := rfl; omega) (by have := ne_i c5; have : (0 : Int32).toInt = 0 := rfl; omega) ?_
    intro h38 W39 o40
    have G41 := fk_w (ws := [9, 101, 105]) G36 taG_6 o40 rfl
    have e42 := (o40 _ (kne t0 taG_6 rfl)).trans e37
    refine wq_gR e42 rfl ?_
    refine wq_gI e42 rfl ?_
    refine wk_sJ W39 taH_6 (by have := ne_i c5; have : (0 : Int32).toInt = 0 := rfl; omega) (by have := ne_i c5; have : (0 : Int32).toInt = 0 := rfl; omega) ?_
    intro h43 W44 o45
    have G46 := fk_w (ws := [9, 101, 105]) G41 taH_6 o45 rfl
    have e47 := (o45 _ (kne t0 taH_6 rfl)).trans e42
    refine wq_gI e47 rfl ?_
    refine wk_wr W44 t0 rfl e47 (Nat.le_of_ble_eq_true rfl) (i9 taA_6 taB_6 taC_6 taD_6 taE_6 taF_6 taG_6 taH_6 taI_6 taJ_6 (by have := ne_i c5; have : (0 : Int32).toInt = 0 := rfl; have : (1 : Int32).toInt = 1 := rfl; have := bd_i c_6; have := bd_i y3; have := bd_i c_6; have := bd_i (1 : Int32); have : (c_6 + (1 : Int32)).toInt = c_6.toInt + (1 : Int32).toInt := ad_i (by omega) (by omega); omega) (by have := ne_i c5; have : (0 : Int32).toInt = 0 := rfl; have : (1 : Int32).toInt = 1 := rfl; have := bd_i c_6; have := bd_i y3; have := bd_i c_6; have := bd_i (1 : Int32); have : (c_6 + (1 : Int32)).toInt = c_6.toInt + (1 : Int32).toInt := ad_i (by omega) (by omega); omega) b2_6 b3_6) ?_
    intro h48 W49 e50 o51
    have G52 := fk_w (ws := [9, 101, 105]) G46 t0 o51 rfl
    exact wq_some (rV_i ⟨W49, G52⟩)
theorem s_Told_tellValue {d : Nat} {h : ah_H} {v0 : Nat} {v1 : Nat} {v2 : Int64} (W : cI K κ b h) (t0 : κ v0 = some (9, 0)) (t1 : κ v1 = some (1, 0)) : wq (vc lim (d + 2) m_Told_tellValue [.inr (.inr (some v0)), .inr (.inr (some v1)), .inr (.inl v2)] h) (rV fun h' => cI K κ b h' ∧ fk [1, 9, 101, 105] κ h h') := by
  refine wq_eq e_Told_tellValue ?_
  obtain ⟨aA_1, aB_1, aC_1, aD_1, aE_1, aF_1, aG_1, aH_1, aI_1, aJ_1, c_1, to_1, e_1, taA_1, taB_1, taC_1, taD_1, taE_1, taF_1, taG_1, taH_1, taI_1, taJ_1, b0_1, b1_1, b2_1, b3_1⟩ := o9 W t0
  refine wq_gI e_1 rfl ?_
  refine wk_at W t0 rfl (fun _ => ?_)
  refine wq_cI (s_Told_has W t0) ?_
  rintro y4 h2 ⟨rfl, p5⟩
  refine wq_if _ (fun c6 => ?_) (fun c6 => ?_)
  · exact wq_some (rV_i ⟨W, fk_0⟩)
  · have f7 := p5.2 (p5.1.resolve_left c6)
    refine wq_gI e_1 rfl ?_
    refine wq_if _ (fun c8 => ?_) (fun c8 => ?_)
    · exact wq_some (rV_i ⟨W, fk_0⟩)
    · refine wq_gI e_1 rfl ?_
      refine wq_if _ (fun c9 => ?_) (fun c9 => ?_)
      · refine wq_gR e_1 rfl ?_
        refine wq_gI e_1 rfl ?_
        refine wk_l1 W taJ_1 (by have := ne_i c6; have := nlt_i c8; have := lt_i c9; have : (0 : Int32).toInt = 0 := rfl; have : (500 : Int32).toInt = 500 := rfl; omega) (by have := ne_i c6; have := nlt_i c8; have := lt_i c9; have : (0 : Int32).toInt = 0 := rfl; have : (500 : Int32).toInt = 500 := rfl; omega) (fun v10 t11 => ?_)
        refine wk_at W t11 rfl (fun _ => ?_)
        refine wq_cV (s_Datum_copy W t11 t1) ?_
        rintro h12 ⟨W13, g14⟩
        have G15 := fk_c (ws := [1, 9, 101, 105]) fk_0 g14 rfl
        have e16 := (g14 _ _ _ t0 rfl).trans e_1
        refine wq_gR e16 rfl ?_
        refine wq_gI e16 rfl ?_
        refine wk_sJ W13 taI_1 (by have := ne_i c6; have := nlt_i c8; have := lt_i c9; have : (0 : Int32).toInt = 0 := rfl; have : (500 : Int32).toInt = 500 := rfl; omega) (by have := ne_i c6; have := nlt_i c8; have := lt_i c9; have : (0 : Int32).toInt = 0 := rfl; have : (500 : Int32).toInt = 500 := rfl; omega) ?_
        intro h17 W18 o19
        have G20 := fk_w (ws := [1, 9, 101, 105]) G15 taI_1 o19 rfl
        have e21 := (o19 _ (kne t0 taI_1 rfl)).trans e16
        refine wq_gI e21 rfl ?_
        refine wk_wr W18 t0 rfl e21 (Nat.le_of_ble_eq_true rfl) (i9 taA_1 taB_1 taC_1 taD_1 taE_1 taF_1 taG_1 taH_1 taI_1 taJ_1 b0_1 b1_1 (by have := ne_i c6; have := nlt_i c8; have := lt_i c9; have : (0 : Int32).toInt = 0 := rfl; have : (1 : Int32).toInt = 1 := rfl; have : (500 : Int32).toInt = 500 := rfl; have := bd_i to_1; have := bd_i y4; have := bd_i to_1; have := bd_i (1 : Int32); have : (to_1 + (1 : Int32)).toInt = to_1.toInt + (1 : Int32).toInt := ad_i (by omega) (by omega); omega) (by have := ne_i c6; have := nlt_i c8; have := lt_i c9; have : (0 : Int32).toInt = 0 := rfl; have : (1 : Int32).toInt = 1 := rfl; have : (500 : Int32).toInt = 500 := rfl; have := bd_i to_1; have := bd_i y4; have := bd_i to_1; have := bd_i (1 : Int32); have : (to_1 + (1 : Int32)).toInt = to_1.toInt + (1 : Int32).toInt := ad_i (by omega) (by omega); omega)) ?_
        intro h22 W23 e24 o25
        have G26 := fk_w (ws := [1, 9, 101, 105]) G20 t0 o25 rfl
        refine wq_gR e24 rfl ?_
        refine wq_gI e24 rfl ?_
        refine wk_lT W23 taF_1 (by have := ne_i c6; have := nlt_i c8; have := lt_i c9; have : (0 : Int32).toInt = 0 := rfl; have : (1 : Int32).toInt = 1 := rfl; have : (500 : Int32).toInt = 500 := rfl; have := bd_i c_1; have := bd_i to_1; have := bd_i y4; have := bd_i c_1; have := bd_i (1 : Int32); have : (c_1 - (1 : Int32)).toInt = c_1.toInt - (1 : Int32).toInt := sb_i (by omega) (by omega); omega) (by have := ne_i c6; have := nlt_i c8; have := lt_i c9; have : (0 : Int32).toInt = 0 := rfl; have : (1 : Int32).toInt = 1 := rfl; have : (500 : Int32).toInt = 500 := rfl; have := bd_i c_1; have := bd_i to_1; have := bd_i y4; have := bd_i c_1; have := bd_i (1 : Int32); have : (c_1 - (1 : Int32)).toInt = c_1.toInt - (1 : Int32).toInt := sb_i (by omega) (by omega); omega) (fun v27 => ?_)
        refine wk_sT W23 taF_1 (by have := ne_i c6; have := nlt_i c8; have := lt_i c9; have : (0 : Int32).toInt = 0 := rfl; have : (1 : Int32).toInt = 1 := rfl; have : (500 : Int32).toInt = 500 := rfl; have := bd_i c_1; have := bd_i to_1; have := bd_i y4; have := bd_i c_1; have := bd_i (1 : Int32); have : (c_1 - (1 : Int32)).toInt = c_1.toInt - (1 : Int32).toInt := sb_i (by omega) (by omega); omega) (by have := ne_i c6; have := nlt_i c8; have := lt_i c9; have : (0 : Int32).toInt = 0 := rfl; have : (1 : Int32).toInt = 1 := rfl; have : (500 : Int32).toInt = 500 := rfl; have := bd_i c_1; have := bd_i to_1; have := bd_i y4; have := bd_i c_1; have := bd_i (1 : Int32); have : (c_1 - (1 : Int32)).toInt = c_1.toInt - (1 : Int32).toInt := sb_i (by omega) (by omega); omega) ?_
        intro h28 W29 o30
        have G31 := fk_w (ws := [1, 9, 101, 105]) G26 taF_1 o30 rfl
        have e32 := (o30 _ (kne t0 taF_1 rfl)).trans e24
        exact wq_some (rV_i ⟨W29, G31⟩)
      · exact wq_some (rV_i ⟨W, fk_0⟩)
theorem s_Told_placeOf {d : Nat} {h : ah_H} {v0 : Nat} {v1 : Int32} {v2 : Int32} (W : cI K κ b h) (t0 : κ v0 = some (9, 0)) : wq (vc lim (d + 2) m_Told_placeOf [.inr (.inr (some v0)), .inl v1, .inl v2] h) (rI fun x h' => h' = h ∧ (x = -1 ∨ (0 ≤ x.toInt ∧ x.toInt < 500))) := by
  refine wq_eq e_Told_placeOf ?_
  refine wk_at W t0 rfl (fun _ => ?_)
  refine wq_cI (s_Told_has W t0) ?_
  rintro y3 h1 ⟨rfl, p4⟩
  refine wq_if _ (fun c5 => ?_) (fun c5 => ?_)
  · exact wq_some (rI_i ⟨rfl, Or.inl rfl⟩)
  · have f6 := p4.2 (p4.1.resolve_left c5)
    refine wq_if _ (fun c7 => ?_) (fun c7 => ?_)
    · exact wq_some (rI_i ⟨rfl, Or.inl rfl⟩)
    · obtain ⟨aA_8, aB_8, aC_8, aD_8, aE_8, aF_8, aG_8, aH_8, aI_8, aJ_8, c_8, to_8, e_8, taA_8, taB_8, taC_8, taD_8, taE_8, taF_8, taG_8, taH_8, taI_8, taJ_8, b0_8, b1_8, b2_8, b3_8⟩ := o9 W t0
      refine wq_gR e_8 rfl ?_
      refine wk_lT W taF_8 (by have := ne_i c5; have := nlt_i c7; have : (0 : Int32).toInt = 0 := rfl; omega) (by have := ne_i c5; have := nlt_i c7; have : (0 : Int32).toInt = 0 := rfl; omega) (fun v9 => ?_)
      refine wq_if _ (fun c10 => ?_) (fun c10 => ?_)
      · refine wq_gR e_8 rfl ?_
        refine wk_lT W taG_8 (by have := ne_i c5; have := nlt_i c7; have := lt_i c10; have : (0 : Int32).toInt = 0 := rfl; omega) (by have := ne_i c5; have := nlt_i c7; have := lt_i c10; have : (0 : Int32).toInt = 0 := rfl; omega) (fun v11 => ?_)
        refine wq_if _ (fun c12 => ?_) (fun c12 => ?_)
        · exact wq_some (rI_i ⟨rfl, Or.inl rfl⟩)
        · refine wq_if _ (fun c13 => ?_) (fun c13 => ?_)
          · exact wq_some (rI_i ⟨rfl, Or.inr ⟨(by have := ne_i c5; have := nlt_i c7; have := lt_i c10; have := nlt_i c12; have := lt_i c13; have : (0 : Int32).toInt = 0 := rfl; have : (500 : Int32).toInt = 500 := rfl; have := bd_i v11; have := bd_i v2; have := bd_i v9; have := bd_i y3; omega), (by have := ne_i c5; have := nlt_i c7; have := lt_i c10; have := nlt_i c12; have := lt_i c13; have : (0 : Int32).toInt = 0 := rfl; have : (500 : Int32).toInt = 500 := rfl; have := bd_i v11; have := bd_i v2; have := bd_i v9; have := bd_i y3; omega)⟩⟩)
          · exact wq_some (rI_i ⟨rfl, Or.inl rfl⟩)
      · exact wq_some (rI_i ⟨rfl, Or.inl rfl⟩)
theorem s_Told_datumOf {d : Nat} {h : ah_H} {v0 : Nat} {v1 : Int32} {v2 : Int32} (W : cI K κ b h) (t0 : κ v0 = some (9, 0)) : wq (vc lim (d + 3) m_Told_datumOf [.inr (.inr (some v0)), .inl v1, .inl v2] h) (rR fun r h' => h' = h ∧ ∀ t, r = some t → κ t = some (1, 0)) := by
  refine wq_eq e_Told_datumOf ?_
  refine wk_at W t0 rfl (fun _ => ?_)
  refine wq_cI (s_Told_placeOf W t0) ?_
  rintro y3 h1 ⟨rfl, p4⟩
  refine wq_if _ (fun c5 => ?_) (fun c5 => ?_)
  · exact wq_some (rR_i ⟨rfl, nofun⟩)
  · obtain ⟨aA_6, aB_6, aC_6, aD_6, aE_6, aF_6, aG_6, aH_6, aI_6, aJ_6, c_6, to_6, e_6, taA_6, taB_6, taC_6, taD_6, taE_6, taF_6, taG_6, taH_6, taI_6, taJ_6, b0_6, b1_6, b2_6, b3_6⟩ := o9 W t0
    refine wq_gR e_6 rfl ?_
    refine wk_l1 W taJ_6 (by have := ne_i c5; have : (-1 : Int32).toInt = -1 := rfl; have := p4.resolve_left c5; omega) (by have := ne_i c5; have : (-1 : Int32).toInt = -1 := rfl; have := p4.resolve_left c5; omega) (fun v7 t8 => ?_)
    exact wq_some (rR_i ⟨rfl, fun _ e => by cases e; exact t8⟩)
end CsB
