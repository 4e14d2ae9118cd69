/-! CONTRACTS: steps of processes, by program (wip/tools/clsgen.py) -/
section CsE
variable {lim : Nat × Nat} {K : Nat} {κ : kM} {b : ah_H}
theorem l_246_8 {d : Nat} {h : ah_H} {n0 : Nat} {v0 : Nat} (t0 : κ v0 = some (10, n0)) : ∀ (m : Nat) (h1 : ah_H) (v3 : Int32) (v4 : Int32) (v5 : Int32), (2147483647 - v5.toInt).toNat < m → cI K κ b h1 → fk [10] κ h h1 → wq (ah_val lim ah_P (d + 2) 246 8 [some (.inr (.inr (some v0))), none, none, some (.inl v3), some (.inl v4), some (.inl v5), none, none, none] [] h1) (rV fun h' => cI K κ b h' ∧ fk [10] κ h h') := by
  intro m
  induction m with
  | zero => intros; omega
  | succ m ih =>
      intro h1 v3 v4 v5 hm W G
      refine wq_eq q_246_8 ?_
      refine wq_if _ (fun c1 => ?_) (fun c1 => ?_)
      · obtain ⟨nd_2, nn_2, vr_2, vn_2, s2_2, s3_2, s4_2, s5_2, s6_2, s7_2, s8_2, w9_2, nx_2, en_2, e_2, tnd_2, tvr_2, tnx_2, ten_2⟩ := o10 W t0
        refine wq_gR e_2 rfl ?_
        refine wk_at W tnd_2 rfl (fun _ => ?_)
        refine wq_cI (s_Nodes_kid W tnd_2) ?_
        rintro y5 h3 ⟨rfl, p6⟩
        refine wq_if _ (fun c7 => ?_) (fun c7 => ?_)
        · refine wq_gR e_2 rfl ?_
          refine wk_at W tnd_2 rfl (fun _ => ?_)
          refine wq_cI (s_Nodes_parentOf W tnd_2) ?_
          rintro y10 h8 ⟨rfl, p11⟩
          refine wq_if _ (fun c12 => ?_) (fun c12 => ?_)
          · refine wq_eq q_246_73 ?_
            refine wq_if _ (fun c13 => ?_) (fun c13 => ?_)
            · refine wk_wr W t0 rfl e_2 (Nat.le_of_ble_eq_true rfl) (i10 tnd_2 tvr_2 tnx_2 ten_2) ?_
              intro h14 W15 e16 o17
              have G18 := fk_w (ws := [10]) G t0 o17 rfl
              refine wk_wr W15 t0 rfl e16 (Nat.le_of_ble_eq_true rfl) (i10 tnd_2 tvr_2 tnx_2 ten_2) ?_
              intro h19 W20 e21 o22
              have G23 := fk_w (ws := [10]) G18 t0 o22 rfl
              exact wq_some (rV_i ⟨W20, G23⟩)
            · refine wk_wr W t0 rfl e_2 (Nat.le_of_ble_eq_true rfl) (i10 tnd_2 tvr_2 tnx_2 ten_2) ?_
              intro h24 W25 e26 o27
              have G28 := fk_w (ws := [10]) G t0 o27 rfl
              refine wk_wr W25 t0 rfl e26 (Nat.le_of_ble_eq_true rfl) (i10 tnd_2 tvr_2 tnx_2 ten_2) ?_
              intro h29 W30 e31 o32
              have G33 := fk_w (ws := [10]) G28 t0 o32 rfl
              exact wq_some (rV_i ⟨W30, G33⟩)
          · refine wq_gR e_2 rfl ?_
            refine wk_at W tnd_2 rfl (fun _ => ?_)
            refine wq_cI (s_Nodes_isLoop W tnd_2) ?_
            rintro y36 h34 ⟨rfl, p37⟩
            refine wq_if _ (fun c38 => ?_) (fun c38 => ?_)
            · refine wq_gR e_2 rfl ?_
              refine wk_at W tnd_2 rfl (fun _ => ?_)
              refine wq_cI (s_Nodes_kindOf W tnd_2) ?_
              rintro y41 h39 ⟨rfl, p42⟩
              refine wq_if _ (fun c43 => ?_) (fun c43 => ?_)
              · refine wq_gR e_2 rfl ?_
                refine wk_at W tnd_2 rfl (fun _ => ?_)
                refine wq_cI (s_Nodes_parentOf W tnd_2) ?_
                rintro y46 h44 ⟨rfl, p47⟩
                refine wq_eq q_246_123 ?_
                refine wq_gR e_2 rfl ?_
                refine wk_at W tnd_2 rfl (fun _ => ?_)
                refine wq_cI (s_Nodes_parentOf W tnd_2) ?_
                rintro y50 h48 ⟨rfl, p51⟩
                refine wq_gR e_2 rfl ?_
                refine wk_at W tnd_2 rfl (fun _ => ?_)
                refine wq_cI (s_Nodes_placeOf W tnd_2) ?_
                rintro y54 h52 ⟨rfl, p55⟩
                exact ih _ _ _ _ (by have := le_i c1; have := congrArg Int32.toInt c7; have := ne_i c12; have := congrArg Int32.toInt c38; have := congrArg Int32.toInt c43; have : (-1 : Int32).toInt = -1 := rfl; have : (0 : Int32).toInt = 0 := rfl; have : (1 : Int32).toInt = 1 := rfl; have : (100 : Int32).toInt = 100 := rfl; have : (36 : Int32).toInt = 36 := rfl; have := bd_i v5; have := bd_i y10; have := bd_i y36; have := bd_i y41; have := bd_i y5; have := bd_i v5; have := bd_i (1 : Int32); have : (v5 + (1 : Int32)).toInt = v5.toInt + (1 : Int32).toInt := ad_i (by omega) (by omega); omega) W G
              · refine wq_eq q_246_123 ?_
                refine wq_gR e_2 rfl ?_
                refine wk_at W tnd_2 rfl (fun _ => ?_)
                refine wq_cI (s_Nodes_parentOf W tnd_2) ?_
                rintro y58 h56 ⟨rfl, p59⟩
                refine wq_gR e_2 rfl ?_
                refine wk_at W tnd_2 rfl (fun _ => ?_)
                refine wq_cI (s_Nodes_placeOf W tnd_2) ?_
                rintro y62 h60 ⟨rfl, p63⟩
                exact ih _ _ _ _ (by have := le_i c1; have := congrArg Int32.toInt c7; have := ne_i c12; have := congrArg Int32.toInt c38; have := ne_i c43; have : (-1 : Int32).toInt = -1 := rfl; have : (0 : Int32).toInt = 0 := rfl; have : (1 : Int32).toInt = 1 := rfl; have : (100 : Int32).toInt = 100 := rfl; have : (36 : Int32).toInt = 36 := rfl; have := bd_i v5; have := bd_i y10; have := bd_i y36; have := bd_i y41; have := bd_i y5; have := bd_i v5; have := bd_i (1 : Int32); have : (v5 + (1 : Int32)).toInt = v5.toInt + (1 : Int32).toInt := ad_i (by omega) (by omega); omega) W G
            · refine wq_eq q_246_73 ?_
              refine wq_if _ (fun c64 => ?_) (fun c64 => ?_)
              · refine wk_wr W t0 rfl e_2 (Nat.le_of_ble_eq_true rfl) (i10 tnd_2 tvr_2 tnx_2 ten_2) ?_
                intro h65 W66 e67 o68
                have G69 := fk_w (ws := [10]) G t0 o68 rfl
                refine wk_wr W66 t0 rfl e67 (Nat.le_of_ble_eq_true rfl) (i10 tnd_2 tvr_2 tnx_2 ten_2) ?_
                intro h70 W71 e72 o73
                have G74 := fk_w (ws := [10]) G69 t0 o73 rfl
                exact wq_some (rV_i ⟨W71, G74⟩)
              · refine wk_wr W t0 rfl e_2 (Nat.le_of_ble_eq_true rfl) (i10 tnd_2 tvr_2 tnx_2 ten_2) ?_
                intro h75 W76 e77 o78
                have G79 := fk_w (ws := [10]) G t0 o78 rfl
                refine wk_wr W76 t0 rfl e77 (Nat.le_of_ble_eq_true rfl) (i10 tnd_2 tvr_2 tnx_2 ten_2) ?_
                intro h80 W81 e82 o83
                have G84 := fk_w (ws := [10]) G79 t0 o83 rfl
                exact wq_some (rV_i ⟨W81, G84⟩)
        · refine wk_wr W t0 rfl e_2 (Nat.le_of_ble_eq_true rfl) (i10 tnd_2 tvr_2 tnx_2 ten_2) ?_
          intro h85 W86 e87 o88
          have G89 := fk_w (ws := [10]) G t0 o88 rfl
          refine wk_wr W86 t0 rfl e87 (Nat.le_of_ble_eq_true rfl) (i10 tnd_2 tvr_2 tnx_2 ten_2) ?_
          intro h90 W91 e92 o93
          have G94 := fk_w (ws := [10]) G89 t0 o93 rfl
          exact wq_some (rV_i ⟨W91, G94⟩)
      · exact wq_some (rV_i ⟨W, G⟩)
theorem s_Unit_goTo {d : Nat} {h : ah_H} {n0 : Nat} {v0 : Nat} {v1 : Int32} {v2 : Int32} (W : cI K κ b h) (t0 : κ v0 = some (10, n0)) : wq (vc lim (d + 3) m_Unit_goTo [.inr (.inr (some v0)), .inl v1, .inl v2] h) (rV fun h' => cI K κ b h' ∧ fk [10] κ h h') := by
  refine wq_eq e_Unit_goTo ?_
  exact l_246_8 t0 _ _ _ _ _ (Nat.lt_succ_self _) W fk_0
theorem s_Unit_goBehind {d : Nat} {h : ah_H} {n0 : Nat} {v0 : Nat} {v1 : Int32} (W : cI K κ b h) (t0 : κ v0 = some (10, n0)) : wq (vc lim (d + 4) m_Unit_goBehind [.inr (.inr (some v0)), .inl v1] h) (rI fun x h' => cI K κ b h' ∧ fk [10] κ h h' ∧ (x = 0 ∨ x = 1)) := by
  refine wq_eq e_Unit_goBehind ?_
  obtain ⟨nd_1, nn_1, vr_1, vn_1, s2_1, s3_1, s4_1, s5_1, s6_1, s7_1, s8_1, w9_1, nx_1, en_1, e_1, tnd_1, tvr_1, tnx_1, ten_1⟩ := o10 W t0
  refine wq_gR e_1 rfl ?_
  refine wk_at W tnd_1 rfl (fun _ => ?_)
  refine wq_cI (s_Nodes_parentOf W tnd_1) ?_
  rintro y4 h2 ⟨rfl, p5⟩
  refine wq_gR e_1 rfl ?_
  refine wk_at W tnd_1 rfl (fun _ => ?_)
  refine wq_cI (s_Nodes_placeOf W tnd_1) ?_
  rintro y8 h6 ⟨rfl, p9⟩
  refine wk_at W t0 rfl (fun _ => ?_)
  refine wq_cV (s_Unit_goTo W t0) ?_
  rintro h10 ⟨W11, g12⟩
  have G13 := fk_c (ws := [10]) fk_0 g12 rfl
  exact wq_t (Or.inr rfl) (wq_some (rI_i ⟨W11, G13, (Or.inr rfl)⟩))
theorem s_Unit_goInto {d : Nat} {h : ah_H} {n0 : Nat} {v0 : Nat} {v1 : Int32} (W : cI K κ b h) (t0 : κ v0 = some (10, n0)) : wq (vc lim (d + 4) m_Unit_goInto [.inr (.inr (some v0)), .inl v1] h) (rI fun x h' => cI K κ b h' ∧ fk [10] κ h h' ∧ (x = 0 ∨ x = 1)) := by
  refine wq_eq e_Unit_goInto ?_
  refine wk_at W t0 rfl (fun _ => ?_)
  refine wq_cV (s_Unit_goTo W t0) ?_
  rintro h1 ⟨W2, g3⟩
  have G4 := fk_c (ws := [10]) fk_0 g3 rfl
  exact wq_t (Or.inr rfl) (wq_some (rI_i ⟨W2, G4, (Or.inr rfl)⟩))
theorem s_Unit_waitAt {d : Nat} {h : ah_H} {n0 : Nat} {v0 : Nat} {v1 : Int32} {v2 : Int64} (W : cI K κ b h) (t0 : κ v0 = some (10, n0)) : wq (vc lim (d + 5) m_Unit_waitAt [.inr (.inr (some v0)), .inl v1, .inr (.inl v2)] h) (rI fun x h' => cI K κ b h' ∧ fk [10] κ h h' ∧ (x = 0 ∨ x = 1)) := by
  refine wq_eq e_Unit_waitAt ?_
  refine wk_at W t0 rfl (fun _ => ?_)
  refine wq_cI (s_Unit_goBehind W t0) ?_
  rintro y4 h1 ⟨W2, g3, p5⟩
  have G6 := fk_c (ws := [10]) fk_0 g3 rfl
  obtain ⟨nd_7, nn_7, vr_7, vn_7, s2_7, s3_7, s4_7, s5_7, s6_7, s7_7, s8_7, w9_7, nx_7, en_7, e_7, tnd_7, tvr_7, tnx_7, ten_7⟩ := o10 W2 t0
  refine wk_wr W2 t0 rfl e_7 (Nat.le_of_ble_eq_true rfl) (i10 tnd_7 tvr_7 tnx_7 ten_7) ?_
  intro h8 W9 e10 o11
  have G12 := fk_w (ws := [10]) G6 t0 o11 rfl
  refine wk_wr W9 t0 rfl e10 (Nat.le_of_ble_eq_true rfl) (i10 tnd_7 tvr_7 tnx_7 ten_7) ?_
  intro h13 W14 e15 o16
  have G17 := fk_w (ws := [10]) G12 t0 o16 rfl
  refine wk_wr W14 t0 rfl e15 (Nat.le_of_ble_eq_true rfl) (i10 tnd_7 tvr_7 tnx_7 ten_7) ?_
  intro h18 W19 e20 o21
  have G22 := fk_w (ws := [10]) G17 t0 o21 rfl
  exact wq_t (Or.inl rfl) (wq_some (rI_i ⟨W19, G22, (Or.inl rfl)⟩))
theorem s_Runner_unfit {d : Nat} {h : ah_H} {v0 : Nat} (W : cI K κ b h) (t0 : κ v0 = some (6, 0)) : wq (vc lim (d + 2) m_Runner_unfit [.inr (.inr (some v0))] h) (rI fun x h' => h' = h ∧ True) := by
  refine wq_eq e_Runner_unfit ?_
  obtain ⟨sg_1, td_1, fd_1, ch_1, wv_1, dl_1, tg_1, x7_1, x8_1, x9_1, x10_1, e_1, tsg_1, ttd_1, tfd_1, tch_1, twv_1, tdl_1, ttg_1⟩ := o6 W t0
  refine wq_gR e_1 rfl ?_
  refine wk_at W tfd_1 rfl (fun _ => ?_)
  refine wq_cR (s_Finder_found W tfd_1) ?_
  rintro _ h2 ⟨rfl, a6, rfl, p5⟩
  refine wq_gR e_1 rfl ?_
  rcases tg_1 with _ | q7
  · refine wq_t rfl ?_
    exact wq_some (rI_i ⟨rfl, trivial⟩)
  · have t8 := ttg_1 q7 rfl
    refine wq_f nofun ?_
    obtain ⟨i_9, l_9, n_9, bA_9, bB_9, bC_9, bD_9, e_9⟩ := o1 W p5
    refine wq_gI e_9 rfl ?_
    refine wq_gI e_1 rfl ?_
    refine wq_if _ (fun c10 => ?_) (fun c10 => ?_)
    · refine wq_gI e_9 rfl ?_
      refine wq_gI e_1 rfl ?_
      refine wq_if _ (fun c11 => ?_) (fun c11 => ?_)
      · refine wq_gI e_9 rfl ?_
        refine wq_if _ (fun c12 => ?_) (fun c12 => ?_)
        · refine wq_gR e_1 rfl ?_
          refine wq_gJ e_9 rfl ?_
          refine wk_at W t8 rfl (fun _ => ?_)
          refine wq_cI (s_Thing_allows W t8) ?_
          rintro y15 h13 ⟨rfl, p16⟩
          refine wq_if _ (fun c17 => ?_) (fun c17 => ?_)
          · exact wq_some (rI_i ⟨rfl, trivial⟩)
          · exact wq_some (rI_i ⟨rfl, trivial⟩)
        · exact wq_some (rI_i ⟨rfl, trivial⟩)
      · exact wq_some (rI_i ⟨rfl, trivial⟩)
    · exact wq_some (rI_i ⟨rfl, trivial⟩)
theorem l_214_3 {d : Nat} {h : ah_H} {v0 : Nat} (W : cI K κ b h) (t0 : κ v0 = some (6, 0)) : ∀ (m : Nat) (v1 : Int64) (v3 : Int32) (v4 : Int32), (2147483647 - v4.toInt).toNat < m → 1 ≤ v4.toInt → wq (ah_val lim ah_P (d + 0) 214 3 [some (.inr (.inr (some v0))), some (.inr (.inl v1)), none, some (.inl v3), some (.inl v4)] [] h) (rI fun x h' => h' = h ∧ (x = 0 ∨ x = 1)) := by
  intro m
  induction m with
  | zero => intros; omega
  | succ m ih =>
      intro v1 v3 v4 hm iv0
      refine wq_eq q_214_3 ?_
      refine wq_if _ (fun c1 => ?_) (fun c1 => ?_)
      · obtain ⟨sg_2, td_2, fd_2, ch_2, wv_2, dl_2, tg_2, x7_2, x8_2, x9_2, x10_2, e_2, tsg_2, ttd_2, tfd_2, tch_2, twv_2, tdl_2, ttg_2⟩ := o6 W t0
        refine wq_gR e_2 rfl ?_
        refine wk_len W tdl_2 (by decide) ?_
        intro len3 hl4
        refine wq_if _ (fun c5 => ?_) (fun c5 => ?_)
        · refine wq_gR e_2 rfl ?_
          refine wk_lJ W tdl_2 (by have := lt_i c1; have := lt_i c5; omega) (by have := lt_i c1; have := lt_i c5; omega) (fun v6 => ?_)
          refine wq_gR e_2 rfl ?_
          refine wk_lJ W tdl_2 (by have := lt_i c1; have := lt_i c5; have : (1 : Int32).toInt = 1 := rfl; have := bd_i len3; have := bd_i v3; have := bd_i v4; have := bd_i v4; have := bd_i (1 : Int32); have : (v4 - (1 : Int32)).toInt = v4.toInt - (1 : Int32).toInt := sb_i (by omega) (by omega); omega) (by have := lt_i c1; have := lt_i c5; have : (1 : Int32).toInt = 1 := rfl; have := bd_i len3; have := bd_i v3; have := bd_i v4; have := bd_i v4; have := bd_i (1 : Int32); have : (v4 - (1 : Int32)).toInt = v4.toInt - (1 : Int32).toInt := sb_i (by omega) (by omega); omega) (fun v7 => ?_)
          refine wq_if _ (fun c8 => ?_) (fun c8 => ?_)
          · exact wq_t (Or.inl rfl) (wq_some (rI_i ⟨rfl, (Or.inl rfl)⟩))
          · exact ih _ _ _ (by have := lt_i c1; have := lt_i c5; have : (1 : Int32).toInt = 1 := rfl; have := bd_i len3; have := bd_i v3; have := bd_i v4; have := bd_i v4; have := bd_i (1 : Int32); have : (v4 + (1 : Int32)).toInt = v4.toInt + (1 : Int32).toInt := ad_i (by omega) (by omega); omega) (by have := lt_i c1; have := lt_i c5; have : (1 : Int32).toInt = 1 := rfl; have := bd_i len3; have := bd_i v3; have := bd_i v4; have := bd_i v4; have := bd_i (1 : Int32); have : (v4 + (1 : Int32)).toInt = v4.toInt + (1 : Int32).toInt := ad_i (by omega) (by omega); omega)
        · refine wq_gR e_2 rfl ?_
          refine wk_lJ W tdl_2 (by have := lt_i c1; have := nlt_i c5; have : (0 : Int32).toInt = 0 := rfl; omega) (by have := lt_i c1; have := nlt_i c5; have : (0 : Int32).toInt = 0 := rfl; omega) (fun v9 => ?_)
          refine wq_if _ (fun c10 => ?_) (fun c10 => ?_)
          · exact wq_t (Or.inr rfl) (wq_some (rI_i ⟨rfl, (Or.inr rfl)⟩))
          · exact wq_t (Or.inl rfl) (wq_some (rI_i ⟨rfl, (Or.inl rfl)⟩))
      · obtain ⟨sg_11, td_11, fd_11, ch_11, wv_11, dl_11, tg_11, x7_11, x8_11, x9_11, x10_11, e_11, tsg_11, ttd_11, tfd_11, tch_11, twv_11, tdl_11, ttg_11⟩ := o6 W t0
        refine wq_gR e_11 rfl ?_
        refine wk_lJ W tdl_11 (by have := nlt_i c1; have : (0 : Int32).toInt = 0 := rfl; omega) (by have := nlt_i c1; have : (0 : Int32).toInt = 0 := rfl; omega) (fun v12 => ?_)
        refine wq_if _ (fun c13 => ?_) (fun c13 => ?_)
        · exact wq_t (Or.inr rfl) (wq_some (rI_i ⟨rfl, (Or.inr rfl)⟩))
        · exact wq_t (Or.inl rfl) (wq_some (rI_i ⟨rfl, (Or.inl rfl)⟩))
theorem s_Runner_isRising {d : Nat} {h : ah_H} {v0 : Nat} {v1 : Int64} {v3 : Int32} (W : cI K κ b h) (t0 : κ v0 = some (6, 0)) : wq (vc lim (d + 1) m_Runner_isRising [.inr (.inr (some v0)), .inr (.inl v1), .inl v3] h) (rI fun x h' => h' = h ∧ (x = 0 ∨ x = 1)) := by
  refine wq_eq e_Runner_isRising ?_
  exact l_214_3 W t0 _ _ _ _ (Nat.lt_succ_self _) (by have : (1 : Int32).toInt = 1 := rfl; omega)
theorem s_Runner_findNumber {d : Nat} {h : ah_H} {v0 : Nat} {n1 : Nat} {v1 : Nat} {v2 : Int32} {v3 : Int32} (W : cI K κ b h) (t0 : κ v0 = some (6, 0)) (t1 : κ v1 = some (10, n1)) : wq (vc lim (d + 5) m_Runner_findNumber [.inr (.inr (some v0)), .inr (.inr (some v1)), .inl v2, .inl v3] h) (rI fun x h' => cI K κ b h' ∧ fk [1, 2, 10] κ h h' ∧ (x = 0 ∨ x = 1)) := by
  refine wq_eq e_Runner_findNumber ?_
  obtain ⟨sg_1, td_1, fd_1, ch_1, wv_1, dl_1, tg_1, x7_1, x8_1, x9_1, x10_1, e_1, tsg_1, ttd_1, tfd_1, tch_1, twv_1, tdl_1, ttg_1⟩ := o6 W t0
  refine wq_gR e_1 rfl ?_
  obtain ⟨nd_2, nn_2, vr_2, vn_2, s2_2, s3_2, s4_2, s5_2, s6_2, s7_2, s8_2, w9_2, nx_2, en_2, e_2, tnd_2, tvr_2, tnx_2, ten_2⟩ := o10 W t1
  refine wq_gR e_2 rfl ?_
  refine wk_at W tnd_2 rfl (fun _ => ?_)
  refine wq_cI (s_Nodes_kid W tnd_2) ?_
  rintro y5 h3 ⟨rfl, p6⟩
  refine wk_at W tfd_1 rfl (fun _ => ?_)
  refine wq_cI (s_Finder_find W tfd_1 t1) ?_
  rintro y10 h7 ⟨W8, g9, p11⟩
  have G12 := fk_c (ws := [1, 2, 10]) fk_0 g9 rfl
  have e13 := (g9 _ _ _ t0 rfl).trans e_1
  refine wq_if _ (fun c14 => ?_) (fun c14 => ?_)
  · exact wq_t (Or.inl rfl) (wq_some (rI_i ⟨W8, G12, (Or.inl rfl)⟩))
  · refine wq_gR e13 rfl ?_
    refine wk_at W8 tfd_1 rfl (fun _ => ?_)
    refine wq_cI (s_Finder_isNumber W8 tfd_1) ?_
    rintro y17 h15 ⟨rfl, p18⟩
    refine wq_if _ (fun c19 => ?_) (fun c19 => ?_)
    · refine wk_at W8 t1 rfl (fun _ => ?_)
      refine wq_cI (s_Unit_fail W8 t1) ?_
      rintro y23 h20 ⟨W21, g22, p24⟩
      have G25 := fk_c (ws := [1, 2, 10]) G12 g22 rfl
      have e26 := (g22 _ _ _ t0 rfl).trans e13
      refine wq_if _ (fun c27 => ?_) (fun c27 => ?_)
      · exact wq_t (Or.inl rfl) (wq_some (rI_i ⟨W21, G25, (Or.inl rfl)⟩))
      · exact wq_t (Or.inr rfl) (wq_some (rI_i ⟨W21, G25, (Or.inr rfl)⟩))
    · exact wq_t (Or.inr rfl) (wq_some (rI_i ⟨W8, G12, (Or.inr rfl)⟩))
theorem s_Runner_tell {d : Nat} {h : ah_H} {v0 : Nat} {n1 : Nat} {v1 : Nat} {v2 : Int32} (W : cI K κ b h) (t0 : κ v0 = some (6, 0)) (t1 : κ v1 = some (10, n1)) : wq (vc lim (d + 5) m_Runner_tell [.inr (.inr (some v0)), .inr (.inr (some v1)), .inl v2] h) (rI fun x h' => cI K κ b h' ∧ fk [9, 10, 101, 105] κ h h' ∧ (x = 0 ∨ x = 1)) := by
  refine wq_eq e_Runner_tell ?_
  obtain ⟨sg_1, td_1, fd_1, ch_1, wv_1, dl_1, tg_1, x7_1, x8_1, x9_1, x10_1, e_1, tsg_1, ttd_1, tfd_1, tch_1, twv_1, tdl_1, ttg_1⟩ := o6 W t0
  refine wq_gR e_1 rfl ?_
  refine wk_at W ttd_1 rfl (fun _ => ?_)
  refine wq_cI (s_Told_hasRoomFor W ttd_1) ?_
  rintro y4 h2 ⟨rfl, p5⟩
  refine wq_if _ (fun c6 => ?_) (fun c6 => ?_)
  · refine wk_at W t1 rfl (fun _ => ?_)
    refine wq_cI (s_Unit_fail W t1) ?_
    rintro y10 h7 ⟨W8, g9, p11⟩
    have G12 := fk_c (ws := [9, 10, 101, 105]) fk_0 g9 rfl
    have e13 := (g9 _ _ _ t0 rfl).trans e_1
    exact wq_t p11 (wq_some (rI_i ⟨W8, G12, p11⟩))
  · obtain ⟨aA_14, aB_14, aC_14, aD_14, aE_14, aF_14, aG_14, aH_14, aI_14, aJ_14, c_14, to_14, e_14, taA_14, taB_14, taC_14, taD_14, taE_14, taF_14, taG_14, taH_14, taI_14, taJ_14, b0_14, b1_14, b2_14, b3_14⟩ := o9 W ttd_1
    have f15 := p5.2 (p5.1.resolve_left c6) _ e_14 _ rfl
    refine wq_gR e_1 rfl ?_
    refine wq_gR e_1 rfl ?_
    refine wk_at W tfd_1 rfl (fun _ => ?_)
    refine wq_cR (s_Finder_found W tfd_1) ?_
    rintro _ h16 ⟨rfl, a20, rfl, p19⟩
    obtain ⟨i_21, l_21, n_21, bA_21, bB_21, bC_21, bD_21, e_21⟩ := o1 W p19
    refine wq_gJ e_21 rfl ?_
    refine wk_at W ttd_1 rfl (fun _ => ?_)
    refine wq_cV (s_Told_tellReport W ttd_1) ?_
    rintro h22 ⟨W23, g24⟩
    have G25 := fk_c (ws := [9, 10, 101, 105]) fk_0 g24 rfl
    have e26 := (g24 _ _ _ t0 rfl).trans e_1
    have e27 := (g24 _ _ _ p19 rfl).trans e_21
    refine wk_at W23 t1 rfl (fun _ => ?_)
    refine wq_cI (s_Unit_goBehind W23 t1) ?_
    rintro y31 h28 ⟨W29, g30, p32⟩
    have G33 := fk_c (ws := [9, 10, 101, 105]) G25 g30 rfl
    have e34 := (g30 _ _ _ t0 rfl).trans e26
    have e35 := (g30 _ _ _ p19 rfl).trans e27
    exact wq_t p32 (wq_some (rI_i ⟨W29, G33, p32⟩))
theorem s_Runner_check {d : Nat} {h : ah_H} {v0 : Nat} {n1 : Nat} {v1 : Nat} {v2 : Int32} (W : cI K κ b h) (t0 : κ v0 = some (6, 0)) (t1 : κ v1 = some (10, n1)) : wq (vc lim (d + 6) m_Runner_check [.inr (.inr (some v0)), .inr (.inr (some v1)), .inl v2] h) (rI fun x h' => cI K κ b h' ∧ fk [1, 2, 9, 10, 101, 105] κ h h' ∧ (x = 0 ∨ x = 1)) := by
  refine wq_eq e_Runner_check ?_
  refine wk_at W t0 rfl (fun _ => ?_)
  refine wq_cI (s_Runner_findNumber W t0 t1) ?_
  rintro y4 h1 ⟨W2, g3, p5⟩
  have G6 := fk_c (ws := [1, 2, 9, 10, 101, 105]) fk_0 g3 rfl
  refine wq_if _ (fun c7 => ?_) (fun c7 => ?_)
  · exact wq_t (Or.inl rfl) (wq_some (rI_i ⟨W2, G6, (Or.inl rfl)⟩))
  · obtain ⟨sg_8, td_8, fd_8, ch_8, wv_8, dl_8, tg_8, x7_8, x8_8, x9_8, x10_8, e_8, tsg_8, ttd_8, tfd_8, tch_8, twv_8, tdl_8, ttg_8⟩ := o6 W2 t0
    refine wq_gR e_8 rfl ?_
    refine wk_at W2 tfd_8 rfl (fun _ => ?_)
    refine wq_cR (s_Finder_found W2 tfd_8) ?_
    rintro _ h9 ⟨rfl, a13, rfl, p12⟩
    obtain ⟨i_14, l_14, n_14, bA_14, bB_14, bC_14, bD_14, e_14⟩ := o1 W2 p12
    refine wq_gJ e_14 rfl ?_
    refine wq_if _ (fun c15 => ?_) (fun c15 => ?_)
    · refine wk_at W2 t0 rfl (fun _ => ?_)
      refine wq_cI (s_Runner_findNumber W2 t0 t1) ?_
      rintro y19 h16 ⟨W17, g18, p20⟩
      have G21 := fk_c (ws := [1, 2, 9, 10, 101, 105]) G6 g18 rfl
      have e22 := (g18 _ _ _ t0 rfl).trans e_8
      refine wq_if _ (fun c23 => ?_) (fun c23 => ?_)
      · exact wq_t (Or.inl rfl) (wq_some (rI_i ⟨W17, G21, (Or.inl rfl)⟩))
      · refine wk_at W17 t0 rfl (fun _ => ?_)
        refine wq_cI (s_Runner_tell W17 t0 t1) ?_
        rintro y27 h24 ⟨W25, g26, p28⟩
        have G29 := fk_c (ws := [1, 2, 9, 10, 101, 105]) G21 g26 rfl
        have e30 := (g26 _ _ _ t0 rfl).trans e22
        refine wq_if _ (fun c31 => ?_) (fun c31 => ?_)
        · exact wq_t (Or.inl rfl) (wq_some (rI_i ⟨W25, G29, (Or.inl rfl)⟩))
        · exact wq_t (Or.inr rfl) (wq_some (rI_i ⟨W25, G29, (Or.inr rfl)⟩))
    · refine wk_at W2 t1 rfl (fun _ => ?_)
      refine wq_cI (s_Unit_goBehind W2 t1) ?_
      rintro y35 h32 ⟨W33, g34, p36⟩
      have G37 := fk_c (ws := [1, 2, 9, 10, 101, 105]) G6 g34 rfl
      have e38 := (g34 _ _ _ t0 rfl).trans e_8
      have e39 := (g34 _ _ _ p12 rfl).trans e_14
      exact wq_t p36 (wq_some (rI_i ⟨W33, G37, p36⟩))
theorem s_Runner_pause {d : Nat} {h : ah_H} {v0 : Nat} {n1 : Nat} {v1 : Nat} {v2 : Int32} (W : cI K κ b h) (t0 : κ v0 = some (6, 0)) (t1 : κ v1 = some (10, n1)) : wq (vc lim (d + 6) m_Runner_pause [.inr (.inr (some v0)), .inr (.inr (some v1)), .inl v2] h) (rI fun x h' => cI K κ b h' ∧ fk [1, 2, 10] κ h h' ∧ (x = 0 ∨ x = 1)) := by
  refine wq_eq e_Runner_pause ?_
  obtain ⟨nd_1, nn_1, vr_1, vn_1, s2_1, s3_1, s4_1, s5_1, s6_1, s7_1, s8_1, w9_1, nx_1, en_1, e_1, tnd_1, tvr_1, tnx_1, ten_1⟩ := o10 W t1
  refine wq_gR e_1 rfl ?_
  refine wk_at W tnd_1 rfl (fun _ => ?_)
  refine wq_cI (s_Nodes_kid W tnd_1) ?_
  rintro y4 h2 ⟨rfl, p5⟩
  refine wq_gR e_1 rfl ?_
  refine wk_at W tnd_1 rfl (fun _ => ?_)
  refine wq_cI (s_Nodes_kindOf W tnd_1) ?_
  rintro y8 h6 ⟨rfl, p9⟩
  refine wq_if _ (fun c10 => ?_) (fun c10 => ?_)
  · refine wk_at W t1 rfl (fun _ => ?_)
    refine wq_cI (s_Unit_waitAt W t1) ?_
    rintro y14 h11 ⟨W12, g13, p15⟩
    have G16 := fk_c (ws := [1, 2, 10]) fk_0 g13 rfl
    exact wq_t p15 (wq_some (rI_i ⟨W12, G16, p15⟩))
  · obtain ⟨sg_17, td_17, fd_17, ch_17, wv_17, dl_17, tg_17, x7_17, x8_17, x9_17, x10_17, e_17, tsg_17, ttd_17, tfd_17, tch_17, twv_17, tdl_17, ttg_17⟩ := o6 W t0
    refine wq_gR e_17 rfl ?_
    refine wk_at W tfd_17 rfl (fun _ => ?_)
    refine wq_cI (s_Finder_find W tfd_17 t1) ?_
    rintro y21 h18 ⟨W19, g20, p22⟩
    have G23 := fk_c (ws := [1, 2, 10]) fk_0 g20 rfl
    have e24 := (g20 _ _ _ t0 rfl).trans e_17
    refine wq_if _ (fun c25 => ?_) (fun c25 => ?_)
    · exact wq_t (Or.inl rfl) (wq_some (rI_i ⟨W19, G23, (Or.inl rfl)⟩))
    · refine wq_gR e24 rfl ?_
      refine wk_at W19 tfd_17 rfl (fun _ => ?_)
      refine wq_cR (s_Finder_found W19 tfd_17) ?_
      rintro _ h26 ⟨rfl, a30, rfl, p29⟩
      obtain ⟨i_31, l_31, n_31, bA_31, bB_31, bC_31, bD_31, e_31⟩ := o1 W19 p29
      refine wq_gJ e_31 rfl ?_
      refine wk_at W19 t1 rfl (fun _ => ?_)
      refine wq_cI (s_Unit_waitAt W19 t1) ?_
      rintro y35 h32 ⟨W33, g34, p36⟩
      have G37 := fk_c (ws := [1, 2, 10]) G23 g34 rfl
      have e38 := (g34 _ _ _ t0 rfl).trans e24
      have e39 := (g34 _ _ _ p29 rfl).trans e_31
      refine wq_if _ (fun c40 => ?_) (fun c40 => ?_)
      · exact wq_t (Or.inl rfl) (wq_some (rI_i ⟨W33, G37, (Or.inl rfl)⟩))
      · exact wq_t (Or.inr rfl) (wq_some (rI_i ⟨W33, G37, (Or.inr rfl)⟩))
theorem s_Runner_leave {d : Nat} {h : ah_H} {v0 : Nat} {n1 : Nat} {v1 : Nat} {v2 : Int32} (W : cI K κ b h) (t0 : κ v0 = some (6, 0)) (t1 : κ v1 = some (10, n1)) : wq (vc lim (d + 6) m_Runner_leave [.inr (.inr (some v0)), .inr (.inr (some v1)), .inl v2] h) (rI fun x h' => cI K κ b h' ∧ fk [1, 2, 10] κ h h' ∧ (x = 0 ∨ x = 1)) := by
  refine wq_eq e_Runner_leave ?_
  obtain ⟨nd_1, nn_1, vr_1, vn_1, s2_1, s3_1, s4_1, s5_1, s6_1, s7_1, s8_1, w9_1, nx_1, en_1, e_1, tnd_1, tvr_1, tnx_1, ten_1⟩ := o10 W t1
  refine wq_gR e_1 rfl ?_
  refine wq_gR e_1 rfl ?_
  refine wk_at W tnd_1 rfl (fun _ => ?_)
  refine wq_cI (s_Nodes_kid W tnd_1) ?_
  rintro y4 h2 ⟨rfl, p5⟩
  refine wk_at W tnd_1 rfl (fun _ => ?_)
  refine wq_cI (s_Nodes_kindOf W tnd_1) ?_
  rintro y8 h6 ⟨rfl, p9⟩
  refine wq_if _ (fun c10 => ?_) (fun c10 => ?_)
  · refine wq_eq q_220_54 ?_
    refine wq_f (by decide) ?_
    refine wq_gR e_1 rfl ?_
    refine wk_at W tnd_1 rfl (fun _ => ?_)
    refine wq_cI (s_Nodes_loopOf W tnd_1) ?_
    rintro y13 h11 ⟨rfl, p14⟩
    refine wq_gR e_1 rfl ?_
    refine wk_at W tnd_1 rfl (fun _ => ?_)
    refine wq_cI (s_Nodes_kindOf W tnd_1) ?_
    rintro y17 h15 ⟨rfl, p18⟩
    refine wq_if _ (fun c19 => ?_) (fun c19 => ?_)
    · refine wk_at W t1 rfl (fun _ => ?_)
      refine wq_cI (s_Unit_goBehind W t1) ?_
      rintro y23 h20 ⟨W21, g22, p24⟩
      have G25 := fk_c (ws := [1, 2, 10]) fk_0 g22 rfl
      exact wq_t p24 (wq_some (rI_i ⟨W21, G25, p24⟩))
    · refine wk_at W t1 rfl (fun _ => ?_)
      refine wq_cI (s_Unit_goToLook W t1) ?_
      rintro y29 h26 ⟨W27, g28, p30⟩
      have G31 := fk_c (ws := [1, 2, 10]) fk_0 g28 rfl
      exact wq_t p30 (wq_some (rI_i ⟨W27, G31, p30⟩))
  · refine wk_at W t0 rfl (fun _ => ?_)
    refine wq_cI (s_Runner_findNumber W t0 t1) ?_
    rintro y35 h32 ⟨W33, g34, p36⟩
    have G37 := fk_c (ws := [1, 2, 10]) fk_0 g34 rfl
    refine wq_if _ (fun c38 => ?_) (fun c38 => ?_)
    · exact wq_t (Or.inl rfl) (wq_some (rI_i ⟨W33, G37, (Or.inl rfl)⟩))
    · obtain ⟨sg_39, td_39, fd_39, ch_39, wv_39, dl_39, tg_39, x7_39, x8_39, x9_39, x10_39, e_39, tsg_39, ttd_39, tfd_39, tch_39, twv_39, tdl_39, ttg_39⟩ := o6 W33 t0
      refine wq_gR e_39 rfl ?_
      refine wk_at W33 tfd_39 rfl (fun _ => ?_)
      refine wq_cR (s_Finder_found W33 tfd_39) ?_
      rintro _ h40 ⟨rfl, a44, rfl, p43⟩
      obtain ⟨i_45, l_45, n_45, bA_45, bB_45, bC_45, bD_45, e_45⟩ := o1 W33 p43
      refine wq_gJ e_45 rfl ?_
      refine wq_if _ (fun c46 => ?_) (fun c46 => ?_)
      · refine wq_eq q_220_54 ?_
        refine wq_t (by decide) ?_
        refine wk_at W33 t1 rfl (fun _ => ?_)
        refine wq_cI (s_Unit_goBehind W33 t1) ?_
        rintro y50 h47 ⟨W48, g49, p51⟩
        have G52 := fk_c (ws := [1, 2, 10]) G37 g49 rfl
        have e53 := (g49 _ _ _ t0 rfl).trans e_39
        have e54 := (g49 _ _ _ p43 rfl).trans e_45
        exact wq_t p51 (wq_some (rI_i ⟨W48, G52, p51⟩))
      · refine wq_eq q_220_54 ?_
        refine wq_f (by decide) ?_
        obtain ⟨nd_55, nn_55, vr_55, vn_55, s2_55, s3_55, s4_55, s5_55, s6_55, s7_55, s8_55, w9_55, nx_55, en_55, e_55, tnd_55, tvr_55, tnx_55, ten_55⟩ := o10 W33 t1
        refine wq_gR e_55 rfl ?_
        refine wk_at W33 tnd_55 rfl (fun _ => ?_)
        refine wq_cI (s_Nodes_loopOf W33 tnd_55) ?_
        rintro y58 h56 ⟨rfl, p59⟩
        refine wq_gR e_55 rfl ?_
        refine wk_at W33 tnd_55 rfl (fun _ => ?_)
        refine wq_cI (s_Nodes_kindOf W33 tnd_55) ?_
        rintro y62 h60 ⟨rfl, p63⟩
        refine wq_if _ (fun c64 => ?_) (fun c64 => ?_)
        · refine wk_at W33 t1 rfl (fun _ => ?_)
          refine wq_cI (s_Unit_goBehind W33 t1) ?_
          rintro y68 h65 ⟨W66, g67, p69⟩
          have G70 := fk_c (ws := [1, 2, 10]) G37 g67 rfl
          have e71 := (g67 _ _ _ t0 rfl).trans e_39
          have e72 := (g67 _ _ _ p43 rfl).trans e_45
          exact wq_t p69 (wq_some (rI_i ⟨W66, G70, p69⟩))
        · refine wk_at W33 t1 rfl (fun _ => ?_)
          refine wq_cI (s_Unit_goToLook W33 t1) ?_
          rintro y76 h73 ⟨W74, g75, p77⟩
          have G78 := fk_c (ws := [1, 2, 10]) G37 g75 rfl
          have e79 := (g75 _ _ _ t0 rfl).trans e_39
          have e80 := (g75 _ _ _ p43 rfl).trans e_45
          exact wq_t p77 (wq_some (rI_i ⟨W74, G78, p77⟩))
theorem s_Runner_look {d : Nat} {h : ah_H} {v0 : Nat} {n1 : Nat} {v1 : Nat} {v2 : Int32} (W : cI K κ b h) (t0 : κ v0 = some (6, 0)) (t1 : κ v1 = some (10, n1)) : wq (vc lim (d + 6) m_Runner_look [.inr (.inr (some v0)), .inr (.inr (some v1)), .inl v2] h) (rI fun x h' => cI K κ b h' ∧ fk [1, 2, 10, 101] κ h h' ∧ (x = 0 ∨ x = 1)) := by
  refine wq_eq e_Runner_look ?_
  obtain ⟨nd_1, nn_1, vr_1, vn_1, s2_1, s3_1, s4_1, s5_1, s6_1, s7_1, s8_1, w9_1, nx_1, en_1, e_1, tnd_1, tvr_1, tnx_1, ten_1⟩ := o10 W t1
  refine wq_gR e_1 rfl ?_
  refine wk_at W tnd_1 rfl (fun _ => ?_)
  refine wq_cI (s_Nodes_kindOf W tnd_1) ?_
  rintro y4 h2 ⟨rfl, p5⟩
  refine wq_if _ (fun c6 => ?_) (fun c6 => ?_)
  · refine wq_gR e_1 rfl ?_
    refine wk_at W tnd_1 rfl (fun _ => ?_)
    refine wq_cI (s_Nodes_kid W tnd_1) ?_
    rintro y9 h7 ⟨rfl, p10⟩
    refine wk_at W t1 rfl (fun _ => ?_)
    refine wq_cI (s_Unit_goInto W t1) ?_
    rintro y14 h11 ⟨W12, g13, p15⟩
    have G16 := fk_c (ws := [1, 2, 10, 101]) fk_0 g13 rfl
    exact wq_t p15 (wq_some (rI_i ⟨W12, G16, p15⟩))
  · refine wq_if _ (fun c17 => ?_) (fun c17 => ?_)
    · refine wk_at W t0 rfl (fun _ => ?_)
      refine wq_cI (s_Runner_findNumber W t0 t1) ?_
      rintro y21 h18 ⟨W19, g20, p22⟩
      have G23 := fk_c (ws := [1, 2, 10, 101]) fk_0 g20 rfl
      refine wq_if _ (fun c24 => ?_) (fun c24 => ?_)
      · exact wq_t (Or.inl rfl) (wq_some (rI_i ⟨W19, G23, (Or.inl rfl)⟩))
      · obtain ⟨sg_25, td_25, fd_25, ch_25, wv_25, dl_25, tg_25, x7_25, x8_25, x9_25, x10_25, e_25, tsg_25, ttd_25, tfd_25, tch_25, twv_25, tdl_25, ttg_25⟩ := o6 W19 t0
        refine wq_gR e_25 rfl ?_
        refine wk_at W19 tfd_25 rfl (fun _ => ?_)
        refine wq_cR (s_Finder_found W19 tfd_25) ?_
        rintro _ h26 ⟨rfl, a30, rfl, p29⟩
        obtain ⟨i_31, l_31, n_31, bA_31, bB_31, bC_31, bD_31, e_31⟩ := o1 W19 p29
        refine wq_gJ e_31 rfl ?_
        refine wq_if _ (fun c32 => ?_) (fun c32 => ?_)
        · refine wk_at W19 t1 rfl (fun _ => ?_)
          refine wq_cI (s_Unit_goBehind W19 t1) ?_
          rintro y36 h33 ⟨W34, g35, p37⟩
          have G38 := fk_c (ws := [1, 2, 10, 101]) G23 g35 rfl
          have e39 := (g35 _ _ _ t0 rfl).trans e_25
          have e40 := (g35 _ _ _ p29 rfl).trans e_31
          exact wq_t p37 (wq_some (rI_i ⟨W34, G38, p37⟩))
        · obtain ⟨nd_41, nn_41, vr_41, vn_41, s2_41, s3_41, s4_41, s5_41, s6_41, s7_41, s8_41, w9_41, nx_41, en_41, e_41, tnd_41, tvr_41, tnx_41, ten_41⟩ := o10 W19 t1
          refine wq_gR e_41 rfl ?_
          refine wk_at W19 tnd_41 rfl (fun _ => ?_)
          refine wq_cI (s_Nodes_kid W19 tnd_41) ?_
          rintro y44 h42 ⟨rfl, p45⟩
          refine wk_at W19 t1 rfl (fun _ => ?_)
          refine wq_cI (s_Unit_goInto W19 t1) ?_
          rintro y49 h46 ⟨W47, g48, p50⟩
          have G51 := fk_c (ws := [1, 2, 10, 101]) G23 g48 rfl
          have e52 := (g48 _ _ _ t0 rfl).trans e_25
          have e53 := (g48 _ _ _ p29 rfl).trans e_31
          exact wq_t p50 (wq_some (rI_i ⟨W47, G51, p50⟩))
    · refine wk_at W t1 rfl (fun _ => ?_)
      refine wq_cI (s_Unit_isCountOver W t1) ?_
      rintro y56 h54 ⟨rfl, p57⟩
      refine wq_if _ (fun c58 => ?_) (fun c58 => ?_)
      · refine wq_gR e_1 rfl ?_
        refine wq_gR e_1 rfl ?_
        refine wq_gR e_1 rfl ?_
        refine wk_at W tnd_1 rfl (fun _ => ?_)
        refine wq_cI (s_Nodes_kid W tnd_1) ?_
        rintro y61 h59 ⟨rfl, p62⟩
        refine wk_at W tnd_1 rfl (fun _ => ?_)
        refine wq_cI (s_Nodes_givenOf W tnd_1) ?_
        rintro y65 h63 ⟨rfl, p66⟩
        refine wk_at W tvr_1 rfl (fun _ => ?_)
        refine wq_cR (s_Things_pick W tvr_1) ?_
        rintro r69 h67 ⟨rfl, p70⟩
        refine wk_at W t1 rfl (fun _ => ?_)
        refine wq_cJ (s_Unit_countOn W t1) ?_
        rintro j74 h71 ⟨W72, g73, p75⟩
        have G76 := fk_c (ws := [1, 2, 10, 101]) fk_0 g73 rfl
        have e77 := (g73 _ _ _ t1 rfl).trans e_1
        rcases r69 with _ | q78
        · refine wq_t rfl ?_
          refine wk_at W72 t1 rfl (fun _ => ?_)
          refine wq_cI (s_Unit_fail W72 t1) ?_
          rintro y82 h79 ⟨W80, g81, p83⟩
          have G84 := fk_c (ws := [1, 2, 10, 101]) G76 g81 rfl
          exact wq_t p83 (wq_some (rI_i ⟨W80, G84, p83⟩))
        · have t85 := p70 q78 rfl
          refine wq_f nofun ?_
          refine wk_at W72 t85 rfl (fun _ => ?_)
          refine wq_cI (s_Thing_allows W72 t85) ?_
          rintro y88 h86 ⟨rfl, p89⟩
          refine wq_if _ (fun c90 => ?_) (fun c90 => ?_)
          · refine wk_at W72 t1 rfl (fun _ => ?_)
            refine wq_cI (s_Unit_fail W72 t1) ?_
            rintro y94 h91 ⟨W92, g93, p95⟩
            have G96 := fk_c (ws := [1, 2, 10, 101]) G76 g93 rfl
            exact wq_t p95 (wq_some (rI_i ⟨W92, G96, p95⟩))
          · obtain ⟨i_97, l_97, lo_97, hi_97, nw_97, ls_97, ev_97, ac_97, e_97, tnw_97, tls_97⟩ := o7 W72 t85
            refine wq_gR e_97 rfl ?_
            refine wk_at W72 tnw_97 rfl (fun _ => ?_)
            refine wq_cV (s_Datum_beNumber W72 tnw_97) ?_
            rintro h98 ⟨W99, g100⟩
            have G101 := fk_c (ws := [1, 2, 10, 101]) G76 g100 rfl
            have e102 := (g100 _ _ _ t1 rfl).trans e77
            have e103 := (g100 _ _ _ t85 rfl).trans e_97
            refine wq_gR e102 rfl ?_
            refine wk_at W99 tnd_1 rfl (fun _ => ?_)
            refine wq_cI (s_Nodes_kid W99 tnd_1) ?_
            rintro y106 h104 ⟨rfl, p107⟩
            refine wk_at W99 t1 rfl (fun _ => ?_)
            refine wq_cI (s_Unit_goInto W99 t1) ?_
            rintro y111 h108 ⟨W109, g110, p112⟩
            have G113 := fk_c (ws := [1, 2, 10, 101]) G101 g110 rfl
            have e114 := (g110 _ _ _ t85 rfl).trans e103
            exact wq_t p112 (wq_some (rI_i ⟨W109, G113, p112⟩))
      · refine wk_at W t1 rfl (fun _ => ?_)
        refine wq_cI (s_Unit_goBehind W t1) ?_
        rintro y118 h115 ⟨W116, g117, p119⟩
        have G120 := fk_c (ws := [1, 2, 10, 101]) fk_0 g117 rfl
        exact wq_t p119 (wq_some (rI_i ⟨W116, G120, p119⟩))
theorem s_Runner_beginCount {d : Nat} {h : ah_H} {v0 : Nat} {n1 : Nat} {v1 : Nat} {v2 : Int32} (W : cI K κ b h) (t0 : κ v0 = some (6, 0)) (t1 : κ v1 = some (10, n1)) : wq (vc lim (d + 6) m_Runner_beginCount [.inr (.inr (some v0)), .inr (.inr (some v1)), .inl v2] h) (rI fun x h' => cI K κ b h' ∧ fk [1, 2, 10, 101] κ h h' ∧ (x = 0 ∨ x = 1)) := by
  refine wq_eq e_Runner_beginCount ?_
  refine wk_at W t0 rfl (fun _ => ?_)
  refine wq_cI (s_Runner_findNumber W t0 t1) ?_
  rintro y4 h1 ⟨W2, g3, p5⟩
  have G6 := fk_c (ws := [1, 2, 10, 101]) fk_0 g3 rfl
  refine wq_if _ (fun c7 => ?_) (fun c7 => ?_)
  · exact wq_t (Or.inl rfl) (wq_some (rI_i ⟨W2, G6, (Or.inl rfl)⟩))
  · obtain ⟨sg_8, td_8, fd_8, ch_8, wv_8, dl_8, tg_8, x7_8, x8_8, x9_8, x10_8, e_8, tsg_8, ttd_8, tfd_8, tch_8, twv_8, tdl_8, ttg_8⟩ := o6 W2 t0
    refine wq_gR e_8 rfl ?_
    refine wk_at W2 tfd_8 rfl (fun _ => ?_)
    refine wq_cR (s_Finder_found W2 tfd_8) ?_
    rintro _ h9 ⟨rfl, a13, rfl, p12⟩
    obtain ⟨i_14, l_14, n_14, bA_14, bB_14, bC_14, bD_14, e_14⟩ := o1 W2 p12
    refine wq_gJ e_14 rfl ?_
    refine wk_at W2 t0 rfl (fun _ => ?_)
    refine wq_cI (s_Runner_findNumber W2 t0 t1) ?_
    rintro y18 h15 ⟨W16, g17, p19⟩
    have G20 := fk_c (ws := [1, 2, 10, 101]) G6 g17 rfl
    have e21 := (g17 _ _ _ t0 rfl).trans e_8
    refine wq_if _ (fun c22 => ?_) (fun c22 => ?_)
    · exact wq_t (Or.inl rfl) (wq_some (rI_i ⟨W16, G20, (Or.inl rfl)⟩))
    · refine wq_gR e21 rfl ?_
      refine wk_at W16 tfd_8 rfl (fun _ => ?_)
      refine wq_cR (s_Finder_found W16 tfd_8) ?_
      rintro _ h23 ⟨rfl, a27, rfl, p26⟩
      obtain ⟨i_28, l_28, n_28, bA_28, bB_28, bC_28, bD_28, e_28⟩ := o1 W16 p26
      refine wq_gJ e_28 rfl ?_
      refine wk_at W16 t1 rfl (fun _ => ?_)
      refine wq_cV (s_Unit_beginCount W16 t1) ?_
      rintro h29 ⟨W30, g31⟩
      have G32 := fk_c (ws := [1, 2, 10, 101]) G20 g31 rfl
      have e33 := (g31 _ _ _ t0 rfl).trans e21
      have e34 := (g31 _ _ _ p26 rfl).trans e_28
      refine wk_at W30 t1 rfl (fun _ => ?_)
      refine wq_cI (s_Unit_goToLook W30 t1) ?_
      rintro y38 h35 ⟨W36, g37, p39⟩
      have G40 := fk_c (ws := [1, 2, 10, 101]) G32 g37 rfl
      have e41 := (g37 _ _ _ t0 rfl).trans e33
      have e42 := (g37 _ _ _ p26 rfl).trans e34
      exact wq_t p39 (wq_some (rI_i ⟨W36, G40, p39⟩))
theorem l_217_76 {d : Nat} {h : ah_H} {v0 : Nat} {n1 : Nat} {v1 : Nat} {w2 : Int32} {w3 : Int32} (t0 : κ v0 = some (6, 0)) (t1 : κ v1 = some (10, n1)) (ko38 : ∀ h', cI K κ b h' → fk [1, 2, 10] κ h h' → wq (ah_val lim ah_P (d + 4) 217 38 [some (.inr (.inr (some v0))), some (.inr (.inr (some v1))), some (.inl w2), some (.inl (w3 + (1 : Int32))), none, none, none, none, none] [] h') (rI fun x h' => cI K κ b h' ∧ fk [1, 2, 10] κ h h' ∧ (x = 0 ∨ x = 1))) : ∀ (m : Nat) (h1 : ah_H) (v4 : Int32) (v5 : Int32) (v6 : Int32), (2147483647 - v6.toInt).toNat < m → cI K κ b h1 → fk [1, 2, 10] κ h h1 → wq (ah_val lim ah_P (d + 4) 217 76 [some (.inr (.inr (some v0))), some (.inr (.inr (some v1))), some (.inl w2), some (.inl w3), some (.inl v4), some (.inl v5), some (.inl v6), none, none] [] h1) (rI fun x h' => cI K κ b h' ∧ fk [1, 2, 10] κ h h' ∧ (x = 0 ∨ x = 1)) := by
  intro m
  induction m with
  | zero => intros; omega
  | succ m ih =>
      intro h1 v4 v5 v6 hm W G
      refine wq_eq q_217_76 ?_
      obtain ⟨nd_1, nn_1, vr_1, vn_1, s2_1, s3_1, s4_1, s5_1, s6_1, s7_1, s8_1, w9_1, nx_1, en_1, e_1, tnd_1, tvr_1, tnx_1, ten_1⟩ := o10 W t1
      refine wq_gR e_1 rfl ?_
      refine wk_at W tnd_1 rfl (fun _ => ?_)
      refine wq_cI (s_Nodes_kidsOf W tnd_1) ?_
      rintro y4 h2 ⟨rfl, p5⟩
      refine wq_if _ (fun c6 => ?_) (fun c6 => ?_)
      · refine wq_gR e_1 rfl ?_
        refine wk_at W tnd_1 rfl (fun _ => ?_)
        refine wq_cI (s_Nodes_kid W tnd_1) ?_
        rintro y9 h7 ⟨rfl, p10⟩
        refine wq_gR e_1 rfl ?_
        refine wk_at W tnd_1 rfl (fun _ => ?_)
        refine wq_cI (s_Nodes_kindOf W tnd_1) ?_
        rintro y13 h11 ⟨rfl, p14⟩
        refine wq_if _ (fun c15 => ?_) (fun c15 => ?_)
        · refine wq_gR e_1 rfl ?_
          refine wk_at W tnd_1 rfl (fun _ => ?_)
          refine wq_cI (s_Nodes_kid W tnd_1) ?_
          rintro y18 h16 ⟨rfl, p19⟩
          refine wk_at W t1 rfl (fun _ => ?_)
          refine wq_cI (s_Unit_goInto W t1) ?_
          rintro y23 h20 ⟨W21, g22, p24⟩
          have G25 := fk_c (ws := [1, 2, 10]) G g22 rfl
          exact wq_t p24 (wq_some (rI_i ⟨W21, G25, p24⟩))
        · obtain ⟨sg_26, td_26, fd_26, ch_26, wv_26, dl_26, tg_26, x7_26, x8_26, x9_26, x10_26, e_26, tsg_26, ttd_26, tfd_26, tch_26, twv_26, tdl_26, ttg_26⟩ := o6 W t0
          refine wq_gR e_26 rfl ?_
          refine wk_at W tfd_26 rfl (fun _ => ?_)
          refine wq_cI (s_Finder_find W tfd_26 t1) ?_
          rintro y30 h27 ⟨W28, g29, p31⟩
          have G32 := fk_c (ws := [1, 2, 10]) G g29 rfl
          have e33 := (g29 _ _ _ t0 rfl).trans e_26
          refine wq_if _ (fun c34 => ?_) (fun c34 => ?_)
          · exact wq_t (Or.inl rfl) (wq_some (rI_i ⟨W28, G32, (Or.inl rfl)⟩))
          · refine wq_gR e33 rfl ?_
            refine wq_gR e33 rfl ?_
            refine wk_at W28 tfd_26 rfl (fun _ => ?_)
            refine wq_cR (s_Finder_found W28 tfd_26) ?_
            rintro _ h35 ⟨rfl, a39, rfl, p38⟩
            refine wk_at W28 tch_26 rfl (fun _ => ?_)
            refine wq_cI (s_Datum_unlike W28 tch_26 p38) ?_
            rintro y42 h40 ⟨rfl, p43⟩
            refine wq_if _ (fun c44 => ?_) (fun c44 => ?_)
            · refine wq_gR e33 rfl ?_
              refine wq_gR e33 rfl ?_
              refine wk_at W28 tfd_26 rfl (fun _ => ?_)
              refine wq_cR (s_Finder_found W28 tfd_26) ?_
              rintro _ h45 ⟨rfl, a49, rfl, p48⟩
              refine wk_at W28 tch_26 rfl (fun _ => ?_)
              refine wq_cI (s_Datum_isSame W28 tch_26 p48) ?_
              rintro y52 h50 ⟨rfl, p53⟩
              refine wq_if _ (fun c54 => ?_) (fun c54 => ?_)
              · exact ih _ _ _ _ (by have := lt_i c6; have := ne_i c15; have := ne_i c34; have := congrArg Int32.toInt c44; have := congrArg Int32.toInt c54; have : (0 : Int32).toInt = 0 := rfl; have : (1 : Int32).toInt = 1 := rfl; have : (37 : Int32).toInt = 37 := rfl; have := bd_i v6; have := bd_i y13; have := bd_i y30; have := bd_i y4; have := bd_i y42; have := bd_i y52; have := bd_i v6; have := bd_i (1 : Int32); have : (v6 + (1 : Int32)).toInt = v6.toInt + (1 : Int32).toInt := ad_i (by omega) (by omega); omega) W28 G32
              · obtain ⟨nd_55, nn_55, vr_55, vn_55, s2_55, s3_55, s4_55, s5_55, s6_55, s7_55, s8_55, w9_55, nx_55, en_55, e_55, tnd_55, tvr_55, tnx_55, ten_55⟩ := o10 W28 t1
                refine wq_gR e_55 rfl ?_
                refine wk_at W28 tnd_55 rfl (fun _ => ?_)
                refine wq_cI (s_Nodes_kid W28 tnd_55) ?_
                rintro y58 h56 ⟨rfl, p59⟩
                refine wk_at W28 t1 rfl (fun _ => ?_)
                refine wq_cI (s_Unit_goInto W28 t1) ?_
                rintro y63 h60 ⟨W61, g62, p64⟩
                have G65 := fk_c (ws := [1, 2, 10]) G32 g62 rfl
                have e66 := (g62 _ _ _ t0 rfl).trans e33
                exact wq_t p64 (wq_some (rI_i ⟨W61, G65, p64⟩))
            · refine wk_at W28 t1 rfl (fun _ => ?_)
              refine wq_cI (s_Unit_fail W28 t1) ?_
              rintro y70 h67 ⟨W68, g69, p71⟩
              have G72 := fk_c (ws := [1, 2, 10]) G32 g69 rfl
              have e73 := (g69 _ _ _ t0 rfl).trans e33
              exact wq_t p71 (wq_some (rI_i ⟨W68, G72, p71⟩))
      · exact ko38 _ W G
theorem l_217_38 {d : Nat} {h : ah_H} {v0 : Nat} {n1 : Nat} {v1 : Nat} (t0 : κ v0 = some (6, 0)) (t1 : κ v1 = some (10, n1)) : ∀ (m : Nat) (h1 : ah_H) (v2 : Int32) (v3 : Int32), (2147483647 - v3.toInt).toNat < m → cI K κ b h1 → fk [1, 2, 10] κ h h1 → wq (ah_val lim ah_P (d + 4) 217 38 [some (.inr (.inr (some v0))), some (.inr (.inr (some v1))), some (.inl v2), some (.inl v3), none, none, none, none, none] [] h1) (rI fun x h' => cI K κ b h' ∧ fk [1, 2, 10] κ h h' ∧ (x = 0 ∨ x = 1)) := by
  intro m
  induction m with
  | zero => intros; omega
  | succ m ih =>
      intro h1 v2 v3 hm W G
      refine wq_eq q_217_38 ?_
      obtain ⟨nd_1, nn_1, vr_1, vn_1, s2_1, s3_1, s4_1, s5_1, s6_1, s7_1, s8_1, w9_1, nx_1, en_1, e_1, tnd_1, tvr_1, tnx_1, ten_1⟩ := o10 W t1
      refine wq_gR e_1 rfl ?_
      refine wk_at W tnd_1 rfl (fun _ => ?_)
      refine wq_cI (s_Nodes_kidsOf W tnd_1) ?_
      rintro y4 h2 ⟨rfl, p5⟩
      refine wq_if _ (fun c6 => ?_) (fun c6 => ?_)
      · refine wq_gR e_1 rfl ?_
        refine wk_at W tnd_1 rfl (fun _ => ?_)
        refine wq_cI (s_Nodes_kid W tnd_1) ?_
        rintro y9 h7 ⟨rfl, p10⟩
        refine wq_gR e_1 rfl ?_
        refine wk_at W tnd_1 rfl (fun _ => ?_)
        refine wq_cI (s_Nodes_kid W tnd_1) ?_
        rintro y13 h11 ⟨rfl, p14⟩
        exact l_217_76 t0 t1 (fun _ W' G' => ih _ _ _ (by have := lt_i c6; have : (1 : Int32).toInt = 1 := rfl; have := bd_i v3; have := bd_i y4; have := bd_i v3; have := bd_i (1 : Int32); have : (v3 + (1 : Int32)).toInt = v3.toInt + (1 : Int32).toInt := ad_i (by omega) (by omega); omega) W' G') _ _ _ _ _ (Nat.lt_succ_self _) W G
      · refine wk_at W t1 rfl (fun _ => ?_)
        refine wq_cI (s_Unit_fail W t1) ?_
        rintro y18 h15 ⟨W16, g17, p19⟩
        have G20 := fk_c (ws := [1, 2, 10]) G g17 rfl
        exact wq_t p19 (wq_some (rI_i ⟨W16, G20, p19⟩))
theorem s_Runner_compare {d : Nat} {h : ah_H} {v0 : Nat} {n1 : Nat} {v1 : Nat} {v2 : Int32} (W : cI K κ b h) (t0 : κ v0 = some (6, 0)) (t1 : κ v1 = some (10, n1)) : wq (vc lim (d + 5) m_Runner_compare [.inr (.inr (some v0)), .inr (.inr (some v1)), .inl v2] h) (rI fun x h' => cI K κ b h' ∧ fk [1, 2, 10] κ h h' ∧ (x = 0 ∨ x = 1)) := by
  refine wq_eq e_Runner_compare ?_
  obtain ⟨sg_1, td_1, fd_1, ch_1, wv_1, dl_1, tg_1, x7_1, x8_1, x9_1, x10_1, e_1, tsg_1, ttd_1, tfd_1, tch_1, twv_1, tdl_1, ttg_1⟩ := o6 W t0
  refine wq_gR e_1 rfl ?_
  obtain ⟨nd_2, nn_2, vr_2, vn_2, s2_2, s3_2, s4_2, s5_2, s6_2, s7_2, s8_2, w9_2, nx_2, en_2, e_2, tnd_2, tvr_2, tnx_2, ten_2⟩ := o10 W t1
  refine wq_gR e_2 rfl ?_
  refine wk_at W tnd_2 rfl (fun _ => ?_)
  refine wq_cI (s_Nodes_kid W tnd_2) ?_
  rintro y5 h3 ⟨rfl, p6⟩
  refine wk_at W tfd_1 rfl (fun _ => ?_)
  refine wq_cI (s_Finder_find W tfd_1 t1) ?_
  rintro y10 h7 ⟨W8, g9, p11⟩
  have G12 := fk_c (ws := [1, 2, 10]) fk_0 g9 rfl
  have e13 := (g9 _ _ _ t0 rfl).trans e_1
  refine wq_if _ (fun c14 => ?_) (fun c14 => ?_)
  · exact wq_t (Or.inl rfl) (wq_some (rI_i ⟨W8, G12, (Or.inl rfl)⟩))
  · refine wq_gR e13 rfl ?_
    refine wq_gR e13 rfl ?_
    refine wk_at W8 tfd_1 rfl (fun _ => ?_)
    refine wq_cR (s_Finder_found W8 tfd_1) ?_
    rintro _ h15 ⟨rfl, a19, rfl, p18⟩
    refine wk_at W8 tch_1 rfl (fun _ => ?_)
    refine wq_cV (s_Datum_copy W8 tch_1 p18) ?_
    rintro h20 ⟨W21, g22⟩
    have G23 := fk_c (ws := [1, 2, 10]) G12 g22 rfl
    have e24 := (g22 _ _ _ t0 rfl).trans e13
    exact l_217_38 t0 t1 _ _ _ _ (Nat.lt_succ_self _) W21 G23
theorem l_216_12 {d : Nat} {h : ah_H} {v0 : Nat} {n1 : Nat} {v1 : Nat} (t0 : κ v0 = some (6, 0)) (t1 : κ v1 = some (10, n1)) : ∀ (m : Nat) (h1 : ah_H) (v2 : Int32) (v3 : Int32) (v4 : Int32), (2147483647 - v4.toInt).toNat < m → 0 ≤ v4.toInt → v4.toInt % 2 = 0 → cI K κ b h1 → fk [1, 2, 10] κ h h1 → wq (ah_val lim ah_P (d + 5) 216 12 [some (.inr (.inr (some v0))), some (.inr (.inr (some v1))), some (.inl v2), some (.inl v3), some (.inl v4)] [] h1) (rI fun x h' => cI K κ b h' ∧ fk [1, 2, 10] κ h h' ∧ (x = 0 ∨ x = 1)) := by
  intro m
  induction m with
  | zero => intros; omega
  | succ m ih =>
      intro h1 v2 v3 v4 hm iv0 iv1 W G
      refine wq_eq q_216_12 ?_
      refine wq_if _ (fun c1 => ?_) (fun c1 => ?_)
      · refine wk_at W t0 rfl (fun _ => ?_)
        refine wq_cI (s_Runner_findNumber W t0 t1) ?_
        rintro y5 h2 ⟨W3, g4, p6⟩
        have G7 := fk_c (ws := [1, 2, 10]) G g4 rfl
        refine wq_if _ (fun c8 => ?_) (fun c8 => ?_)
        · exact wq_t (Or.inl rfl) (wq_some (rI_i ⟨W3, G7, (Or.inl rfl)⟩))
        · obtain ⟨sg_9, td_9, fd_9, ch_9, wv_9, dl_9, tg_9, x7_9, x8_9, x9_9, x10_9, e_9, tsg_9, ttd_9, tfd_9, tch_9, twv_9, tdl_9, ttg_9⟩ := o6 W3 t0
          refine wq_gR e_9 rfl ?_
          refine wk_at W3 tfd_9 rfl (fun _ => ?_)
          refine wq_cR (s_Finder_found W3 tfd_9) ?_
          rintro _ h10 ⟨rfl, a14, rfl, p13⟩
          obtain ⟨i_15, l_15, n_15, bA_15, bB_15, bC_15, bD_15, e_15⟩ := o1 W3 p13
          refine wq_gJ e_15 rfl ?_
          refine wq_if _ (fun c16 => ?_) (fun c16 => ?_)
          · exact ih _ _ _ _ (by have := lt_i c1; have := ne_i c8; have : (0 : Int32).toInt = 0 := rfl; have : (1 : Int32).toInt = 1 := rfl; have : (2 : Int32).toInt = 2 := rfl; have := bd_i v3; have := bd_i v4; have := bd_i y5; have := bd_i v4; have := bd_i (1 : Int32); have : (v4 + (1 : Int32)).toInt = v4.toInt + (1 : Int32).toInt := ad_i (by omega) (by omega); have := bd_i v4; have := bd_i (2 : Int32); have : (v4 + (2 : Int32)).toInt = v4.toInt + (2 : Int32).toInt := ad_i (by omega) (by omega); omega) (by have := lt_i c1; have := ne_i c8; have : (0 : Int32).toInt = 0 := rfl; have : (1 : Int32).toInt = 1 := rfl; have : (2 : Int32).toInt = 2 := rfl; have := bd_i v3; have := bd_i v4; have := bd_i y5; have := bd_i v4; have := bd_i (1 : Int32); have : (v4 + (1 : Int32)).toInt = v4.toInt + (1 : Int32).toInt := ad_i (by omega) (by omega); have := bd_i v4; have := bd_i (2 : Int32); have : (v4 + (2 : Int32)).toInt = v4.toInt + (2 : Int32).toInt := ad_i (by omega) (by omega); omega) (by have := lt_i c1; have := ne_i c8; have : (0 : Int32).toInt = 0 := rfl; have : (1 : Int32).toInt = 1 := rfl; have : (2 : Int32).toInt = 2 := rfl; have := bd_i v3; have := bd_i v4; have := bd_i y5; have := bd_i v4; have := bd_i (1 : Int32); have : (v4 + (1 : Int32)).toInt = v4.toInt + (1 : Int32).toInt := ad_i (by omega) (by omega); have := bd_i v4; have := bd_i (2 : Int32); have : (v4 + (2 : Int32)).toInt = v4.toInt + (2 : Int32).toInt := ad_i (by omega) (by omega); omega) W3 G7
          · obtain ⟨nd_17, nn_17, vr_17, vn_17, s2_17, s3_17, s4_17, s5_17, s6_17, s7_17, s8_17, w9_17, nx_17, en_17, e_17, tnd_17, tvr_17, tnx_17, ten_17⟩ := o10 W3 t1
            refine wq_gR e_17 rfl ?_
            refine wk_at W3 tnd_17 rfl (fun _ => ?_)
            refine wq_cI (s_Nodes_kid W3 tnd_17) ?_
            rintro y20 h18 ⟨rfl, p21⟩
            refine wk_at W3 t1 rfl (fun _ => ?_)
            refine wq_cI (s_Unit_goInto W3 t1) ?_
            rintro y25 h22 ⟨W23, g24, p26⟩
            have G27 := fk_c (ws := [1, 2, 10]) G7 g24 rfl
            have e28 := (g24 _ _ _ t0 rfl).trans e_9
            have e29 := (g24 _ _ _ p13 rfl).trans e_15
            exact wq_t p26 (wq_some (rI_i ⟨W23, G27, p26⟩))
      · refine wq_f (by decide) ?_
        refine wq_if _ (fun c30 => ?_) (fun c30 => ?_)
        · refine wk_at W t1 rfl (fun _ => ?_)
          refine wq_cI (s_Unit_goBehind W t1) ?_
          rintro y34 h31 ⟨W32, g33, p35⟩
          have G36 := fk_c (ws := [1, 2, 10]) G g33 rfl
          exact wq_t p35 (wq_some (rI_i ⟨W32, G36, p35⟩))
        · obtain ⟨nd_37, nn_37, vr_37, vn_37, s2_37, s3_37, s4_37, s5_37, s6_37, s7_37, s8_37, w9_37, nx_37, en_37, e_37, tnd_37, tvr_37, tnx_37, ten_37⟩ := o10 W t1
          refine wq_gR e_37 rfl ?_
          refine wk_at W tnd_37 rfl (fun _ => ?_)
          refine wq_cI (s_Nodes_kid W tnd_37) ?_
          rintro y40 h38 ⟨rfl, p41⟩
          refine wk_at W t1 rfl (fun _ => ?_)
          refine wq_cI (s_Unit_goInto W t1) ?_
          rintro y45 h42 ⟨W43, g44, p46⟩
          have G47 := fk_c (ws := [1, 2, 10]) G g44 rfl
          exact wq_t p46 (wq_some (rI_i ⟨W43, G47, p46⟩))
theorem s_Runner_choose {d : Nat} {h : ah_H} {v0 : Nat} {n1 : Nat} {v1 : Nat} {v2 : Int32} (W : cI K κ b h) (t0 : κ v0 = some (6, 0)) (t1 : κ v1 = some (10, n1)) : wq (vc lim (d + 6) m_Runner_choose [.inr (.inr (some v0)), .inr (.inr (some v1)), .inl v2] h) (rI fun x h' => cI K κ b h' ∧ fk [1, 2, 10] κ h h' ∧ (x = 0 ∨ x = 1)) := by
  refine wq_eq e_Runner_choose ?_
  obtain ⟨nd_1, nn_1, vr_1, vn_1, s2_1, s3_1, s4_1, s5_1, s6_1, s7_1, s8_1, w9_1, nx_1, en_1, e_1, tnd_1, tvr_1, tnx_1, ten_1⟩ := o10 W t1
  refine wq_gR e_1 rfl ?_
  refine wk_at W tnd_1 rfl (fun _ => ?_)
  refine wq_cI (s_Nodes_kidsOf W tnd_1) ?_
  rintro y4 h2 ⟨rfl, p5⟩
  exact l_216_12 t0 t1 _ _ _ _ _ (Nat.lt_succ_self _) (by have : (0 : Int32).toInt = 0 := rfl; omega) (by have : (0 : Int32).toInt = 0 := rfl; omega) W fk_0
theorem j_211_134 {d : Nat} {h h1 : ah_H} {v0 : Nat} {nv1 : Nat} {v1 : Nat} {v2 : Int32} {nv3 : Nat} {v3 : Nat} {v4 : Int32} {s0 : Nat} {s1 : Int32} (tv0 : κ v0 = some (6, 0)) (tv1 : κ v1 = some (10, nv1)) (tv3 : κ v3 = some (5, nv3)) (ts0 : κ s0 = some (6, 0)) (W : cI K κ b h1) (G : fk [1, 2, 6, 10] κ h h1) : wq (ah_val lim ah_P (d + 4) 211 134 [some (.inr (.inr (some v0))), some (.inr (.inr (some v1))), some (.inl v2), some (.inr (.inr (some v3))), some (.inl v4), none, none, none] [.inl s1, .inr (.inr (some s0))] h1) (rI fun x h' => cI K κ b h' ∧ fk [1, 2, 6, 10] κ h h' ∧ (x = 0 ∨ x = 1)) := by
  refine wq_eq q_211_134 ?_
  obtain ⟨sg_1, td_1, fd_1, ch_1, wv_1, dl_1, tg_1, x7_1, x8_1, x9_1, x10_1, e_1, tsg_1, ttd_1, tfd_1, tch_1, twv_1, tdl_1, ttg_1⟩ := o6 W ts0
  refine wk_wr W ts0 rfl e_1 (Nat.le_of_ble_eq_true rfl) (i6 tsg_1 ttd_1 tfd_1 tch_1 twv_1 tdl_1 ttg_1) ?_
  intro h2 W3 e4 o5
  have G6 := fk_w (ws := [1, 2, 6, 10]) G ts0 o5 rfl
  refine wq_if _ (fun c7 => ?_) (fun c7 => ?_)
  · refine wk_at W3 tv3 rfl (fun _ => ?_)
    refine wq_cI (s_Nodes_kid W3 tv3) ?_
    rintro y10 h8 ⟨rfl, p11⟩
    refine wk_at W3 tv3 rfl (fun _ => ?_)
    refine wq_cI (s_Nodes_givenOf W3 tv3) ?_
    rintro y14 h12 ⟨rfl, p15⟩
    obtain ⟨sg_16, td_16, fd_16, ch_16, wv_16, dl_16, tg_16, x7_16, x8_16, x9_16, x10_16, e_16, tsg_16, ttd_16, tfd_16, tch_16, twv_16, tdl_16, ttg_16⟩ := o6 W3 tv0
    refine wk_wr W3 tv0 rfl e_16 (Nat.le_of_ble_eq_true rfl) (i6 tsg_16 ttd_16 tfd_16 tch_16 twv_16 tdl_16 ttg_16) ?_
    intro h17 W18 e19 o20
    have G21 := fk_w (ws := [1, 2, 6, 10]) G6 tv0 o20 rfl
    refine wk_at W18 tv3 rfl (fun _ => ?_)
    refine wq_cI (s_Nodes_kid W18 tv3) ?_
    rintro y24 h22 ⟨rfl, p25⟩
    refine wk_at W18 tv3 rfl (fun _ => ?_)
    refine wq_cI (s_Nodes_givenOf W18 tv3) ?_
    rintro y28 h26 ⟨rfl, p29⟩
    refine wk_wr W18 tv0 rfl e19 (Nat.le_of_ble_eq_true rfl) (i6 tsg_16 ttd_16 tfd_16 tch_16 twv_16 tdl_16 ttg_16) ?_
    intro h30 W31 e32 o33
    have G34 := fk_w (ws := [1, 2, 6, 10]) G21 tv0 o33 rfl
    exact wq_t (Or.inr rfl) (wq_some (rI_i ⟨W31, G34, (Or.inr rfl)⟩))
  · refine wq_if _ (fun c35 => ?_) (fun c35 => ?_)
    · obtain ⟨sg_36, td_36, fd_36, ch_36, wv_36, dl_36, tg_36, x7_36, x8_36, x9_36, x10_36, e_36, tsg_36, ttd_36, tfd_36, tch_36, twv_36, tdl_36, ttg_36⟩ := o6 W3 tv0
      refine wq_gR e_36 rfl ?_
      refine wk_at W3 tv3 rfl (fun _ => ?_)
      refine wq_cI (s_Nodes_kid W3 tv3) ?_
      rintro y39 h37 ⟨rfl, p40⟩
      refine wk_at W3 tfd_36 rfl (fun _ => ?_)
      refine wq_cI (s_Finder_find W3 tfd_36 tv1) ?_
      rintro y44 h41 ⟨W42, g43, p45⟩
      have G46 := fk_c (ws := [1, 2, 6, 10]) G6 g43 rfl
      have e47 := (g43 _ _ _ ts0 rfl).trans e4
      have e48 := (g43 _ _ _ tv0 rfl).trans e_36
      refine wq_if _ (fun c49 => ?_) (fun c49 => ?_)
      · exact wq_t (Or.inl rfl) (wq_some (rI_i ⟨W42, G46, (Or.inl rfl)⟩))
      · refine wq_gR e48 rfl ?_
        refine wk_at W42 tfd_36 rfl (fun _ => ?_)
        refine wq_cI (s_Finder_isNumber W42 tfd_36) ?_
        rintro y52 h50 ⟨rfl, p53⟩
        refine wq_if _ (fun c54 => ?_) (fun c54 => ?_)
        · refine wk_at W42 tv1 rfl (fun _ => ?_)
          refine wq_cI (s_Unit_fail W42 tv1) ?_
          rintro y58 h55 ⟨W56, g57, p59⟩
          have G60 := fk_c (ws := [1, 2, 6, 10]) G46 g57 rfl
          have e61 := (g57 _ _ _ ts0 rfl).trans e47
          have e62 := (g57 _ _ _ tv0 rfl).trans e48
          exact wq_t p59 (wq_some (rI_i ⟨W56, G60, p59⟩))
        · refine wq_gR e48 rfl ?_
          refine wk_at W42 tfd_36 rfl (fun _ => ?_)
          refine wq_cR (s_Finder_found W42 tfd_36) ?_
          rintro _ h63 ⟨rfl, a67, rfl, p66⟩
          obtain ⟨i_68, l_68, n_68, bA_68, bB_68, bC_68, bD_68, e_68⟩ := o1 W42 p66
          refine wq_gJ e_68 rfl ?_
          refine wq_if _ (fun c69 => ?_) (fun c69 => ?_)
          · refine wk_at W42 tv1 rfl (fun _ => ?_)
            refine wq_cI (s_Unit_fail W42 tv1) ?_
            rintro y73 h70 ⟨W71, g72, p74⟩
            have G75 := fk_c (ws := [1, 2, 6, 10]) G46 g72 rfl
            have e76 := (g72 _ _ _ ts0 rfl).trans e47
            have e77 := (g72 _ _ _ tv0 rfl).trans e48
            have e78 := (g72 _ _ _ p66 rfl).trans e_68
            exact wq_t p74 (wq_some (rI_i ⟨W71, G75, p74⟩))
          · refine wq_gI e48 rfl ?_
            refine wq_if _ (fun c79 => ?_) (fun c79 => ?_)
            · refine wk_wr W42 tv0 rfl e48 (Nat.le_of_ble_eq_true rfl) (i6 tsg_36 ttd_36 tfd_36 tch_36 twv_36 tdl_36 ttg_36) ?_
              intro h80 W81 e82 o83
              have G84 := fk_w (ws := [1, 2, 6, 10]) G46 tv0 o83 rfl
              have e85 := (o83 _ (kne p66 tv0 rfl)).trans e_68
              refine wk_wr W81 tv0 rfl e82 (Nat.le_of_ble_eq_true rfl) (i6 tsg_36 ttd_36 tfd_36 tch_36 twv_36 tdl_36 ttg_36) ?_
              intro h86 W87 e88 o89
              have G90 := fk_w (ws := [1, 2, 6, 10]) G84 tv0 o89 rfl
              have e91 := (o89 _ (kne p66 tv0 rfl)).trans e85
              refine wk_wr W87 tv0 rfl e88 (Nat.le_of_ble_eq_true rfl) (i6 tsg_36 ttd_36 tfd_36 tch_36 twv_36 tdl_36 ttg_36) ?_
              intro h92 W93 e94 o95
              have G96 := fk_w (ws := [1, 2, 6, 10]) G90 tv0 o95 rfl
              have e97 := (o95 _ (kne p66 tv0 rfl)).trans e91
              exact wq_t (Or.inr rfl) (wq_some (rI_i ⟨W93, G96, (Or.inr rfl)⟩))
            · refine wk_at W42 tv1 rfl (fun _ => ?_)
              refine wq_cI (s_Unit_fail W42 tv1) ?_
              rintro y101 h98 ⟨W99, g100, p102⟩
              have G103 := fk_c (ws := [1, 2, 6, 10]) G46 g100 rfl
              have e104 := (g100 _ _ _ ts0 rfl).trans e47
              have e105 := (g100 _ _ _ tv0 rfl).trans e48
              have e106 := (g100 _ _ _ p66 rfl).trans e_68
              exact wq_t p102 (wq_some (rI_i ⟨W99, G103, p102⟩))
    · exact wq_t (Or.inr rfl) (wq_some (rI_i ⟨W3, G6, (Or.inr rfl)⟩))
theorem j_211_85 {d : Nat} {h h1 : ah_H} {v0 : Nat} {nv1 : Nat} {v1 : Nat} {v2 : Int32} {nv3 : Nat} {v3 : Nat} {v4 : Int32} {s0 : Nat} {s1 : Option Nat} (tv0 : κ v0 = some (6, 0)) (tv1 : κ v1 = some (10, nv1)) (tv3 : κ v3 = some (5, nv3)) (ts0 : κ s0 = some (6, 0)) (ts1 : ∀ t, s1 = some t → κ t = some (7, 0)) (W : cI K κ b h1) (G : fk [1, 2, 6, 10] κ h h1) : wq (ah_val lim ah_P (d + 4) 211 85 [some (.inr (.inr (some v0))), some (.inr (.inr (some v1))), some (.inl v2), some (.inr (.inr (some v3))), some (.inl v4), none, none, none] [.inr (.inr s1), .inr (.inr (some s0))] h1) (rI fun x h' => cI K κ b h' ∧ fk [1, 2, 6, 10] κ h h' ∧ (x = 0 ∨ x = 1)) := by
  refine wq_eq q_211_85 ?_
  obtain ⟨sg_1, td_1, fd_1, ch_1, wv_1, dl_1, tg_1, x7_1, x8_1, x9_1, x10_1, e_1, tsg_1, ttd_1, tfd_1, tch_1, twv_1, tdl_1, ttg_1⟩ := o6 W ts0
  refine wk_wr W ts0 rfl e_1 (Nat.le_of_ble_eq_true rfl) (i6 tsg_1 ttd_1 tfd_1 tch_1 twv_1 tdl_1 ts1) ?_
  intro h2 W3 e4 o5
  have G6 := fk_w (ws := [1, 2, 6, 10]) G ts0 o5 rfl
  obtain ⟨sg_7, td_7, fd_7, ch_7, wv_7, dl_7, tg_7, x7_7, x8_7, x9_7, x10_7, e_7, tsg_7, ttd_7, tfd_7, tch_7, twv_7, tdl_7, ttg_7⟩ := o6 W3 tv0
  refine wq_gR e_7 rfl ?_
  rcases tg_7 with _ | q8
  · refine wq_t rfl ?_
    refine wk_wr W3 tv0 rfl e_7 (Nat.le_of_ble_eq_true rfl) (i6 tsg_7 ttd_7 tfd_7 tch_7 twv_7 tdl_7 nofun) ?_
    intro h9 W10 e11 o12
    have G13 := fk_w (ws := [1, 2, 6, 10]) G6 tv0 o12 rfl
    refine wk_wr W10 tv0 rfl e11 (Nat.le_of_ble_eq_true rfl) (i6 tsg_7 ttd_7 tfd_7 tch_7 twv_7 tdl_7 nofun) ?_
    intro h14 W15 e16 o17
    have G18 := fk_w (ws := [1, 2, 6, 10]) G13 tv0 o17 rfl
    refine wq_gR e16 rfl ?_
    refine wq_t rfl ?_
    exact j_211_134 tv0 tv1 tv3 tv0 W15 G18
  · have t19 := ttg_7 q8 rfl
    refine wq_f nofun ?_
    refine wq_gR e_7 rfl ?_
    obtain ⟨i_20, l_20, lo_20, hi_20, nw_20, ls_20, ev_20, ac_20, e_20, tnw_20, tls_20⟩ := o7 W3 t19
    refine wq_gI e_20 rfl ?_
    refine wk_wr W3 tv0 rfl e_7 (Nat.le_of_ble_eq_true rfl) (i6 tsg_7 ttd_7 tfd_7 tch_7 twv_7 tdl_7 (fun _ e => by cases e; exact t19)) ?_
    intro h21 W22 e23 o24
    have G25 := fk_w (ws := [1, 2, 6, 10]) G6 tv0 o24 rfl
    have e26 := (o24 _ (kne t19 tv0 rfl)).trans e_20
    refine wk_wr W22 tv0 rfl e23 (Nat.le_of_ble_eq_true rfl) (i6 tsg_7 ttd_7 tfd_7 tch_7 twv_7 tdl_7 (fun _ e => by cases e; exact t19)) ?_
    intro h27 W28 e29 o30
    have G31 := fk_w (ws := [1, 2, 6, 10]) G25 tv0 o30 rfl
    have e32 := (o30 _ (kne t19 tv0 rfl)).trans e26
    refine wq_gR e29 rfl ?_
    refine wq_f nofun ?_
    refine wq_gR e29 rfl ?_
    refine wq_gI e32 rfl ?_
    exact j_211_134 tv0 tv1 tv3 tv0 W28 G31
theorem j_211_36 {d : Nat} {h h1 : ah_H} {v0 : Nat} {nv1 : Nat} {v1 : Nat} {v2 : Int32} {nv3 : Nat} {v3 : Nat} {v4 : Int32} {s0 : Int32} (tv0 : κ v0 = some (6, 0)) (tv1 : κ v1 = some (10, nv1)) (tv3 : κ v3 = some (5, nv3)) (W : cI K κ b h1) (G : fk [1, 2, 6, 10] κ h h1) : wq (ah_val lim ah_P (d + 4) 211 36 [some (.inr (.inr (some v0))), some (.inr (.inr (some v1))), some (.inl v2), some (.inr (.inr (some v3))), some (.inl v4), none, none, none] [.inl s0] h1) (rI fun x h' => cI K κ b h' ∧ fk [1, 2, 6, 10] κ h h' ∧ (x = 0 ∨ x = 1)) := by
  refine wq_eq q_211_36 ?_
  refine wk_at W tv3 rfl (fun _ => ?_)
  refine wq_cI (s_Nodes_givenOf W tv3) ?_
  rintro y3 h1 ⟨rfl, p4⟩
  obtain ⟨sg_5, td_5, fd_5, ch_5, wv_5, dl_5, tg_5, x7_5, x8_5, x9_5, x10_5, e_5, tsg_5, ttd_5, tfd_5, tch_5, twv_5, tdl_5, ttg_5⟩ := o6 W tv0
  refine wk_wr W tv0 rfl e_5 (Nat.le_of_ble_eq_true rfl) (i6 tsg_5 ttd_5 tfd_5 tch_5 twv_5 tdl_5 ttg_5) ?_
  intro h6 W7 e8 o9
  have G10 := fk_w (ws := [1, 2, 6, 10]) G tv0 o9 rfl
  refine wk_at W7 tv3 rfl (fun _ => ?_)
  refine wq_cI (s_Nodes_kindOf W7 tv3) ?_
  rintro y13 h11 ⟨rfl, p14⟩
  refine wq_if _ (fun c15 => ?_) (fun c15 => ?_)
  · refine wq_gR e8 rfl ?_
    refine wq_gI e8 rfl ?_
    refine wk_at W7 tsg_5 rfl (fun _ => ?_)
    refine wq_cR (s_Things_pick W7 tsg_5) ?_
    rintro r18 h16 ⟨rfl, p19⟩
    exact j_211_85 tv0 tv1 tv3 tv0 p19 W7 G10
  · obtain ⟨nd_20, nn_20, vr_20, vn_20, s2_20, s3_20, s4_20, s5_20, s6_20, s7_20, s8_20, w9_20, nx_20, en_20, e_20, tnd_20, tvr_20, tnx_20, ten_20⟩ := o10 W7 tv1
    refine wq_gR e_20 rfl ?_
    refine wq_gI e8 rfl ?_
    refine wk_at W7 tvr_20 rfl (fun _ => ?_)
    refine wq_cR (s_Things_pick W7 tvr_20) ?_
    rintro r23 h21 ⟨rfl, p24⟩
    exact j_211_85 tv0 tv1 tv3 tv0 p24 W7 G10
theorem s_Runner_aim {d : Nat} {h : ah_H} {v0 : Nat} {n1 : Nat} {v1 : Nat} {v2 : Int32} (W : cI K κ b h) (t0 : κ v0 = some (6, 0)) (t1 : κ v1 = some (10, n1)) : wq (vc lim (d + 5) m_Runner_aim [.inr (.inr (some v0)), .inr (.inr (some v1)), .inl v2] h) (rI fun x h' => cI K κ b h' ∧ fk [1, 2, 6, 10] κ h h' ∧ (x = 0 ∨ x = 1)) := by
  refine wq_eq e_Runner_aim ?_
  obtain ⟨nd_1, nn_1, vr_1, vn_1, s2_1, s3_1, s4_1, s5_1, s6_1, s7_1, s8_1, w9_1, nx_1, en_1, e_1, tnd_1, tvr_1, tnx_1, ten_1⟩ := o10 W t1
  refine wq_gR e_1 rfl ?_
  refine wk_at W tnd_1 rfl (fun _ => ?_)
  refine wq_cI (s_Nodes_kindOf W tnd_1) ?_
  rintro y4 h2 ⟨rfl, p5⟩
  refine wq_if _ (fun c6 => ?_) (fun c6 => ?_)
  · refine wk_at W tnd_1 rfl (fun _ => ?_)
    refine wq_cI (s_Nodes_kid W tnd_1) ?_
    rintro y9 h7 ⟨rfl, p10⟩
    exact j_211_36 t0 t1 tnd_1 W fk_0
  · refine wq_if _ (fun c11 => ?_) (fun c11 => ?_)
    · refine wk_at W tnd_1 rfl (fun _ => ?_)
      refine wq_cI (s_Nodes_kid W tnd_1) ?_
      rintro y14 h12 ⟨rfl, p15⟩
      exact j_211_36 t0 t1 tnd_1 W fk_0
    · exact j_211_36 t0 t1 tnd_1 W fk_0
theorem s_Runner_findWave {d : Nat} {h : ah_H} {v0 : Nat} {n1 : Nat} {v1 : Nat} {v2 : Int32} {v3 : Int32} (W : cI K κ b h) (t0 : κ v0 = some (6, 0)) (t1 : κ v1 = some (10, n1)) : wq (vc lim (d + 5) m_Runner_findWave [.inr (.inr (some v0)), .inr (.inr (some v1)), .inl v2, .inl v3] h) (rI fun x h' => cI K κ b h' ∧ fk [1, 2, 10, 101] κ h h' ∧ (x = 0 ∨ x = 1)) := by
  refine wq_eq e_Runner_findWave ?_
  refine wq_if _ (fun c1 => ?_) (fun c1 => ?_)
  · exact wq_t (Or.inl rfl) (wq_some (rI_i ⟨W, fk_0, (Or.inl rfl)⟩))
  · obtain ⟨sg_2, td_2, fd_2, ch_2, wv_2, dl_2, tg_2, x7_2, x8_2, x9_2, x10_2, e_2, tsg_2, ttd_2, tfd_2, tch_2, twv_2, tdl_2, ttg_2⟩ := o6 W t0
    refine wq_gR e_2 rfl ?_
    refine wk_len W twv_2 (by decide) ?_
    intro len3 hl4
    refine wq_if _ (fun c5 => ?_) (fun c5 => ?_)
    · refine wq_gR e_2 rfl ?_
      obtain ⟨nd_6, nn_6, vr_6, vn_6, s2_6, s3_6, s4_6, s5_6, s6_6, s7_6, s8_6, w9_6, nx_6, en_6, e_6, tnd_6, tvr_6, tnx_6, ten_6⟩ := o10 W t1
      refine wq_gR e_6 rfl ?_
      refine wk_at W tnd_6 rfl (fun _ => ?_)
      refine wq_cI (s_Nodes_kid W tnd_6) ?_
      rintro y9 h7 ⟨rfl, p10⟩
      refine wk_at W tfd_2 rfl (fun _ => ?_)
      refine wq_cI (s_Finder_find W tfd_2 t1) ?_
      rintro y14 h11 ⟨W12, g13, p15⟩
      have G16 := fk_c (ws := [1, 2, 10, 101]) fk_0 g13 rfl
      have e17 := (g13 _ _ _ t0 rfl).trans e_2
      refine wq_if _ (fun c18 => ?_) (fun c18 => ?_)
      · exact wq_t (Or.inl rfl) (wq_some (rI_i ⟨W12, G16, (Or.inl rfl)⟩))
      · refine wk_at W12 t0 rfl (fun _ => ?_)
        refine wq_cI (s_Runner_unfit W12 t0) ?_
        rintro y21 h19 ⟨rfl, p22⟩
        refine wq_if _ (fun c23 => ?_) (fun c23 => ?_)
        · refine wq_gR e17 rfl ?_
          refine wk_l1 W12 twv_2 (by have := nlt_i c1; have := lt_i c5; have := ne_i c18; have := congrArg Int32.toInt c23; have : (0 : Int32).toInt = 0 := rfl; omega) (by have := nlt_i c1; have := lt_i c5; have := ne_i c18; have := congrArg Int32.toInt c23; have : (0 : Int32).toInt = 0 := rfl; omega) (fun v24 t25 => ?_)
          refine wq_gR e17 rfl ?_
          refine wk_at W12 tfd_2 rfl (fun _ => ?_)
          refine wq_cR (s_Finder_found W12 tfd_2) ?_
          rintro _ h26 ⟨rfl, a30, rfl, p29⟩
          refine wk_at W12 t25 rfl (fun _ => ?_)
          refine wq_cV (s_Datum_copy W12 t25 p29) ?_
          rintro h31 ⟨W32, g33⟩
          have G34 := fk_c (ws := [1, 2, 10, 101]) G16 g33 rfl
          have e35 := (g33 _ _ _ t0 rfl).trans e17
          refine wq_gR e35 rfl ?_
          obtain ⟨nd_36, nn_36, vr_36, vn_36, s2_36, s3_36, s4_36, s5_36, s6_36, s7_36, s8_36, w9_36, nx_36, en_36, e_36, tnd_36, tvr_36, tnx_36, ten_36⟩ := o10 W32 t1
          refine wq_gR e_36 rfl ?_
          refine wk_at W32 tnd_36 rfl (fun _ => ?_)
          refine wq_cI (s_Nodes_kid W32 tnd_36) ?_
          rintro y39 h37 ⟨rfl, p40⟩
          refine wk_at W32 tfd_2 rfl (fun _ => ?_)
          refine wq_cI (s_Finder_find W32 tfd_2 t1) ?_
          rintro y44 h41 ⟨W42, g43, p45⟩
          have G46 := fk_c (ws := [1, 2, 10, 101]) G34 g43 rfl
          have e47 := (g43 _ _ _ t0 rfl).trans e35
          refine wq_if _ (fun c48 => ?_) (fun c48 => ?_)
          · exact wq_t (Or.inl rfl) (wq_some (rI_i ⟨W42, G46, (Or.inl rfl)⟩))
          · refine wq_gR e47 rfl ?_
            refine wq_gR e47 rfl ?_
            refine wk_at W42 tfd_2 rfl (fun _ => ?_)
            refine wq_cR (s_Finder_found W42 tfd_2) ?_
            rintro _ h49 ⟨rfl, a53, rfl, p52⟩
            obtain ⟨i_54, l_54, n_54, bA_54, bB_54, bC_54, bD_54, e_54⟩ := o1 W42 p52
            refine wq_gJ e_54 rfl ?_
            refine wk_sJ W42 tdl_2 (by have := nlt_i c1; have := lt_i c5; have := ne_i c18; have := congrArg Int32.toInt c23; have := ne_i c48; have : (0 : Int32).toInt = 0 := rfl; omega) (by have := nlt_i c1; have := lt_i c5; have := ne_i c18; have := congrArg Int32.toInt c23; have := ne_i c48; have : (0 : Int32).toInt = 0 := rfl; omega) ?_
            intro h55 W56 o57
            have G58 := fk_w (ws := [1, 2, 10, 101]) G46 tdl_2 o57 rfl
            have e59 := (o57 _ (kne t0 tdl_2 rfl)).trans e47
            have e60 := (o57 _ (kne p52 tdl_2 rfl)).trans e_54
            exact wq_t (Or.inr rfl) (wq_some (rI_i ⟨W56, G58, (Or.inr rfl)⟩))
        · refine wk_at W12 t1 rfl (fun _ => ?_)
          refine wq_cI (s_Unit_fail W12 t1) ?_
          rintro y64 h61 ⟨W62, g63, p65⟩
          have G66 := fk_c (ws := [1, 2, 10, 101]) G16 g63 rfl
          have e67 := (g63 _ _ _ t0 rfl).trans e17
          exact wq_t p65 (wq_some (rI_i ⟨W62, G66, p65⟩))
    · exact wq_t (Or.inl rfl) (wq_some (rI_i ⟨W, fk_0, (Or.inl rfl)⟩))
theorem s_Runner_keep {d : Nat} {h : ah_H} {v0 : Nat} {n1 : Nat} {v1 : Nat} {v2 : Int32} (W : cI K κ b h) (t0 : κ v0 = some (6, 0)) (t1 : κ v1 = some (10, n1)) : wq (vc lim (d + 6) m_Runner_keep [.inr (.inr (some v0)), .inr (.inr (some v1)), .inl v2] h) (rI fun x h' => cI K κ b h' ∧ fk [1, 2, 6, 10] κ h h' ∧ (x = 0 ∨ x = 1)) := by
  refine wq_eq e_Runner_keep ?_
  obtain ⟨nd_1, nn_1, vr_1, vn_1, s2_1, s3_1, s4_1, s5_1, s6_1, s7_1, s8_1, w9_1, nx_1, en_1, e_1, tnd_1, tvr_1, tnx_1, ten_1⟩ := o10 W t1
  refine wq_gR e_1 rfl ?_
  refine wk_at W tnd_1 rfl (fun _ => ?_)
  refine wq_cI (s_Nodes_kid W tnd_1) ?_
  rintro y4 h2 ⟨rfl, p5⟩
  refine wk_at W t0 rfl (fun _ => ?_)
  refine wq_cI (s_Runner_aim W t0 t1) ?_
  rintro y9 h6 ⟨W7, g8, p10⟩
  have G11 := fk_c (ws := [1, 2, 6, 10]) fk_0 g8 rfl
  refine wq_if _ (fun c12 => ?_) (fun c12 => ?_)
  · exact wq_t (Or.inl rfl) (wq_some (rI_i ⟨W7, G11, (Or.inl rfl)⟩))
  · obtain ⟨sg_13, td_13, fd_13, ch_13, wv_13, dl_13, tg_13, x7_13, x8_13, x9_13, x10_13, e_13, tsg_13, ttd_13, tfd_13, tch_13, twv_13, tdl_13, ttg_13⟩ := o6 W7 t0
    refine wq_gR e_13 rfl ?_
    obtain ⟨nd_14, nn_14, vr_14, vn_14, s2_14, s3_14, s4_14, s5_14, s6_14, s7_14, s8_14, w9_14, nx_14, en_14, e_14, tnd_14, tvr_14, tnx_14, ten_14⟩ := o10 W7 t1
    refine wq_gR e_14 rfl ?_
    refine wk_at W7 tnd_14 rfl (fun _ => ?_)
    refine wq_cI (s_Nodes_kid W7 tnd_14) ?_
    rintro y17 h15 ⟨rfl, p18⟩
    refine wk_at W7 tfd_13 rfl (fun _ => ?_)
    refine wq_cI (s_Finder_find W7 tfd_13 t1) ?_
    rintro y22 h19 ⟨W20, g21, p23⟩
    have G24 := fk_c (ws := [1, 2, 6, 10]) G11 g21 rfl
    have e25 := (g21 _ _ _ t0 rfl).trans e_13
    refine wq_if _ (fun c26 => ?_) (fun c26 => ?_)
    · exact wq_t (Or.inl rfl) (wq_some (rI_i ⟨W20, G24, (Or.inl rfl)⟩))
    · refine wk_at W20 t0 rfl (fun _ => ?_)
      refine wq_cI (s_Runner_unfit W20 t0) ?_
      rintro y29 h27 ⟨rfl, p30⟩
      refine wq_if _ (fun c31 => ?_) (fun c31 => ?_)
      · refine wq_gR e25 rfl ?_
        rcases tg_13 with _ | q32
        · refine wq_t rfl ?_
          refine wq_eq q_215_93 ?_
          refine wq_gR e25 rfl ?_
          refine wq_t rfl ?_
          refine wk_at W20 t1 rfl (fun _ => ?_)
          refine wq_cI (s_Unit_goBehind W20 t1) ?_
          rintro y36 h33 ⟨W34, g35, p37⟩
          have G38 := fk_c (ws := [1, 2, 6, 10]) G24 g35 rfl
          have e39 := (g35 _ _ _ t0 rfl).trans e25
          exact wq_t p37 (wq_some (rI_i ⟨W34, G38, p37⟩))
        · have t40 := ttg_13 q32 rfl
          refine wq_f nofun ?_
          refine wq_gI e25 rfl ?_
          refine wq_if _ (fun c41 => ?_) (fun c41 => ?_)
          · refine wq_gR e25 rfl ?_
            obtain ⟨i_42, l_42, lo_42, hi_42, nw_42, ls_42, ev_42, ac_42, e_42, tnw_42, tls_42⟩ := o7 W20 t40
            refine wq_gR e_42 rfl ?_
            refine wq_gR e25 rfl ?_
            refine wk_at W20 tfd_13 rfl (fun _ => ?_)
            refine wq_cR (s_Finder_found W20 tfd_13) ?_
            rintro _ h43 ⟨rfl, a47, rfl, p46⟩
            obtain ⟨i_48, l_48, n_48, bA_48, bB_48, bC_48, bD_48, e_48⟩ := o1 W20 p46
            refine wq_gJ e_48 rfl ?_
            refine wk_at W20 tnw_42 rfl (fun _ => ?_)
            refine wq_cV (s_Datum_beNumber W20 tnw_42) ?_
            rintro h49 ⟨W50, g51⟩
            have G52 := fk_c (ws := [1, 2, 6, 10]) G24 g51 rfl
            have e53 := (g51 _ _ _ t0 rfl).trans e25
            have e54 := (g51 _ _ _ t40 rfl).trans e_42
            refine wk_at W50 t1 rfl (fun _ => ?_)
            refine wq_cI (s_Unit_goBehind W50 t1) ?_
            rintro y58 h55 ⟨W56, g57, p59⟩
            have G60 := fk_c (ws := [1, 2, 6, 10]) G52 g57 rfl
            have e61 := (g57 _ _ _ t0 rfl).trans e53
            have e62 := (g57 _ _ _ t40 rfl).trans e54
            exact wq_t p59 (wq_some (rI_i ⟨W56, G60, p59⟩))
          · refine wq_eq q_215_93 ?_
            refine wq_gR e25 rfl ?_
            refine wq_f nofun ?_
            refine wq_gR e25 rfl ?_
            obtain ⟨i_63, l_63, lo_63, hi_63, nw_63, ls_63, ev_63, ac_63, e_63, tnw_63, tls_63⟩ := o7 W20 t40
            refine wq_gR e_63 rfl ?_
            refine wq_gI e25 rfl ?_
            refine wq_gR e25 rfl ?_
            refine wk_at W20 tfd_13 rfl (fun _ => ?_)
            refine wq_cR (s_Finder_found W20 tfd_13) ?_
            rintro _ h64 ⟨rfl, a68, rfl, p67⟩
            refine wk_at W20 tnw_63 rfl (fun _ => ?_)
            refine wq_cV (s_Datum_overlay W20 tnw_63 p67) ?_
            rintro h69 ⟨W70, g71⟩
            have G72 := fk_c (ws := [1, 2, 6, 10]) G24 g71 rfl
            have e73 := (g71 _ _ _ t0 rfl).trans e25
            have e74 := (g71 _ _ _ t40 rfl).trans e_63
            refine wk_at W70 t1 rfl (fun _ => ?_)
            refine wq_cI (s_Unit_goBehind W70 t1) ?_
            rintro y78 h75 ⟨W76, g77, p79⟩
            have G80 := fk_c (ws := [1, 2, 6, 10]) G72 g77 rfl
            have e81 := (g77 _ _ _ t0 rfl).trans e73
            have e82 := (g77 _ _ _ t40 rfl).trans e74
            exact wq_t p79 (wq_some (rI_i ⟨W76, G80, p79⟩))
      · refine wk_at W20 t1 rfl (fun _ => ?_)
        refine wq_cI (s_Unit_fail W20 t1) ?_
        rintro y86 h83 ⟨W84, g85, p87⟩
        have G88 := fk_c (ws := [1, 2, 6, 10]) G24 g85 rfl
        have e89 := (g85 _ _ _ t0 rfl).trans e25
        exact wq_t p87 (wq_some (rI_i ⟨W84, G88, p87⟩))
theorem l_210_199 {d : Nat} {h : ah_H} {v0 : Nat} {n1 : Nat} {v1 : Nat} (t0 : κ v0 = some (6, 0)) (t1 : κ v1 = some (10, n1)) : ∀ (m : Nat) (h1 : ah_H) (v2 : Int32) (v6 : Int32) (v9 : Int32), (2147483647 - v9.toInt).toNat < m → 0 ≤ v9.toInt → v6.toInt ≤ 16 → cI K κ b h1 → fk [1, 2, 6, 9, 10, 101, 105] κ h h1 → wq (ah_val lim ah_P (d + 5) 210 199 [some (.inr (.inr (some v0))), some (.inr (.inr (some v1))), some (.inl v2), none, none, none, some (.inl v6), none, none, some (.inl v9)] [] h1) (rI fun x h' => cI K κ b h' ∧ fk [1, 2, 6, 9, 10, 101, 105] κ h h' ∧ (x = 0 ∨ x = 1)) := by
  intro m
  induction m with
  | zero => intros; omega
  | succ m ih =>
      intro h1 v2 v6 v9 hm iv0 iv1 W G
      refine wq_eq q_210_199 ?_
      refine wq_if _ (fun c1 => ?_) (fun c1 => ?_)
      · obtain ⟨sg_2, td_2, fd_2, ch_2, wv_2, dl_2, tg_2, x7_2, x8_2, x9_2, x10_2, e_2, tsg_2, ttd_2, tfd_2, tch_2, twv_2, tdl_2, ttg_2⟩ := o6 W t0
        refine wq_gR e_2 rfl ?_
        refine wq_gR e_2 rfl ?_
        refine wk_l1 W twv_2 (by have := lt_i c1; omega) (by have := lt_i c1; omega) (fun v3 t4 => ?_)
        refine wq_gR e_2 rfl ?_
        refine wk_lJ W tdl_2 (by have := lt_i c1; omega) (by have := lt_i c1; omega) (fun v5 => ?_)
        refine wk_at W ttd_2 rfl (fun _ => ?_)
        refine wq_cV (s_Told_tellValue W ttd_2 t4) ?_
        rintro h6 ⟨W7, g8⟩
        have G9 := fk_c (ws := [1, 2, 6, 9, 10, 101, 105]) G g8 rfl
        have e10 := (g8 _ _ _ t0 rfl).trans e_2
        exact ih _ _ _ _ (by have := lt_i c1; have : (1 : Int32).toInt = 1 := rfl; have := bd_i v6; have := bd_i v9; have := bd_i v9; have := bd_i (1 : Int32); have : (v9 + (1 : Int32)).toInt = v9.toInt + (1 : Int32).toInt := ad_i (by omega) (by omega); omega) (by have := lt_i c1; have : (1 : Int32).toInt = 1 := rfl; have := bd_i v6; have := bd_i v9; have := bd_i v9; have := bd_i (1 : Int32); have : (v9 + (1 : Int32)).toInt = v9.toInt + (1 : Int32).toInt := ad_i (by omega) (by omega); omega) (by have := lt_i c1; omega) W7 G9
      · refine wk_at W t1 rfl (fun _ => ?_)
        refine wq_cI (s_Unit_goBehind W t1) ?_
        rintro y14 h11 ⟨W12, g13, p15⟩
        have G16 := fk_c (ws := [1, 2, 6, 9, 10, 101, 105]) G g13 rfl
        exact wq_t p15 (wq_some (rI_i ⟨W12, G16, p15⟩))
theorem l_210_99 {d : Nat} {h : ah_H} {v0 : Nat} {n1 : Nat} {v1 : Nat} {n3 : Nat} {v3 : Nat} (t0 : κ v0 = some (6, 0)) (t1 : κ v1 = some (10, n1)) (t3 : κ v3 = some (5, n3)) : ∀ (m : Nat) (h1 : ah_H) (v2 : Int32) (v4 : Int32) (v5 : Int32) (v6 : Int32) (v7 : Int64) (v9 : Int32), (2147483647 - v9.toInt).toNat < m → 0 ≤ v9.toInt → v6.toInt ≤ 16 → cI K κ b h1 → fk [1, 2, 6, 9, 10, 101, 105] κ h h1 → wq (ah_val lim ah_P (d + 5) 210 99 [some (.inr (.inr (some v0))), some (.inr (.inr (some v1))), some (.inl v2), some (.inr (.inr (some v3))), some (.inl v4), some (.inl v5), some (.inl v6), some (.inr (.inl v7)), none, some (.inl v9)] [] h1) (rI fun x h' => cI K κ b h' ∧ fk [1, 2, 6, 9, 10, 101, 105] κ h h' ∧ (x = 0 ∨ x = 1)) := by
  intro m
  induction m with
  | zero => intros; omega
  | succ m ih =>
      intro h1 v2 v4 v5 v6 v7 v9 hm iv0 iv1 W G
      refine wq_eq q_210_99 ?_
      refine wq_if _ (fun c1 => ?_) (fun c1 => ?_)
      · refine wk_at W t3 rfl (fun _ => ?_)
        refine wq_cI (s_Nodes_kid W t3) ?_
        rintro y4 h2 ⟨rfl, p5⟩
        refine wk_at W t0 rfl (fun _ => ?_)
        refine wq_cI (s_Runner_findWave W t0 t1) ?_
        rintro y9 h6 ⟨W7, g8, p10⟩
        have G11 := fk_c (ws := [1, 2, 6, 9, 10, 101, 105]) G g8 rfl
        refine wq_if _ (fun c12 => ?_) (fun c12 => ?_)
        · exact wq_t (Or.inl rfl) (wq_some (rI_i ⟨W7, G11, (Or.inl rfl)⟩))
        · exact ih _ _ _ _ _ _ _ (by have := lt_i c1; have := ne_i c12; have : (0 : Int32).toInt = 0 := rfl; have : (1 : Int32).toInt = 1 := rfl; have := bd_i v6; have := bd_i v9; have := bd_i y9; have := bd_i v9; have := bd_i (1 : Int32); have : (v9 + (1 : Int32)).toInt = v9.toInt + (1 : Int32).toInt := ad_i (by omega) (by omega); omega) (by have := lt_i c1; have := ne_i c12; have : (0 : Int32).toInt = 0 := rfl; have : (1 : Int32).toInt = 1 := rfl; have := bd_i v6; have := bd_i v9; have := bd_i y9; have := bd_i v9; have := bd_i (1 : Int32); have : (v9 + (1 : Int32)).toInt = v9.toInt + (1 : Int32).toInt := ad_i (by omega) (by omega); omega) (by have := lt_i c1; have := ne_i c12; have : (0 : Int32).toInt = 0 := rfl; omega) W7 G11
      · refine wk_at W t0 rfl (fun _ => ?_)
        refine wq_cI (s_Runner_isRising W t0) ?_
        rintro y15 h13 ⟨rfl, p16⟩
        refine wq_if _ (fun c17 => ?_) (fun c17 => ?_)
        · refine wk_at W t1 rfl (fun _ => ?_)
          refine wq_cI (s_Unit_fail W t1) ?_
          rintro y21 h18 ⟨W19, g20, p22⟩
          have G23 := fk_c (ws := [1, 2, 6, 9, 10, 101, 105]) G g20 rfl
          exact wq_t p22 (wq_some (rI_i ⟨W19, G23, p22⟩))
        · obtain ⟨sg_24, td_24, fd_24, ch_24, wv_24, dl_24, tg_24, x7_24, x8_24, x9_24, x10_24, e_24, tsg_24, ttd_24, tfd_24, tch_24, twv_24, tdl_24, ttg_24⟩ := o6 W t0
          refine wq_gR e_24 rfl ?_
          refine wk_at W ttd_24 rfl (fun _ => ?_)
          refine wq_cI (s_Told_hasRoomFor W ttd_24) ?_
          rintro y27 h25 ⟨rfl, p28⟩
          refine wq_if _ (fun c29 => ?_) (fun c29 => ?_)
          · refine wk_at W t1 rfl (fun _ => ?_)
            refine wq_cI (s_Unit_fail W t1) ?_
            rintro y33 h30 ⟨W31, g32, p34⟩
            have G35 := fk_c (ws := [1, 2, 6, 9, 10, 101, 105]) G g32 rfl
            have e36 := (g32 _ _ _ t0 rfl).trans e_24
            exact wq_t p34 (wq_some (rI_i ⟨W31, G35, p34⟩))
          · obtain ⟨aA_37, aB_37, aC_37, aD_37, aE_37, aF_37, aG_37, aH_37, aI_37, aJ_37, c_37, to_37, e_37, taA_37, taB_37, taC_37, taD_37, taE_37, taF_37, taG_37, taH_37, taI_37, taJ_37, b0_37, b1_37, b2_37, b3_37⟩ := o9 W ttd_24
            have f38 := p28.2 (p28.1.resolve_left c29) _ e_37 _ rfl
            refine wq_gR e_24 rfl ?_
            refine wq_gI e_24 rfl ?_
            refine wq_gI e_24 rfl ?_
            refine wq_gI e_24 rfl ?_
            refine wk_at W ttd_24 rfl (fun _ => ?_)
            refine wq_cV (s_Told_tellAssign W ttd_24) ?_
            rintro h39 ⟨W40, g41⟩
            have G42 := fk_c (ws := [1, 2, 6, 9, 10, 101, 105]) G g41 rfl
            have e43 := (g41 _ _ _ t0 rfl).trans e_24
            exact l_210_199 t0 t1 _ _ _ _ _ (Nat.lt_succ_self _) (by have := nlt_i c1; have := ne_i c17; have := ne_i c29; have : (0 : Int32).toInt = 0 := rfl; omega) (by have := nlt_i c1; have := ne_i c17; have := ne_i c29; have : (0 : Int32).toInt = 0 := rfl; omega) W40 G42
theorem j_210_23 {d : Nat} {h h1 : ah_H} {v0 : Nat} {nv1 : Nat} {v1 : Nat} {v2 : Int32} {nv3 : Nat} {v3 : Nat} {v4 : Int32} {s0 : Int32} (tv0 : κ v0 = some (6, 0)) (tv1 : κ v1 = some (10, nv1)) (tv3 : κ v3 = some (5, nv3)) (W : cI K κ b h1) (G : fk [1, 2, 6, 9, 10, 101, 105] κ h h1) : wq (ah_val lim ah_P (d + 5) 210 23 [some (.inr (.inr (some v0))), some (.inr (.inr (some v1))), some (.inl v2), some (.inr (.inr (some v3))), some (.inl v4), none, none, none, none, none] [.inl s0] h1) (rI fun x h' => cI K κ b h' ∧ fk [1, 2, 6, 9, 10, 101, 105] κ h h' ∧ (x = 0 ∨ x = 1)) := by
  refine wq_eq q_210_23 ?_
  refine wk_at W tv3 rfl (fun _ => ?_)
  refine wq_cI (s_Nodes_kidsOf W tv3) ?_
  rintro y3 h1 ⟨rfl, p4⟩
  refine wk_at W tv3 rfl (fun _ => ?_)
  refine wq_cI (s_Nodes_kid W tv3) ?_
  rintro y7 h5 ⟨rfl, p8⟩
  refine wk_at W tv0 rfl (fun _ => ?_)
  refine wq_cI (s_Runner_aim W tv0 tv1) ?_
  rintro y12 h9 ⟨W10, g11, p13⟩
  have G14 := fk_c (ws := [1, 2, 6, 9, 10, 101, 105]) G g11 rfl
  refine wq_if _ (fun c15 => ?_) (fun c15 => ?_)
  · exact wq_t (Or.inl rfl) (wq_some (rI_i ⟨W10, G14, (Or.inl rfl)⟩))
  · refine wq_if _ (fun c16 => ?_) (fun c16 => ?_)
    · obtain ⟨sg_17, td_17, fd_17, ch_17, wv_17, dl_17, tg_17, x7_17, x8_17, x9_17, x10_17, e_17, tsg_17, ttd_17, tfd_17, tch_17, twv_17, tdl_17, ttg_17⟩ := o6 W10 tv0
      refine wq_gR e_17 rfl ?_
      refine wk_at W10 tv3 rfl (fun _ => ?_)
      refine wq_cI (s_Nodes_kid W10 tv3) ?_
      rintro y20 h18 ⟨rfl, p21⟩
      refine wk_at W10 tfd_17 rfl (fun _ => ?_)
      refine wq_cI (s_Finder_find W10 tfd_17 tv1) ?_
      rintro y25 h22 ⟨W23, g24, p26⟩
      have G27 := fk_c (ws := [1, 2, 6, 9, 10, 101, 105]) G14 g24 rfl
      have e28 := (g24 _ _ _ tv0 rfl).trans e_17
      refine wq_if _ (fun c29 => ?_) (fun c29 => ?_)
      · exact wq_t (Or.inl rfl) (wq_some (rI_i ⟨W23, G27, (Or.inl rfl)⟩))
      · refine wq_gR e28 rfl ?_
        refine wk_at W23 tfd_17 rfl (fun _ => ?_)
        refine wq_cR (s_Finder_found W23 tfd_17) ?_
        rintro _ h30 ⟨rfl, a34, rfl, p33⟩
        obtain ⟨i_35, l_35, n_35, bA_35, bB_35, bC_35, bD_35, e_35⟩ := o1 W23 p33
        refine wq_gJ e_35 rfl ?_
        exact l_210_99 tv0 tv1 tv3 _ _ _ _ _ _ _ _ (Nat.lt_succ_self _) (by have := ne_i c15; have := congrArg Int32.toInt c16; have := ne_i c29; have : (0 : Int32).toInt = 0 := rfl; have : (2 : Int32).toInt = 2 := rfl; omega) (by have := ne_i c15; have := congrArg Int32.toInt c16; have := ne_i c29; have : (0 : Int32).toInt = 0 := rfl; have : (16 : Int32).toInt = 16 := rfl; have : (2 : Int32).toInt = 2 := rfl; have := bd_i s0; have := bd_i v4; have := bd_i y12; have := bd_i y25; have := bd_i y3; have := mn_i (a := (y3 - s0)) (c := (16 : Int32)); omega) W23 G27
    · exact l_210_99 tv0 tv1 tv3 _ _ _ _ _ _ _ _ (Nat.lt_succ_self _) (by have := ne_i c15; have := ne_i c16; have : (0 : Int32).toInt = 0 := rfl; have : (2 : Int32).toInt = 2 := rfl; omega) (by have := ne_i c15; have := ne_i c16; have : (0 : Int32).toInt = 0 := rfl; have : (16 : Int32).toInt = 16 := rfl; have : (2 : Int32).toInt = 2 := rfl; have := bd_i s0; have := bd_i v4; have := bd_i y12; have := bd_i y3; have := mn_i (a := (y3 - s0)) (c := (16 : Int32)); omega) W10 G14
theorem s_Runner_assign {d : Nat} {h : ah_H} {v0 : Nat} {n1 : Nat} {v1 : Nat} {v2 : Int32} (W : cI K κ b h) (t0 : κ v0 = some (6, 0)) (t1 : κ v1 = some (10, n1)) : wq (vc lim (d + 6) m_Runner_assign [.inr (.inr (some v0)), .inr (.inr (some v1)), .inl v2] h) (rI fun x h' => cI K κ b h' ∧ fk [1, 2, 6, 9, 10, 101, 105] κ h h' ∧ (x = 0 ∨ x = 1)) := by
  refine wq_eq e_Runner_assign ?_
  obtain ⟨nd_1, nn_1, vr_1, vn_1, s2_1, s3_1, s4_1, s5_1, s6_1, s7_1, s8_1, w9_1, nx_1, en_1, e_1, tnd_1, tvr_1, tnx_1, ten_1⟩ := o10 W t1
  refine wq_gR e_1 rfl ?_
  refine wk_at W tnd_1 rfl (fun _ => ?_)
  refine wq_cI (s_Nodes_givenOf W tnd_1) ?_
  rintro y4 h2 ⟨rfl, p5⟩
  refine wq_if _ (fun c6 => ?_) (fun c6 => ?_)
  · exact j_210_23 t0 t1 tnd_1 W fk_0
  · exact j_210_23 t0 t1 tnd_1 W fk_0
theorem s_Runner_step {d : Nat} {h : ah_H} {v0 : Nat} {n1 : Nat} {v1 : Nat} (W : cI K κ b h) (t0 : κ v0 = some (6, 0)) (t1 : κ v1 = some (10, n1)) : wq (vc lim (d + 7) m_Runner_step [.inr (.inr (some v0)), .inr (.inr (some v1))] h) (rI fun x h' => cI K κ b h' ∧ fk [1, 2, 6, 9, 10, 101, 105] κ h h' ∧ (x = 0 ∨ x = 1)) := by
  refine wq_eq e_Runner_step ?_
  obtain ⟨nd_1, nn_1, vr_1, vn_1, s2_1, s3_1, s4_1, s5_1, s6_1, s7_1, s8_1, w9_1, nx_1, en_1, e_1, tnd_1, tvr_1, tnx_1, ten_1⟩ := o10 W t1
  refine wq_gI e_1 rfl ?_
  refine wk_at W t1 rfl (fun _ => ?_)
  refine wq_cV (s_Unit_countStep W t1) ?_
  rintro h2 ⟨W3, g4⟩
  have G5 := fk_c (ws := [1, 2, 6, 9, 10, 101, 105]) fk_0 g4 rfl
  obtain ⟨nd_6, nn_6, vr_6, vn_6, s2_6, s3_6, s4_6, s5_6, s6_6, s7_6, s8_6, w9_6, nx_6, en_6, e_6, tnd_6, tvr_6, tnx_6, ten_6⟩ := o10 W3 t1
  refine wq_gI e_6 rfl ?_
  refine wq_if _ (fun c7 => ?_) (fun c7 => ?_)
  · refine wq_gR e_6 rfl ?_
    obtain ⟨aA_8, aB_8, aC_8, aD_8, aE_8, aF_8, aG_8, aH_8, c_8, kt_8, e_8, taA_8, taB_8, taC_8, taD_8, taE_8, taF_8, taG_8, taH_8, b0_8, b1_8, b2_8, b3_8, b4_8⟩ := o5 W3 tnd_6
    refine wq_gI e_8 rfl ?_
    refine wk_at W3 t1 rfl (fun _ => ?_)
    refine wq_cI (s_Unit_goInto W3 t1) ?_
    rintro y12 h9 ⟨W10, g11, p13⟩
    have G14 := fk_c (ws := [1, 2, 6, 9, 10, 101, 105]) G5 g11 rfl
    have e15 := (g11 _ _ _ tnd_6 rfl).trans e_8
    exact wq_t p13 (wq_some (rI_i ⟨W10, G14, p13⟩))
  · refine wq_gI e_6 rfl ?_
    refine wq_if _ (fun c16 => ?_) (fun c16 => ?_)
    · refine wk_at W3 t0 rfl (fun _ => ?_)
      refine wq_cI (s_Runner_look W3 t0 t1) ?_
      rintro y20 h17 ⟨W18, g19, p21⟩
      have G22 := fk_c (ws := [1, 2, 6, 9, 10, 101, 105]) G5 g19 rfl
      exact wq_t p21 (wq_some (rI_i ⟨W18, G22, p21⟩))
    · refine wq_gR e_6 rfl ?_
      refine wk_at W3 tnd_6 rfl (fun _ => ?_)
      refine wq_cI (s_Nodes_kindOf W3 tnd_6) ?_
      rintro y25 h23 ⟨rfl, p26⟩
      refine wq_if _ (fun c27 => ?_) (fun c27 => ?_)
      · refine wk_at W3 t0 rfl (fun _ => ?_)
        refine wq_cI (s_Runner_assign W3 t0 t1) ?_
        rintro y31 h28 ⟨W29, g30, p32⟩
        have G33 := fk_c (ws := [1, 2, 6, 9, 10, 101, 105]) G5 g30 rfl
        exact wq_t p32 (wq_some (rI_i ⟨W29, G33, p32⟩))
      refine wq_if _ (fun c34 => ?_) (fun c34 => ?_)
      · refine wq_eq q_207_227 ?_
        refine wk_at W3 t1 rfl (fun _ => ?_)
        refine wq_cI (s_Unit_goBehind W3 t1) ?_
        rintro y38 h35 ⟨W36, g37, p39⟩
        have G40 := fk_c (ws := [1, 2, 6, 9, 10, 101, 105]) G5 g37 rfl
        exact wq_t p39 (wq_some (rI_i ⟨W36, G40, p39⟩))
      refine wq_if _ (fun c41 => ?_) (fun c41 => ?_)
      · refine wq_eq q_207_227 ?_
        refine wk_at W3 t1 rfl (fun _ => ?_)
        refine wq_cI (s_Unit_goBehind W3 t1) ?_
        rintro y45 h42 ⟨W43, g44, p46⟩
        have G47 := fk_c (ws := [1, 2, 6, 9, 10, 101, 105]) G5 g44 rfl
        exact wq_t p46 (wq_some (rI_i ⟨W43, G47, p46⟩))
      refine wq_if _ (fun c48 => ?_) (fun c48 => ?_)
      · refine wk_at W3 t0 rfl (fun _ => ?_)
        refine wq_cI (s_Runner_keep W3 t0 t1) ?_
        rintro y52 h49 ⟨W50, g51, p53⟩
        have G54 := fk_c (ws := [1, 2, 6, 9, 10, 101, 105]) G5 g51 rfl
        exact wq_t p53 (wq_some (rI_i ⟨W50, G54, p53⟩))
      refine wq_if _ (fun c55 => ?_) (fun c55 => ?_)
      · refine wk_at W3 t0 rfl (fun _ => ?_)
        refine wq_cI (s_Runner_choose W3 t0 t1) ?_
        rintro y59 h56 ⟨W57, g58, p60⟩
        have G61 := fk_c (ws := [1, 2, 6, 9, 10, 101, 105]) G5 g58 rfl
        exact wq_t p60 (wq_some (rI_i ⟨W57, G61, p60⟩))
      refine wq_if _ (fun c62 => ?_) (fun c62 => ?_)
      · refine wk_at W3 t0 rfl (fun _ => ?_)
        refine wq_cI (s_Runner_compare W3 t0 t1) ?_
        rintro y66 h63 ⟨W64, g65, p67⟩
        have G68 := fk_c (ws := [1, 2, 6, 9, 10, 101, 105]) G5 g65 rfl
        exact wq_t p67 (wq_some (rI_i ⟨W64, G68, p67⟩))
      refine wq_if _ (fun c69 => ?_) (fun c69 => ?_)
      · refine wq_eq q_207_227 ?_
        refine wk_at W3 t1 rfl (fun _ => ?_)
        refine wq_cI (s_Unit_goBehind W3 t1) ?_
        rintro y73 h70 ⟨W71, g72, p74⟩
        have G75 := fk_c (ws := [1, 2, 6, 9, 10, 101, 105]) G5 g72 rfl
        exact wq_t p74 (wq_some (rI_i ⟨W71, G75, p74⟩))
      refine wq_if _ (fun c76 => ?_) (fun c76 => ?_)
      · refine wq_eq q_207_227 ?_
        refine wk_at W3 t1 rfl (fun _ => ?_)
        refine wq_cI (s_Unit_goBehind W3 t1) ?_
        rintro y80 h77 ⟨W78, g79, p81⟩
        have G82 := fk_c (ws := [1, 2, 6, 9, 10, 101, 105]) G5 g79 rfl
        exact wq_t p81 (wq_some (rI_i ⟨W78, G82, p81⟩))
      refine wq_if _ (fun c83 => ?_) (fun c83 => ?_)
      · refine wk_at W3 t0 rfl (fun _ => ?_)
        refine wq_cI (s_Runner_beginCount W3 t0 t1) ?_
        rintro y87 h84 ⟨W85, g86, p88⟩
        have G89 := fk_c (ws := [1, 2, 6, 9, 10, 101, 105]) G5 g86 rfl
        exact wq_t p88 (wq_some (rI_i ⟨W85, G89, p88⟩))
      refine wq_if _ (fun c90 => ?_) (fun c90 => ?_)
      · refine wk_at W3 t0 rfl (fun _ => ?_)
        refine wq_cI (s_Runner_beginCount W3 t0 t1) ?_
        rintro y94 h91 ⟨W92, g93, p95⟩
        have G96 := fk_c (ws := [1, 2, 6, 9, 10, 101, 105]) G5 g93 rfl
        exact wq_t p95 (wq_some (rI_i ⟨W92, G96, p95⟩))
      refine wq_if _ (fun c97 => ?_) (fun c97 => ?_)
      · refine wk_at W3 t1 rfl (fun _ => ?_)
        refine wq_cI (s_Unit_goToLook W3 t1) ?_
        rintro y101 h98 ⟨W99, g100, p102⟩
        have G103 := fk_c (ws := [1, 2, 6, 9, 10, 101, 105]) G5 g100 rfl
        exact wq_t p102 (wq_some (rI_i ⟨W99, G103, p102⟩))
      refine wq_if _ (fun c104 => ?_) (fun c104 => ?_)
      · refine wk_at W3 t1 rfl (fun _ => ?_)
        refine wq_cI (s_Unit_goToLook W3 t1) ?_
        rintro y108 h105 ⟨W106, g107, p109⟩
        have G110 := fk_c (ws := [1, 2, 6, 9, 10, 101, 105]) G5 g107 rfl
        exact wq_t p109 (wq_some (rI_i ⟨W106, G110, p109⟩))
      refine wq_if _ (fun c111 => ?_) (fun c111 => ?_)
      · refine wk_at W3 t0 rfl (fun _ => ?_)
        refine wq_cI (s_Runner_leave W3 t0 t1) ?_
        rintro y115 h112 ⟨W113, g114, p116⟩
        have G117 := fk_c (ws := [1, 2, 6, 9, 10, 101, 105]) G5 g114 rfl
        exact wq_t p116 (wq_some (rI_i ⟨W113, G117, p116⟩))
      refine wq_if _ (fun c118 => ?_) (fun c118 => ?_)
      · refine wk_at W3 t0 rfl (fun _ => ?_)
        refine wq_cI (s_Runner_leave W3 t0 t1) ?_
        rintro y122 h119 ⟨W120, g121, p123⟩
        have G124 := fk_c (ws := [1, 2, 6, 9, 10, 101, 105]) G5 g121 rfl
        exact wq_t p123 (wq_some (rI_i ⟨W120, G124, p123⟩))
      refine wq_if _ (fun c125 => ?_) (fun c125 => ?_)
      · refine wk_at W3 t0 rfl (fun _ => ?_)
        refine wq_cI (s_Runner_pause W3 t0 t1) ?_
        rintro y129 h126 ⟨W127, g128, p130⟩
        have G131 := fk_c (ws := [1, 2, 6, 9, 10, 101, 105]) G5 g128 rfl
        exact wq_t p130 (wq_some (rI_i ⟨W127, G131, p130⟩))
      refine wq_if _ (fun c132 => ?_) (fun c132 => ?_)
      · refine wq_eq q_207_227 ?_
        refine wk_at W3 t1 rfl (fun _ => ?_)
        refine wq_cI (s_Unit_goBehind W3 t1) ?_
        rintro y136 h133 ⟨W134, g135, p137⟩
        have G138 := fk_c (ws := [1, 2, 6, 9, 10, 101, 105]) G5 g135 rfl
        exact wq_t p137 (wq_some (rI_i ⟨W134, G138, p137⟩))
      refine wq_if _ (fun c139 => ?_) (fun c139 => ?_)
      · refine wk_at W3 t0 rfl (fun _ => ?_)
        refine wq_cI (s_Runner_findNumber W3 t0 t1) ?_
        rintro y143 h140 ⟨W141, g142, p144⟩
        have G145 := fk_c (ws := [1, 2, 6, 9, 10, 101, 105]) G5 g142 rfl
        refine wq_if _ (fun c146 => ?_) (fun c146 => ?_)
        · exact wq_t (Or.inl rfl) (wq_some (rI_i ⟨W141, G145, (Or.inl rfl)⟩))
        · refine wk_at W141 t0 rfl (fun _ => ?_)
          refine wq_cI (s_Runner_tell W141 t0 t1) ?_
          rintro y150 h147 ⟨W148, g149, p151⟩
          have G152 := fk_c (ws := [1, 2, 6, 9, 10, 101, 105]) G145 g149 rfl
          refine wq_if _ (fun c153 => ?_) (fun c153 => ?_)
          · exact wq_t (Or.inl rfl) (wq_some (rI_i ⟨W148, G152, (Or.inl rfl)⟩))
          · exact wq_t (Or.inr rfl) (wq_some (rI_i ⟨W148, G152, (Or.inr rfl)⟩))
      refine wq_if _ (fun c154 => ?_) (fun c154 => ?_)
      · refine wk_at W3 t0 rfl (fun _ => ?_)
        refine wq_cI (s_Runner_check W3 t0 t1) ?_
        rintro y158 h155 ⟨W156, g157, p159⟩
        have G160 := fk_c (ws := [1, 2, 6, 9, 10, 101, 105]) G5 g157 rfl
        exact wq_t p159 (wq_some (rI_i ⟨W156, G160, p159⟩))
      refine wq_eq q_207_227 ?_
      refine wk_at W3 t1 rfl (fun _ => ?_)
      refine wq_cI (s_Unit_goBehind W3 t1) ?_
      rintro y164 h161 ⟨W162, g163, p165⟩
      have G166 := fk_c (ws := [1, 2, 6, 9, 10, 101, 105]) G5 g163 rfl
      exact wq_t p165 (wq_some (rI_i ⟨W162, G166, p165⟩))
theorem s_Runner_waitIsOver {d : Nat} {h : ah_H} {v0 : Nat} {n1 : Nat} {v1 : Nat} (W : cI K κ b h) (t0 : κ v0 = some (6, 0)) (t1 : κ v1 = some (10, n1)) : wq (vc lim (d + 6) m_Runner_waitIsOver [.inr (.inr (some v0)), .inr (.inr (some v1))] h) (rI fun x h' => cI K κ b h' ∧ fk [1, 2, 10] κ h h' ∧ True) := by
  refine wq_eq e_Runner_waitIsOver ?_
  refine wk_at W t1 rfl (fun _ => ?_)
  refine wq_cI (s_Unit_waitsForExpression W t1) ?_
  rintro y3 h1 ⟨rfl, p4⟩
  refine wq_if _ (fun c5 => ?_) (fun c5 => ?_)
  · exact wq_some (rI_i ⟨W, fk_0, trivial⟩)
  · obtain ⟨nd_6, nn_6, vr_6, vn_6, s2_6, s3_6, s4_6, s5_6, s6_6, s7_6, s8_6, w9_6, nx_6, en_6, e_6, tnd_6, tvr_6, tnx_6, ten_6⟩ := o10 W t1
    refine wq_gI e_6 rfl ?_
    refine wk_at W t0 rfl (fun _ => ?_)
    refine wq_cI (s_Runner_findNumber W t0 t1) ?_
    rintro y10 h7 ⟨W8, g9, p11⟩
    have G12 := fk_c (ws := [1, 2, 10]) fk_0 g9 rfl
    refine wq_if _ (fun c13 => ?_) (fun c13 => ?_)
    · exact wq_some (rI_i ⟨W8, G12, trivial⟩)
    · obtain ⟨sg_14, td_14, fd_14, ch_14, wv_14, dl_14, tg_14, x7_14, x8_14, x9_14, x10_14, e_14, tsg_14, ttd_14, tfd_14, tch_14, twv_14, tdl_14, ttg_14⟩ := o6 W8 t0
      refine wq_gR e_14 rfl ?_
      refine wk_at W8 tfd_14 rfl (fun _ => ?_)
      refine wq_cR (s_Finder_found W8 tfd_14) ?_
      rintro _ h15 ⟨rfl, a19, rfl, p18⟩
      obtain ⟨i_20, l_20, n_20, bA_20, bB_20, bC_20, bD_20, e_20⟩ := o1 W8 p18
      refine wq_gJ e_20 rfl ?_
      refine wq_if _ (fun c21 => ?_) (fun c21 => ?_)
      · exact wq_some (rI_i ⟨W8, G12, trivial⟩)
      · exact wq_some (rI_i ⟨W8, G12, trivial⟩)
end CsE
