/-! CONTRACTS: what is asked, by program (wip/tools/clsgen.py) -/
section CsF
variable {lim : Nat × Nat} {K : Nat} {κ : kM} {b : ah_H}
theorem s_Things_isFull {d : Nat} {h : ah_H} {n0 : Nat} {v0 : Nat} (W : cI K κ b h) (t0 : κ v0 = some (8, n0)) : wq (vc lim (d + 1) m_Things_isFull [.inr (.inr (some v0))] h) (rI fun x h' => h' = h ∧ ((x = 0 ∨ x = 1) ∧ (x = 0 → ∀ vs, h.1 v0 = some (8, vs) → ∀ c, vs[1]? = some (aI c) → c.toInt < n0))) := by
  refine wq_eq e_Things_isFull ?_
  obtain ⟨rw_1, c_1, e_1, trw_1, b0_1, b1_1, b2_1⟩ := o8 W t0
  refine wq_gI e_1 rfl ?_
  refine wq_gR e_1 rfl ?_
  refine wk_len W trw_1 (by decide) ?_
  intro len2 hl3
  refine wq_if _ (fun c4 => ?_) (fun c4 => ?_)
  · exact wq_t (Or.inl rfl) (wq_some (rI_i ⟨rfl, Or.inl rfl, fun _ vs e1 c e2 => by rw [e_1] at e1; cases e1; cases e2; exact (by have := lt_i c4; omega)⟩))
  · exact wq_t (Or.inr rfl) (wq_some (rI_i ⟨rfl, Or.inr rfl, fun h => absurd h (by decide)⟩))
theorem s_Nodes_isFull {d : Nat} {h : ah_H} {n0 : Nat} {v0 : Nat} (W : cI K κ b h) (t0 : κ v0 = some (5, n0)) : wq (vc lim (d + 1) m_Nodes_isFull [.inr (.inr (some v0))] h) (rI fun x h' => h' = h ∧ ((x = 0 ∨ x = 1) ∧ (x = 0 → ∀ vs, h.1 v0 = some (5, vs) → ∀ c, vs[8]? = some (aI c) → c.toInt < n0))) := by
  refine wq_eq e_Nodes_isFull ?_
  obtain ⟨aA_1, aB_1, aC_1, aD_1, aE_1, aF_1, aG_1, aH_1, c_1, kt_1, e_1, taA_1, taB_1, taC_1, taD_1, taE_1, taF_1, taG_1, taH_1, b0_1, b1_1, b2_1, b3_1, b4_1⟩ := o5 W t0
  refine wq_gI e_1 rfl ?_
  refine wq_gR e_1 rfl ?_
  refine wk_len W taA_1 (by decide) ?_
  intro len2 hl3
  refine wq_if _ (fun c4 => ?_) (fun c4 => ?_)
  · exact wq_t (Or.inl rfl) (wq_some (rI_i ⟨rfl, Or.inl rfl, fun _ vs e1 c e2 => by rw [e_1] at e1; cases e1; cases e2; exact (by have := lt_i c4; omega)⟩))
  · exact wq_t (Or.inr rfl) (wq_some (rI_i ⟨rfl, Or.inr rfl, fun h => absurd h (by decide)⟩))
theorem s_Things_keep {d : Nat} {h : ah_H} {n0 : Nat} {v0 : Nat} {v1 : Option Nat} (W : cI K κ b h) (t0 : κ v0 = some (8, n0)) (t1 : ∀ t, v1 = some t → κ t = some (7, 0)) : wq (vc lim (d + 2) m_Things_keep [.inr (.inr (some v0)), .inr (.inr v1)] h) (rI fun x h' => cI K κ b h' ∧ fk [8, 117] κ h h' ∧ True) := by
  refine wq_eq e_Things_keep ?_
  refine wk_at W t0 rfl (fun _ => ?_)
  refine wq_cI (s_Things_isFull W t0) ?_
  rintro y3 h1 ⟨rfl, p4⟩
  refine wq_if _ (fun c5 => ?_) (fun c5 => ?_)
  · obtain ⟨rw_6, c_6, e_6, trw_6, b0_6, b1_6, b2_6⟩ := o8 W t0
    have f7 := p4.2 c5 _ e_6 _ rfl
    refine wq_gR e_6 rfl ?_
    refine wq_gI e_6 rfl ?_
    refine wk_s7 W trw_6 (by have := congrArg Int32.toInt c5; have : (0 : Int32).toInt = 0 := rfl; omega) (by have := congrArg Int32.toInt c5; have : (0 : Int32).toInt = 0 := rfl; omega) t1 ?_
    intro h8 W9 o10
    have G11 := fk_w (ws := [8, 117]) fk_0 trw_6 o10 rfl
    have e12 := (o10 _ (kne t0 trw_6 rfl)).trans e_6
    refine wq_gI e12 rfl ?_
    refine wk_wr W9 t0 rfl e12 (Nat.le_of_ble_eq_true rfl) (i8 trw_6 (by have := congrArg Int32.toInt c5; have : (0 : Int32).toInt = 0 := rfl; have : (1 : Int32).toInt = 1 := rfl; have := bd_i c_6; have := bd_i y3; have := bd_i c_6; have := bd_i (1 : Int32); have : (c_6 + (1 : Int32)).toInt = c_6.toInt + (1 : Int32).toInt := ad_i (by omega) (by omega); omega) (by have := congrArg Int32.toInt c5; have : (0 : Int32).toInt = 0 := rfl; have : (1 : Int32).toInt = 1 := rfl; have := bd_i c_6; have := bd_i y3; have := bd_i c_6; have := bd_i (1 : Int32); have : (c_6 + (1 : Int32)).toInt = c_6.toInt + (1 : Int32).toInt := ad_i (by omega) (by omega); omega) b2_6) ?_
    intro h13 W14 e15 o16
    have G17 := fk_w (ws := [8, 117]) G11 t0 o16 rfl
    refine wq_gI e15 rfl ?_
    exact wq_some (rI_i ⟨W14, G17, trivial⟩)
  · exact wq_some (rI_i ⟨W, fk_0, trivial⟩)
theorem s_Things_clear {d : Nat} {h : ah_H} {n0 : Nat} {v0 : Nat} (W : cI K κ b h) (t0 : κ v0 = some (8, n0)) : wq (vc lim (d + 1) m_Things_clear [.inr (.inr (some v0))] h) (rV fun h' => cI K κ b h' ∧ fk [8] κ h h') := by
  refine wq_eq e_Things_clear ?_
  obtain ⟨rw_1, c_1, e_1, trw_1, b0_1, b1_1, b2_1⟩ := o8 W t0
  refine wk_wr W t0 rfl e_1 (Nat.le_of_ble_eq_true rfl) (i8 trw_1 (by have : (0 : Int32).toInt = 0 := rfl; omega) (by have : (0 : Int32).toInt = 0 := rfl; omega) b2_1) ?_
  intro h2 W3 e4 o5
  have G6 := fk_w (ws := [8]) fk_0 t0 o5 rfl
  exact wq_some (rV_i ⟨W3, G6⟩)
theorem s_Nodes_clear {d : Nat} {h : ah_H} {n0 : Nat} {v0 : Nat} (W : cI K κ b h) (t0 : κ v0 = some (5, n0)) : wq (vc lim (d + 1) m_Nodes_clear [.inr (.inr (some v0))] h) (rV fun h' => cI K κ b h' ∧ fk [5] κ h h') := by
  refine wq_eq e_Nodes_clear ?_
  obtain ⟨aA_1, aB_1, aC_1, aD_1, aE_1, aF_1, aG_1, aH_1, c_1, kt_1, e_1, taA_1, taB_1, taC_1, taD_1, taE_1, taF_1, taG_1, taH_1, b0_1, b1_1, b2_1, b3_1, b4_1⟩ := o5 W t0
  refine wk_wr W t0 rfl e_1 (Nat.le_of_ble_eq_true rfl) (i5 taA_1 taB_1 taC_1 taD_1 taE_1 taF_1 taG_1 taH_1 (by have : (0 : Int32).toInt = 0 := rfl; omega) (by have : (0 : Int32).toInt = 0 := rfl; omega) (by have : (0 : Int32).toInt = 0 := rfl; omega) b3_1 b4_1) ?_
  intro h2 W3 e4 o5
  have G6 := fk_w (ws := [5]) fk_0 t0 o5 rfl
  refine wk_wr W3 t0 rfl e4 (Nat.le_of_ble_eq_true rfl) (i5 taA_1 taB_1 taC_1 taD_1 taE_1 taF_1 taG_1 taH_1 (by exact (by have : (0 : Int32).toInt = 0 := rfl; omega)) (by exact (by have : (0 : Int32).toInt = 0 := rfl; omega)) (by exact (by have : (0 : Int32).toInt = 0 := rfl; omega)) (by have : (0 : Int32).toInt = 0 := rfl; omega) b4_1) ?_
  intro h7 W8 e9 o10
  have G11 := fk_w (ws := [5]) G6 t0 o10 rfl
  exact wq_some (rV_i ⟨W8, G11⟩)
theorem s_Maker_clear {d : Nat} {h : ah_H} {v0 : Nat} (W : cI K κ b h) (t0 : κ v0 = some (4, 0)) : wq (vc lim (d + 2) m_Maker_clear [.inr (.inr (some v0))] h) (rV fun h' => cI K κ b h' ∧ fk [4, 5, 8] κ h h') := by
  refine wq_eq e_Maker_clear ?_
  obtain ⟨nd_1, vr_1, ht_1, rt_1, rc_1, e_1, tnd_1, tvr_1, tht_1, trt_1, b0_1, b1_1⟩ := o4 W t0
  refine wq_gR e_1 rfl ?_
  refine wk_at W tnd_1 rfl (fun _ => ?_)
  refine wq_cV (s_Nodes_clear W tnd_1) ?_
  rintro h2 ⟨W3, g4⟩
  have G5 := fk_c (ws := [4, 5, 8]) fk_0 g4 rfl
  have e6 := (g4 _ _ _ t0 rfl).trans e_1
  refine wq_gR e6 rfl ?_
  refine wk_at W3 tvr_1 rfl (fun _ => ?_)
  refine wq_cV (s_Things_clear W3 tvr_1) ?_
  rintro h7 ⟨W8, g9⟩
  have G10 := fk_c (ws := [4, 5, 8]) G5 g9 rfl
  have e11 := (g9 _ _ _ t0 rfl).trans e6
  refine wk_wr W8 t0 rfl e11 (Nat.le_of_ble_eq_true rfl) (i4 tnd_1 tvr_1 tht_1 trt_1 (by have : (0 : Int32).toInt = 0 := rfl; omega) (by have : (0 : Int32).toInt = 0 := rfl; omega)) ?_
  intro h12 W13 e14 o15
  have G16 := fk_w (ws := [4, 5, 8]) G10 t0 o15 rfl
  exact wq_some (rV_i ⟨W13, G16⟩)
theorem s_Nodes_begin {d : Nat} {h : ah_H} {n0 : Nat} {v0 : Nat} {v1 : Int32} {v2 : Int32} (W : cI K κ b h) (t0 : κ v0 = some (5, n0)) (hk : ∀ vs, h.1 v0 = some (5, vs) → ∀ c, vs[8]? = some (aI c) → c.toInt + 1 ≤ K) : wq (vc lim (d + 2) m_Nodes_begin [.inr (.inr (some v0)), .inl v1, .inl v2] h) (rI fun x h' => cI K κ b h' ∧ fk [5, 100] κ h h' ∧ True) := by
  obtain ⟨aA_1, aB_1, aC_1, aD_1, aE_1, aF_1, aG_1, aH_1, c_1, kt_1, e_1, taA_1, taB_1, taC_1, taD_1, taE_1, taF_1, taG_1, taH_1, b0_1, b1_1, b2_1, b3_1, b4_1⟩ := o5 W t0
  have hk1 := hk _ e_1 _ rfl
  refine wq_eq e_Nodes_begin ?_
  refine wk_at W t0 rfl (fun _ => ?_)
  refine wq_cI (s_Nodes_isFull W t0) ?_
  rintro y4 h2 ⟨rfl, p5⟩
  refine wq_if _ (fun c6 => ?_) (fun c6 => ?_)
  · have f7 := p5.2 c6 _ e_1 _ rfl
    refine wq_gI e_1 rfl ?_
    refine wq_gR e_1 rfl ?_
    refine wk_sI W taA_1 (by have := congrArg Int32.toInt c6; have : (0 : Int32).toInt = 0 := rfl; omega) (by have := congrArg Int32.toInt c6; have : (0 : Int32).toInt = 0 := rfl; omega) ?_
    intro h8 W9 o10
    have G11 := fk_w (ws := [5, 100]) fk_0 taA_1 o10 rfl
    have e12 := (o10 _ (kne t0 taA_1 rfl)).trans e_1
    refine wq_gR e12 rfl ?_
    refine wk_sI W9 taB_1 (by have := congrArg Int32.toInt c6; have : (0 : Int32).toInt = 0 := rfl; omega) (by have := congrArg Int32.toInt c6; have : (0 : Int32).toInt = 0 := rfl; omega) ?_
    intro h13 W14 o15
    have G16 := fk_w (ws := [5, 100]) G11 taB_1 o15 rfl
    have e17 := (o15 _ (kne t0 taB_1 rfl)).trans e12
    refine wq_gR e17 rfl ?_
    refine wk_sI W14 taC_1 (by have := congrArg Int32.toInt c6; have : (0 : Int32).toInt = 0 := rfl; omega) (by have := congrArg Int32.toInt c6; have : (0 : Int32).toInt = 0 := rfl; omega) ?_
    intro h18 W19 o20
    have G21 := fk_w (ws := [5, 100]) G16 taC_1 o20 rfl
    have e22 := (o20 _ (kne t0 taC_1 rfl)).trans e17
    refine wq_gR e22 rfl ?_
    refine wk_sI W19 taD_1 (by have := congrArg Int32.toInt c6; have : (0 : Int32).toInt = 0 := rfl; omega) (by have := congrArg Int32.toInt c6; have : (0 : Int32).toInt = 0 := rfl; omega) ?_
    intro h23 W24 o25
    have G26 := fk_w (ws := [5, 100]) G21 taD_1 o25 rfl
    have e27 := (o25 _ (kne t0 taD_1 rfl)).trans e22
    refine wq_gR e27 rfl ?_
    refine wk_sI W24 taE_1 (by have := congrArg Int32.toInt c6; have : (0 : Int32).toInt = 0 := rfl; omega) (by have := congrArg Int32.toInt c6; have : (0 : Int32).toInt = 0 := rfl; omega) ?_
    intro h28 W29 o30
    have G31 := fk_w (ws := [5, 100]) G26 taE_1 o30 rfl
    have e32 := (o30 _ (kne t0 taE_1 rfl)).trans e27
    refine wq_gR e32 rfl ?_
    refine wq_gI e32 rfl ?_
    refine wk_sI W29 taF_1 (by have := congrArg Int32.toInt c6; have : (0 : Int32).toInt = 0 := rfl; omega) (by have := congrArg Int32.toInt c6; have : (0 : Int32).toInt = 0 := rfl; omega) ?_
    intro h33 W34 o35
    have G36 := fk_w (ws := [5, 100]) G31 taF_1 o35 rfl
    have e37 := (o35 _ (kne t0 taF_1 rfl)).trans e32
    refine wq_gR e37 rfl ?_
    refine wk_sI W34 taG_1 (by have := congrArg Int32.toInt c6; have : (0 : Int32).toInt = 0 := rfl; omega) (by have := congrArg Int32.toInt c6; have : (0 : Int32).toInt = 0 := rfl; omega) ?_
    intro h38 W39 o40
    have G41 := fk_w (ws := [5, 100]) G36 taG_1 o40 rfl
    have e42 := (o40 _ (kne t0 taG_1 rfl)).trans e37
    refine wq_gI e42 rfl ?_
    refine wk_wr W39 t0 rfl e42 (Nat.le_of_ble_eq_true rfl) (i5 taA_1 taB_1 taC_1 taD_1 taE_1 taF_1 taG_1 taH_1 (by have := congrArg Int32.toInt c6; have : (0 : Int32).toInt = 0 := rfl; have : (1 : Int32).toInt = 1 := rfl; have := bd_i c_1; have := bd_i y4; have := bd_i c_1; have := bd_i (1 : Int32); have : (c_1 + (1 : Int32)).toInt = c_1.toInt + (1 : Int32).toInt := ad_i (by omega) (by omega); omega) (by have := congrArg Int32.toInt c6; have : (0 : Int32).toInt = 0 := rfl; have : (1 : Int32).toInt = 1 := rfl; have := bd_i c_1; have := bd_i y4; have := bd_i c_1; have := bd_i (1 : Int32); have : (c_1 + (1 : Int32)).toInt = c_1.toInt + (1 : Int32).toInt := ad_i (by omega) (by omega); omega) (by have := congrArg Int32.toInt c6; have : (0 : Int32).toInt = 0 := rfl; have : (1 : Int32).toInt = 1 := rfl; have := bd_i c_1; have := bd_i y4; have := bd_i c_1; have := bd_i (1 : Int32); have : (c_1 + (1 : Int32)).toInt = c_1.toInt + (1 : Int32).toInt := ad_i (by omega) (by omega); omega) b3_1 b4_1) ?_
    intro h43 W44 e45 o46
    have G47 := fk_w (ws := [5, 100]) G41 t0 o46 rfl
    exact wq_some (rI_i ⟨W44, G47, trivial⟩)
  · exact wq_some (rI_i ⟨W, fk_0, trivial⟩)
theorem s_Nodes_take {d : Nat} {h : ah_H} {n0 : Nat} {v0 : Nat} {v1 : Int32} (W : cI K κ b h) (t0 : κ v0 = some (5, n0)) : wq (vc lim (d + 1) m_Nodes_take [.inr (.inr (some v0)), .inl v1] h) (rV fun h' => cI K κ b h' ∧ fk [5, 100] κ h h') := by
  refine wq_eq e_Nodes_take ?_
  obtain ⟨aA_1, aB_1, aC_1, aD_1, aE_1, aF_1, aG_1, aH_1, c_1, kt_1, e_1, taA_1, taB_1, taC_1, taD_1, taE_1, taF_1, taG_1, taH_1, b0_1, b1_1, b2_1, b3_1, b4_1⟩ := o5 W t0
  refine wq_gI e_1 rfl ?_
  refine wq_if _ (fun c2 => ?_) (fun c2 => ?_)
  · exact wq_some (rV_i ⟨W, fk_0⟩)
  · refine wq_if _ (fun c3 => ?_) (fun c3 => ?_)
    · exact wq_some (rV_i ⟨W, fk_0⟩)
    · refine wq_if _ (fun c4 => ?_) (fun c4 => ?_)
      · refine wq_gI e_1 rfl ?_
        refine wq_gR e_1 rfl ?_
        refine wk_len W taH_1 (by decide) ?_
        intro len5 hl6
        refine wq_if _ (fun c7 => ?_) (fun c7 => ?_)
        · refine wq_gR e_1 rfl ?_
          refine wk_lI W taG_1 (by have := nlt_i c2; have := nlt_i c3; have := lt_i c4; have := lt_i c7; have : (0 : Int32).toInt = 0 := rfl; have : (1 : Int32).toInt = 1 := rfl; have := bd_i c_1; have := bd_i kt_1; have := bd_i len5; have := bd_i v1; have := bd_i c_1; have := bd_i (1 : Int32); have : (c_1 - (1 : Int32)).toInt = c_1.toInt - (1 : Int32).toInt := sb_i (by omega) (by omega); omega) (by have := nlt_i c2; have := nlt_i c3; have := lt_i c4; have := lt_i c7; have : (0 : Int32).toInt = 0 := rfl; have : (1 : Int32).toInt = 1 := rfl; have := bd_i c_1; have := bd_i kt_1; have := bd_i len5; have := bd_i v1; have := bd_i c_1; have := bd_i (1 : Int32); have : (c_1 - (1 : Int32)).toInt = c_1.toInt - (1 : Int32).toInt := sb_i (by omega) (by omega); omega) (fun v8 => ?_)
          refine wq_if _ (fun c9 => ?_) (fun c9 => ?_)
          · refine wq_gR e_1 rfl ?_
            refine wq_gR e_1 rfl ?_
            refine wk_lI W taC_1 (by have := nlt_i c2; have := nlt_i c3; have := lt_i c4; have := lt_i c7; have := congrArg Int32.toInt c9; have : (0 : Int32).toInt = 0 := rfl; have : (1 : Int32).toInt = 1 := rfl; have := bd_i c_1; have := bd_i kt_1; have := bd_i len5; have := bd_i v1; have := bd_i v8; have := bd_i c_1; have := bd_i (1 : Int32); have : (c_1 - (1 : Int32)).toInt = c_1.toInt - (1 : Int32).toInt := sb_i (by omega) (by omega); omega) (by have := nlt_i c2; have := nlt_i c3; have := lt_i c4; have := lt_i c7; have := congrArg Int32.toInt c9; have : (0 : Int32).toInt = 0 := rfl; have : (1 : Int32).toInt = 1 := rfl; have := bd_i c_1; have := bd_i kt_1; have := bd_i len5; have := bd_i v1; have := bd_i v8; have := bd_i c_1; have := bd_i (1 : Int32); have : (c_1 - (1 : Int32)).toInt = c_1.toInt - (1 : Int32).toInt := sb_i (by omega) (by omega); omega) (fun v10 => ?_)
            refine wk_sI W taC_1 (by have := nlt_i c2; have := nlt_i c3; have := lt_i c4; have := lt_i c7; have := congrArg Int32.toInt c9; have : (0 : Int32).toInt = 0 := rfl; have : (1 : Int32).toInt = 1 := rfl; have := bd_i c_1; have := bd_i kt_1; have := bd_i len5; have := bd_i v1; have := bd_i v8; have := bd_i c_1; have := bd_i (1 : Int32); have : (c_1 - (1 : Int32)).toInt = c_1.toInt - (1 : Int32).toInt := sb_i (by omega) (by omega); omega) (by have := nlt_i c2; have := nlt_i c3; have := lt_i c4; have := lt_i c7; have := congrArg Int32.toInt c9; have : (0 : Int32).toInt = 0 := rfl; have : (1 : Int32).toInt = 1 := rfl; have := bd_i c_1; have := bd_i kt_1; have := bd_i len5; have := bd_i v1; have := bd_i v8; have := bd_i c_1; have := bd_i (1 : Int32); have : (c_1 - (1 : Int32)).toInt = c_1.toInt - (1 : Int32).toInt := sb_i (by omega) (by omega); omega) ?_
            intro h11 W12 o13
            have G14 := fk_w (ws := [5, 100]) fk_0 taC_1 o13 rfl
            have e15 := (o13 _ (kne t0 taC_1 rfl)).trans e_1
            refine wq_eq q_204_54 ?_
            refine wq_gR e15 rfl ?_
            refine wk_sI W12 taD_1 (by have := nlt_i c2; have := nlt_i c3; have := lt_i c4; have := lt_i c7; have := congrArg Int32.toInt c9; have : (0 : Int32).toInt = 0 := rfl; have : (1 : Int32).toInt = 1 := rfl; have := bd_i c_1; have := bd_i kt_1; have := bd_i len5; have := bd_i v1; have := bd_i v8; have := bd_i c_1; have := bd_i (1 : Int32); have : (c_1 - (1 : Int32)).toInt = c_1.toInt - (1 : Int32).toInt := sb_i (by omega) (by omega); omega) (by have := nlt_i c2; have := nlt_i c3; have := lt_i c4; have := lt_i c7; have := congrArg Int32.toInt c9; have : (0 : Int32).toInt = 0 := rfl; have : (1 : Int32).toInt = 1 := rfl; have := bd_i c_1; have := bd_i kt_1; have := bd_i len5; have := bd_i v1; have := bd_i v8; have := bd_i c_1; have := bd_i (1 : Int32); have : (c_1 - (1 : Int32)).toInt = c_1.toInt - (1 : Int32).toInt := sb_i (by omega) (by omega); omega) ?_
            intro h16 W17 o18
            have G19 := fk_w (ws := [5, 100]) G14 taD_1 o18 rfl
            have e20 := (o18 _ (kne t0 taD_1 rfl)).trans e15
            refine wq_gR e20 rfl ?_
            refine wq_gR e20 rfl ?_
            refine wk_lI W17 taG_1 (by have := nlt_i c2; have := nlt_i c3; have := lt_i c4; have := lt_i c7; have := congrArg Int32.toInt c9; have : (0 : Int32).toInt = 0 := rfl; have : (1 : Int32).toInt = 1 := rfl; have := bd_i c_1; have := bd_i kt_1; have := bd_i len5; have := bd_i v1; have := bd_i v8; have := bd_i c_1; have := bd_i (1 : Int32); have : (c_1 - (1 : Int32)).toInt = c_1.toInt - (1 : Int32).toInt := sb_i (by omega) (by omega); omega) (by have := nlt_i c2; have := nlt_i c3; have := lt_i c4; have := lt_i c7; have := congrArg Int32.toInt c9; have : (0 : Int32).toInt = 0 := rfl; have : (1 : Int32).toInt = 1 := rfl; have := bd_i c_1; have := bd_i kt_1; have := bd_i len5; have := bd_i v1; have := bd_i v8; have := bd_i c_1; have := bd_i (1 : Int32); have : (c_1 - (1 : Int32)).toInt = c_1.toInt - (1 : Int32).toInt := sb_i (by omega) (by omega); omega) (fun v21 => ?_)
            refine wk_sI W17 taE_1 (by have := nlt_i c2; have := nlt_i c3; have := lt_i c4; have := lt_i c7; have := congrArg Int32.toInt c9; have : (0 : Int32).toInt = 0 := rfl; have : (1 : Int32).toInt = 1 := rfl; have := bd_i c_1; have := bd_i kt_1; have := bd_i len5; have := bd_i v1; have := bd_i v8; have := bd_i c_1; have := bd_i (1 : Int32); have : (c_1 - (1 : Int32)).toInt = c_1.toInt - (1 : Int32).toInt := sb_i (by omega) (by omega); omega) (by have := nlt_i c2; have := nlt_i c3; have := lt_i c4; have := lt_i c7; have := congrArg Int32.toInt c9; have : (0 : Int32).toInt = 0 := rfl; have : (1 : Int32).toInt = 1 := rfl; have := bd_i c_1; have := bd_i kt_1; have := bd_i len5; have := bd_i v1; have := bd_i v8; have := bd_i c_1; have := bd_i (1 : Int32); have : (c_1 - (1 : Int32)).toInt = c_1.toInt - (1 : Int32).toInt := sb_i (by omega) (by omega); omega) ?_
            intro h22 W23 o24
            have G25 := fk_w (ws := [5, 100]) G19 taE_1 o24 rfl
            have e26 := (o24 _ (kne t0 taE_1 rfl)).trans e20
            refine wq_gR e26 rfl ?_
            refine wq_gI e26 rfl ?_
            refine wk_sI W23 taH_1 (by have := nlt_i c2; have := nlt_i c3; have := lt_i c4; have := lt_i c7; have := congrArg Int32.toInt c9; have : (0 : Int32).toInt = 0 := rfl; have : (1 : Int32).toInt = 1 := rfl; have := bd_i c_1; have := bd_i kt_1; have := bd_i len5; have := bd_i v1; have := bd_i v8; have := bd_i c_1; have := bd_i (1 : Int32); have : (c_1 - (1 : Int32)).toInt = c_1.toInt - (1 : Int32).toInt := sb_i (by omega) (by omega); omega) (by have := nlt_i c2; have := nlt_i c3; have := lt_i c4; have := lt_i c7; have := congrArg Int32.toInt c9; have : (0 : Int32).toInt = 0 := rfl; have : (1 : Int32).toInt = 1 := rfl; have := bd_i c_1; have := bd_i kt_1; have := bd_i len5; have := bd_i v1; have := bd_i v8; have := bd_i c_1; have := bd_i (1 : Int32); have : (c_1 - (1 : Int32)).toInt = c_1.toInt - (1 : Int32).toInt := sb_i (by omega) (by omega); omega) ?_
            intro h27 W28 o29
            have G30 := fk_w (ws := [5, 100]) G25 taH_1 o29 rfl
            have e31 := (o29 _ (kne t0 taH_1 rfl)).trans e26
            refine wq_gI e31 rfl ?_
            refine wk_wr W28 t0 rfl e31 (Nat.le_of_ble_eq_true rfl) (i5 taA_1 taB_1 taC_1 taD_1 taE_1 taF_1 taG_1 taH_1 b0_1 b1_1 b2_1 (by have := nlt_i c2; have := nlt_i c3; have := lt_i c4; have := lt_i c7; have := congrArg Int32.toInt c9; have : (0 : Int32).toInt = 0 := rfl; have : (1 : Int32).toInt = 1 := rfl; have := bd_i c_1; have := bd_i kt_1; have := bd_i len5; have := bd_i v1; have := bd_i v8; have := bd_i c_1; have := bd_i (1 : Int32); have : (c_1 - (1 : Int32)).toInt = c_1.toInt - (1 : Int32).toInt := sb_i (by omega) (by omega); have := bd_i kt_1; have := bd_i (1 : Int32); have : (kt_1 + (1 : Int32)).toInt = kt_1.toInt + (1 : Int32).toInt := ad_i (by omega) (by omega); omega) b4_1) ?_
            intro h32 W33 e34 o35
            have G36 := fk_w (ws := [5, 100]) G30 t0 o35 rfl
            refine wq_gR e34 rfl ?_
            refine wk_lI W33 taG_1 (by have := nlt_i c2; have := nlt_i c3; have := lt_i c4; have := lt_i c7; have := congrArg Int32.toInt c9; have : (0 : Int32).toInt = 0 := rfl; have : (1 : Int32).toInt = 1 := rfl; have := bd_i c_1; have := bd_i kt_1; have := bd_i len5; have := bd_i v1; have := bd_i v8; have := bd_i c_1; have := bd_i (1 : Int32); have : (c_1 - (1 : Int32)).toInt = c_1.toInt - (1 : Int32).toInt := sb_i (by omega) (by omega); omega) (by have := nlt_i c2; have := nlt_i c3; have := lt_i c4; have := lt_i c7; have := congrArg Int32.toInt c9; have : (0 : Int32).toInt = 0 := rfl; have : (1 : Int32).toInt = 1 := rfl; have := bd_i c_1; have := bd_i kt_1; have := bd_i len5; have := bd_i v1; have := bd_i v8; have := bd_i c_1; have := bd_i (1 : Int32); have : (c_1 - (1 : Int32)).toInt = c_1.toInt - (1 : Int32).toInt := sb_i (by omega) (by omega); omega) (fun v37 => ?_)
            refine wk_sI W33 taG_1 (by have := nlt_i c2; have := nlt_i c3; have := lt_i c4; have := lt_i c7; have := congrArg Int32.toInt c9; have : (0 : Int32).toInt = 0 := rfl; have : (1 : Int32).toInt = 1 := rfl; have := bd_i c_1; have := bd_i kt_1; have := bd_i len5; have := bd_i v1; have := bd_i v8; have := bd_i c_1; have := bd_i (1 : Int32); have : (c_1 - (1 : Int32)).toInt = c_1.toInt - (1 : Int32).toInt := sb_i (by omega) (by omega); omega) (by have := nlt_i c2; have := nlt_i c3; have := lt_i c4; have := lt_i c7; have := congrArg Int32.toInt c9; have : (0 : Int32).toInt = 0 := rfl; have : (1 : Int32).toInt = 1 := rfl; have := bd_i c_1; have := bd_i kt_1; have := bd_i len5; have := bd_i v1; have := bd_i v8; have := bd_i c_1; have := bd_i (1 : Int32); have : (c_1 - (1 : Int32)).toInt = c_1.toInt - (1 : Int32).toInt := sb_i (by omega) (by omega); omega) ?_
            intro h38 W39 o40
            have G41 := fk_w (ws := [5, 100]) G36 taG_1 o40 rfl
            have e42 := (o40 _ (kne t0 taG_1 rfl)).trans e34
            exact wq_some (rV_i ⟨W39, G41⟩)
          · refine wq_eq q_204_54 ?_
            refine wq_gR e_1 rfl ?_
            refine wk_sI W taD_1 (by have := nlt_i c2; have := nlt_i c3; have := lt_i c4; have := lt_i c7; have := ne_i c9; have : (0 : Int32).toInt = 0 := rfl; have : (1 : Int32).toInt = 1 := rfl; have := bd_i c_1; have := bd_i kt_1; have := bd_i len5; have := bd_i v1; have := bd_i v8; have := bd_i c_1; have := bd_i (1 : Int32); have : (c_1 - (1 : Int32)).toInt = c_1.toInt - (1 : Int32).toInt := sb_i (by omega) (by omega); omega) (by have := nlt_i c2; have := nlt_i c3; have := lt_i c4; have := lt_i c7; have := ne_i c9; have : (0 : Int32).toInt = 0 := rfl; have : (1 : Int32).toInt = 1 := rfl; have := bd_i c_1; have := bd_i kt_1; have := bd_i len5; have := bd_i v1; have := bd_i v8; have := bd_i c_1; have := bd_i (1 : Int32); have : (c_1 - (1 : Int32)).toInt = c_1.toInt - (1 : Int32).toInt := sb_i (by omega) (by omega); omega) ?_
            intro h43 W44 o45
            have G46 := fk_w (ws := [5, 100]) fk_0 taD_1 o45 rfl
            have e47 := (o45 _ (kne t0 taD_1 rfl)).trans e_1
            refine wq_gR e47 rfl ?_
            refine wq_gR e47 rfl ?_
            refine wk_lI W44 taG_1 (by have := nlt_i c2; have := nlt_i c3; have := lt_i c4; have := lt_i c7; have := ne_i c9; have : (0 : Int32).toInt = 0 := rfl; have : (1 : Int32).toInt = 1 := rfl; have := bd_i c_1; have := bd_i kt_1; have := bd_i len5; have := bd_i v1; have := bd_i v8; have := bd_i c_1; have := bd_i (1 : Int32); have : (c_1 - (1 : Int32)).toInt = c_1.toInt - (1 : Int32).toInt := sb_i (by omega) (by omega); omega) (by have := nlt_i c2; have := nlt_i c3; have := lt_i c4; have := lt_i c7; have := ne_i c9; have : (0 : Int32).toInt = 0 := rfl; have : (1 : Int32).toInt = 1 := rfl; have := bd_i c_1; have := bd_i kt_1; have := bd_i len5; have := bd_i v1; have := bd_i v8; have := bd_i c_1; have := bd_i (1 : Int32); have : (c_1 - (1 : Int32)).toInt = c_1.toInt - (1 : Int32).toInt := sb_i (by omega) (by omega); omega) (fun v48 => ?_)
            refine wk_sI W44 taE_1 (by have := nlt_i c2; have := nlt_i c3; have := lt_i c4; have := lt_i c7; have := ne_i c9; have : (0 : Int32).toInt = 0 := rfl; have : (1 : Int32).toInt = 1 := rfl; have := bd_i c_1; have := bd_i kt_1; have := bd_i len5; have := bd_i v1; have := bd_i v8; have := bd_i c_1; have := bd_i (1 : Int32); have : (c_1 - (1 : Int32)).toInt = c_1.toInt - (1 : Int32).toInt := sb_i (by omega) (by omega); omega) (by have := nlt_i c2; have := nlt_i c3; have := lt_i c4; have := lt_i c7; have := ne_i c9; have : (0 : Int32).toInt = 0 := rfl; have : (1 : Int32).toInt = 1 := rfl; have := bd_i c_1; have := bd_i kt_1; have := bd_i len5; have := bd_i v1; have := bd_i v8; have := bd_i c_1; have := bd_i (1 : Int32); have : (c_1 - (1 : Int32)).toInt = c_1.toInt - (1 : Int32).toInt := sb_i (by omega) (by omega); omega) ?_
            intro h49 W50 o51
            have G52 := fk_w (ws := [5, 100]) G46 taE_1 o51 rfl
            have e53 := (o51 _ (kne t0 taE_1 rfl)).trans e47
            refine wq_gR e53 rfl ?_
            refine wq_gI e53 rfl ?_
            refine wk_sI W50 taH_1 (by have := nlt_i c2; have := nlt_i c3; have := lt_i c4; have := lt_i c7; have := ne_i c9; have : (0 : Int32).toInt = 0 := rfl; have : (1 : Int32).toInt = 1 := rfl; have := bd_i c_1; have := bd_i kt_1; have := bd_i len5; have := bd_i v1; have := bd_i v8; have := bd_i c_1; have := bd_i (1 : Int32); have : (c_1 - (1 : Int32)).toInt = c_1.toInt - (1 : Int32).toInt := sb_i (by omega) (by omega); omega) (by have := nlt_i c2; have := nlt_i c3; have := lt_i c4; have := lt_i c7; have := ne_i c9; have : (0 : Int32).toInt = 0 := rfl; have : (1 : Int32).toInt = 1 := rfl; have := bd_i c_1; have := bd_i kt_1; have := bd_i len5; have := bd_i v1; have := bd_i v8; have := bd_i c_1; have := bd_i (1 : Int32); have : (c_1 - (1 : Int32)).toInt = c_1.toInt - (1 : Int32).toInt := sb_i (by omega) (by omega); omega) ?_
            intro h54 W55 o56
            have G57 := fk_w (ws := [5, 100]) G52 taH_1 o56 rfl
            have e58 := (o56 _ (kne t0 taH_1 rfl)).trans e53
            refine wq_gI e58 rfl ?_
            refine wk_wr W55 t0 rfl e58 (Nat.le_of_ble_eq_true rfl) (i5 taA_1 taB_1 taC_1 taD_1 taE_1 taF_1 taG_1 taH_1 b0_1 b1_1 b2_1 (by have := nlt_i c2; have := nlt_i c3; have := lt_i c4; have := lt_i c7; have := ne_i c9; have : (0 : Int32).toInt = 0 := rfl; have : (1 : Int32).toInt = 1 := rfl; have := bd_i c_1; have := bd_i kt_1; have := bd_i len5; have := bd_i v1; have := bd_i v8; have := bd_i c_1; have := bd_i (1 : Int32); have : (c_1 - (1 : Int32)).toInt = c_1.toInt - (1 : Int32).toInt := sb_i (by omega) (by omega); have := bd_i kt_1; have := bd_i (1 : Int32); have : (kt_1 + (1 : Int32)).toInt = kt_1.toInt + (1 : Int32).toInt := ad_i (by omega) (by omega); omega) b4_1) ?_
            intro h59 W60 e61 o62
            have G63 := fk_w (ws := [5, 100]) G57 t0 o62 rfl
            refine wq_gR e61 rfl ?_
            refine wk_lI W60 taG_1 (by have := nlt_i c2; have := nlt_i c3; have := lt_i c4; have := lt_i c7; have := ne_i c9; have : (0 : Int32).toInt = 0 := rfl; have : (1 : Int32).toInt = 1 := rfl; have := bd_i c_1; have := bd_i kt_1; have := bd_i len5; have := bd_i v1; have := bd_i v8; have := bd_i c_1; have := bd_i (1 : Int32); have : (c_1 - (1 : Int32)).toInt = c_1.toInt - (1 : Int32).toInt := sb_i (by omega) (by omega); omega) (by have := nlt_i c2; have := nlt_i c3; have := lt_i c4; have := lt_i c7; have := ne_i c9; have : (0 : Int32).toInt = 0 := rfl; have : (1 : Int32).toInt = 1 := rfl; have := bd_i c_1; have := bd_i kt_1; have := bd_i len5; have := bd_i v1; have := bd_i v8; have := bd_i c_1; have := bd_i (1 : Int32); have : (c_1 - (1 : Int32)).toInt = c_1.toInt - (1 : Int32).toInt := sb_i (by omega) (by omega); omega) (fun v64 => ?_)
            refine wk_sI W60 taG_1 (by have := nlt_i c2; have := nlt_i c3; have := lt_i c4; have := lt_i c7; have := ne_i c9; have : (0 : Int32).toInt = 0 := rfl; have : (1 : Int32).toInt = 1 := rfl; have := bd_i c_1; have := bd_i kt_1; have := bd_i len5; have := bd_i v1; have := bd_i v8; have := bd_i c_1; have := bd_i (1 : Int32); have : (c_1 - (1 : Int32)).toInt = c_1.toInt - (1 : Int32).toInt := sb_i (by omega) (by omega); omega) (by have := nlt_i c2; have := nlt_i c3; have := lt_i c4; have := lt_i c7; have := ne_i c9; have : (0 : Int32).toInt = 0 := rfl; have : (1 : Int32).toInt = 1 := rfl; have := bd_i c_1; have := bd_i kt_1; have := bd_i len5; have := bd_i v1; have := bd_i v8; have := bd_i c_1; have := bd_i (1 : Int32); have : (c_1 - (1 : Int32)).toInt = c_1.toInt - (1 : Int32).toInt := sb_i (by omega) (by omega); omega) ?_
            intro h65 W66 o67
            have G68 := fk_w (ws := [5, 100]) G63 taG_1 o67 rfl
            have e69 := (o67 _ (kne t0 taG_1 rfl)).trans e61
            exact wq_some (rV_i ⟨W66, G68⟩)
        · exact wq_some (rV_i ⟨W, fk_0⟩)
      · exact wq_some (rV_i ⟨W, fk_0⟩)
theorem l_187_59 {d : Nat} {h : ah_H} {v0 : Nat} (t0 : κ v0 = some (4, 0)) : ∀ (m : Nat) (h1 : ah_H) (v4 : Int32) (v5 : Int32) (v6 : Int32) (v7 : Int32), (2147483647 - v7.toInt).toNat < m → 0 ≤ v7.toInt → 0 ≤ v4.toInt → v4.toInt ≤ 4000 → cI K κ b h1 → fk [4, 5, 100] κ h h1 → wq (ah_val lim ah_P (d + 2) 187 59 [some (.inr (.inr (some v0))), none, none, none, some (.inl v4), some (.inl v5), some (.inl v6), some (.inl v7)] [] h1) (rI fun x h' => cI K κ b h' ∧ fk [4, 5, 100] κ h h' ∧ True) := by
  intro m
  induction m with
  | zero => intros; omega
  | succ m ih =>
      intro h1 v4 v5 v6 v7 hm iv0 iv1 iv2 W G
      refine wq_eq q_187_59 ?_
      obtain ⟨nd_1, vr_1, ht_1, rt_1, rc_1, e_1, tnd_1, tvr_1, tht_1, trt_1, b0_1, b1_1⟩ := o4 W t0
      refine wq_gI e_1 rfl ?_
      refine wq_if _ (fun c2 => ?_) (fun c2 => ?_)
      · refine wq_gR e_1 rfl ?_
        refine wq_gR e_1 rfl ?_
        refine wk_lI W trt_1 (by have := lt_i c2; have := bd_i rc_1; have := bd_i v7; omega) (by have := lt_i c2; have := bd_i rc_1; have := bd_i v7; omega) (fun v3 => ?_)
        refine wk_at W tnd_1 rfl (fun _ => ?_)
        refine wq_cV (s_Nodes_take W tnd_1) ?_
        rintro h4 ⟨W5, g6⟩
        have G7 := fk_c (ws := [4, 5, 100]) G g6 rfl
        have e8 := (g6 _ _ _ t0 rfl).trans e_1
        refine wq_gR e8 rfl ?_
        refine wk_lI W5 trt_1 (by have := lt_i c2; have := bd_i rc_1; have := bd_i v7; omega) (by have := lt_i c2; have := bd_i rc_1; have := bd_i v7; omega) (fun v9 => ?_)
        refine wk_at W5 t0 rfl (fun _ => ?_)
        refine wq_cI (s_Maker_heightOf W5 t0) ?_
        rintro y12 h10 ⟨rfl, p13⟩
        exact ih _ _ _ _ _ (by have := lt_i c2; have : (1 : Int32).toInt = 1 := rfl; have := bd_i rc_1; have := bd_i v7; have := bd_i v7; have := bd_i (1 : Int32); have : (v7 + (1 : Int32)).toInt = v7.toInt + (1 : Int32).toInt := ad_i (by omega) (by omega); omega) (by have := lt_i c2; have : (1 : Int32).toInt = 1 := rfl; have := bd_i rc_1; have := bd_i v7; have := bd_i v7; have := bd_i (1 : Int32); have : (v7 + (1 : Int32)).toInt = v7.toInt + (1 : Int32).toInt := ad_i (by omega) (by omega); omega) (by have := lt_i c2; have := bd_i rc_1; have := bd_i v4; have := bd_i v7; omega) (by have := lt_i c2; have := bd_i rc_1; have := bd_i v4; have := bd_i v7; omega) W5 G7
      · refine wk_wr W t0 rfl e_1 (Nat.le_of_ble_eq_true rfl) (i4 tnd_1 tvr_1 tht_1 trt_1 (by have := nlt_i c2; have := bd_i rc_1; have := bd_i v4; have := bd_i v7; omega) (by have := nlt_i c2; have := bd_i rc_1; have := bd_i v4; have := bd_i v7; omega)) ?_
        intro h14 W15 e16 o17
        have G18 := fk_w (ws := [4, 5, 100]) G t0 o17 rfl
        refine wq_if _ (fun c19 => ?_) (fun c19 => ?_)
        · exact wq_some (rI_i ⟨W15, G18, trivial⟩)
        · refine wq_gR e16 rfl ?_
          refine wk_len W15 tht_1 (by decide) ?_
          intro len20 hl21
          refine wq_if _ (fun c22 => ?_) (fun c22 => ?_)
          · refine wq_gR e16 rfl ?_
            refine wk_len W15 trt_1 (by decide) ?_
            intro len23 hl24
            refine wq_if _ (fun c25 => ?_) (fun c25 => ?_)
            · refine wq_gR e16 rfl ?_
              refine wk_sI W15 tht_1 (by have := nlt_i c2; have := nlt_i c19; have := lt_i c22; have := lt_i c25; have : (0 : Int32).toInt = 0 := rfl; have := bd_i len20; have := bd_i len23; have := bd_i rc_1; have := bd_i v4; have := bd_i v5; have := bd_i v7; omega) (by have := nlt_i c2; have := nlt_i c19; have := lt_i c22; have := lt_i c25; have : (0 : Int32).toInt = 0 := rfl; have := bd_i len20; have := bd_i len23; have := bd_i rc_1; have := bd_i v4; have := bd_i v5; have := bd_i v7; omega) ?_
              intro h26 W27 o28
              have G29 := fk_w (ws := [4, 5, 100]) G18 tht_1 o28 rfl
              have e30 := (o28 _ (kne t0 tht_1 rfl)).trans e16
              refine wq_gR e30 rfl ?_
              refine wk_sI W27 trt_1 (by have := nlt_i c2; have := nlt_i c19; have := lt_i c22; have := lt_i c25; have : (0 : Int32).toInt = 0 := rfl; have := bd_i len20; have := bd_i len23; have := bd_i rc_1; have := bd_i v4; have := bd_i v5; have := bd_i v7; omega) (by have := nlt_i c2; have := nlt_i c19; have := lt_i c22; have := lt_i c25; have : (0 : Int32).toInt = 0 := rfl; have := bd_i len20; have := bd_i len23; have := bd_i rc_1; have := bd_i v4; have := bd_i v5; have := bd_i v7; omega) ?_
              intro h31 W32 o33
              have G34 := fk_w (ws := [4, 5, 100]) G29 trt_1 o33 rfl
              have e35 := (o33 _ (kne t0 trt_1 rfl)).trans e30
              refine wq_gI e35 rfl ?_
              refine wk_wr W32 t0 rfl e35 (Nat.le_of_ble_eq_true rfl) (i4 tnd_1 tvr_1 tht_1 trt_1 (by have := nlt_i c2; have := nlt_i c19; have := lt_i c22; have := lt_i c25; have : (0 : Int32).toInt = 0 := rfl; have : (1 : Int32).toInt = 1 := rfl; have := bd_i len20; have := bd_i len23; have := bd_i rc_1; have := bd_i v4; have := bd_i v5; have := bd_i v7; have := bd_i v4; have := bd_i (1 : Int32); have : (v4 + (1 : Int32)).toInt = v4.toInt + (1 : Int32).toInt := ad_i (by omega) (by omega); omega) (by have := nlt_i c2; have := nlt_i c19; have := lt_i c22; have := lt_i c25; have : (0 : Int32).toInt = 0 := rfl; have : (1 : Int32).toInt = 1 := rfl; have := bd_i len20; have := bd_i len23; have := bd_i rc_1; have := bd_i v4; have := bd_i v5; have := bd_i v7; have := bd_i v4; have := bd_i (1 : Int32); have : (v4 + (1 : Int32)).toInt = v4.toInt + (1 : Int32).toInt := ad_i (by omega) (by omega); omega)) ?_
              intro h36 W37 e38 o39
              have G40 := fk_w (ws := [4, 5, 100]) G34 t0 o39 rfl
              exact wq_some (rI_i ⟨W37, G40, trivial⟩)
            · exact wq_some (rI_i ⟨W15, G18, trivial⟩)
          · exact wq_some (rI_i ⟨W15, G18, trivial⟩)
theorem s_Maker_make {d : Nat} {h : ah_H} {v0 : Nat} {v1 : Int32} {v2 : Int32} {v3 : Int32} (W : cI K κ b h) (t0 : κ v0 = some (4, 0)) (hk : ∀ vs nd, h.1 v0 = some (4, vs) → vs[0]? = some (aR nd) → ∀ ws, h.1 nd = some (5, ws) → ∀ c, ws[8]? = some (aI c) → c.toInt + 1 ≤ K) : wq (vc lim (d + 3) m_Maker_make [.inr (.inr (some v0)), .inl v1, .inl v2, .inl v3] h) (rI fun x h' => cI K κ b h' ∧ fk [4, 5, 100] κ h h' ∧ True) := by
  refine wq_eq e_Maker_make ?_
  obtain ⟨nd_1, vr_1, ht_1, rt_1, rc_1, e_1, tnd_1, tvr_1, tht_1, trt_1, b0_1, b1_1⟩ := o4 W t0
  refine wq_gI e_1 rfl ?_
  refine wq_if _ (fun c2 => ?_) (fun c2 => ?_)
  · exact wq_some (rI_i ⟨W, fk_0, trivial⟩)
  · refine wq_if _ (fun c3 => ?_) (fun c3 => ?_)
    · exact wq_some (rI_i ⟨W, fk_0, trivial⟩)
    · refine wq_gI e_1 rfl ?_
      refine wq_gR e_1 rfl ?_
      refine wk_len W trt_1 (by decide) ?_
      intro len4 hl5
      refine wq_if _ (fun c6 => ?_) (fun c6 => ?_)
      · refine wq_gR e_1 rfl ?_
        refine wk_at W tnd_1 rfl (fun _ => ?_)
        refine wq_cI (s_Nodes_isFull W tnd_1) ?_
        rintro y9 h7 ⟨rfl, p10⟩
        refine wq_if _ (fun c11 => ?_) (fun c11 => ?_)
        · obtain ⟨aA_12, aB_12, aC_12, aD_12, aE_12, aF_12, aG_12, aH_12, c_12, kt_12, e_12, taA_12, taB_12, taC_12, taD_12, taE_12, taF_12, taG_12, taH_12, b0_12, b1_12, b2_12, b3_12, b4_12⟩ := o5 W tnd_1
          have f13 := p10.2 c11 _ e_12 _ rfl
          refine wq_gR e_1 rfl ?_
          refine wk_at W tnd_1 rfl (fun _ => ?_)
          refine wq_cI (s_Nodes_begin W tnd_1 (hk _ _ e_1 rfl)) ?_
          rintro y17 h14 ⟨W15, g16, p18⟩
          have G19 := fk_c (ws := [4, 5, 100]) fk_0 g16 rfl
          have e20 := (g16 _ _ _ t0 rfl).trans e_1
          exact l_187_59 t0 _ _ _ _ _ _ (Nat.lt_succ_self _) (by have := nlt_i c2; have := nlt_i c3; have := le_i c6; have := congrArg Int32.toInt c11; have : (0 : Int32).toInt = 0 := rfl; have := bd_i len4; have := bd_i rc_1; have := bd_i v3; have := bd_i y9; have := bd_i rc_1; have := bd_i v3; have : (rc_1 - v3).toInt = rc_1.toInt - v3.toInt := sb_i (by omega) (by omega); omega) (by have := nlt_i c2; have := nlt_i c3; have := le_i c6; have := congrArg Int32.toInt c11; have : (0 : Int32).toInt = 0 := rfl; have := bd_i len4; have := bd_i rc_1; have := bd_i v3; have := bd_i y9; have := bd_i rc_1; have := bd_i v3; have : (rc_1 - v3).toInt = rc_1.toInt - v3.toInt := sb_i (by omega) (by omega); omega) (by have := nlt_i c2; have := nlt_i c3; have := le_i c6; have := congrArg Int32.toInt c11; have : (0 : Int32).toInt = 0 := rfl; have := bd_i len4; have := bd_i rc_1; have := bd_i v3; have := bd_i y9; have := bd_i rc_1; have := bd_i v3; have : (rc_1 - v3).toInt = rc_1.toInt - v3.toInt := sb_i (by omega) (by omega); omega) W15 G19
        · exact wq_some (rI_i ⟨W, fk_0, trivial⟩)
      · exact wq_some (rI_i ⟨W, fk_0, trivial⟩)
theorem s_Code_unitAt {d : Nat} {h : ah_H} {v0 : Nat} {v1 : Int32} (W : cI K κ b h) (t0 : κ v0 = some (0, 0)) : wq (vc lim (d + 1) m_Code_unitAt [.inr (.inr (some v0)), .inl v1] h) (rR fun r h' => h' = h ∧ ∀ t, r = some t → ∃ m, κ t = some (10, m)) := by
  refine wq_eq e_Code_unitAt ?_
  refine wq_if _ (fun c1 => ?_) (fun c1 => ?_)
  · exact wq_some (rR_i ⟨rfl, nofun⟩)
  · obtain ⟨sg_2, mk_2, lk_2, un_2, uc_2, nk_2, td_2, rn_2, e_2, tsg_2, tmk_2, tlk_2, tun_2, ttd_2, trn_2, b0_2, b1_2⟩ := o0 W t0
    refine wq_gI e_2 rfl ?_
    refine wq_if _ (fun c3 => ?_) (fun c3 => ?_)
    · refine wq_gR e_2 rfl ?_
      refine wk_l10 W tun_2 (by have := nlt_i c1; have := lt_i c3; have : (0 : Int32).toInt = 0 := rfl; omega) (by have := nlt_i c1; have := lt_i c3; have : (0 : Int32).toInt = 0 := rfl; omega) (fun v4 t5 => ?_)
      exact wq_some (rR_i ⟨rfl, t5⟩)
    · exact wq_some (rR_i ⟨rfl, nofun⟩)
theorem s_Code_variableThing {d : Nat} {h : ah_H} {v0 : Nat} {v1 : Int32} {v2 : Int32} (W : cI K κ b h) (t0 : κ v0 = some (0, 0)) : wq (vc lim (d + 2) m_Code_variableThing [.inr (.inr (some v0)), .inl v1, .inl v2] h) (rR fun r h' => h' = h ∧ ∀ t, r = some t → κ t = some (7, 0)) := by
  refine wq_eq e_Code_variableThing ?_
  refine wk_at W t0 rfl (fun _ => ?_)
  refine wq_cR (s_Code_unitAt W t0) ?_
  rintro r3 h1 ⟨rfl, p4⟩
  rcases r3 with _ | q5
  · refine wq_t rfl ?_
    exact wq_some (rR_i ⟨rfl, nofun⟩)
  · obtain ⟨n7, t6⟩ := p4 q5 rfl
    refine wq_f nofun ?_
    obtain ⟨nd_8, nn_8, vr_8, vn_8, s2_8, s3_8, s4_8, s5_8, s6_8, s7_8, s8_8, w9_8, nx_8, en_8, e_8, tnd_8, tvr_8, tnx_8, ten_8⟩ := o10 W t6
    refine wq_gR e_8 rfl ?_
    refine wk_at W tvr_8 rfl (fun _ => ?_)
    refine wq_cR (s_Things_pick W tvr_8) ?_
    rintro r11 h9 ⟨rfl, p12⟩
    exact wq_some (rR_i ⟨rfl, p12⟩)
theorem s_Code_processes {d : Nat} {h : ah_H} {v0 : Nat} (W : cI K κ b h) (t0 : κ v0 = some (0, 0)) : wq (vc lim (d + 1) m_Code_processes [.inr (.inr (some v0))] h) (rI fun x h' => h' = h ∧ True) := by
  refine wq_eq e_Code_processes ?_
  obtain ⟨sg_1, mk_1, lk_1, un_1, uc_1, nk_1, td_1, rn_1, e_1, tsg_1, tmk_1, tlk_1, tun_1, ttd_1, trn_1, b0_1, b1_1⟩ := o0 W t0
  refine wq_gI e_1 rfl ?_
  exact wq_some (rI_i ⟨rfl, trivial⟩)
theorem s_Code_acts {d : Nat} {h : ah_H} {v0 : Nat} (W : cI K κ b h) (t0 : κ v0 = some (0, 0)) : wq (vc lim (d + 1) m_Code_acts [.inr (.inr (some v0))] h) (rI fun x h' => h' = h ∧ True) := by
  refine wq_eq e_Code_acts ?_
  obtain ⟨sg_1, mk_1, lk_1, un_1, uc_1, nk_1, td_1, rn_1, e_1, tsg_1, tmk_1, tlk_1, tun_1, ttd_1, trn_1, b0_1, b1_1⟩ := o0 W t0
  refine wq_gR e_1 rfl ?_
  obtain ⟨aA_2, aB_2, aC_2, aD_2, aE_2, aF_2, aG_2, aH_2, aI_2, aJ_2, c_2, to_2, e_2, taA_2, taB_2, taC_2, taD_2, taE_2, taF_2, taG_2, taH_2, taI_2, taJ_2, b0_2, b1_2, b2_2, b3_2⟩ := o9 W ttd_1
  refine wq_gI e_2 rfl ?_
  exact wq_some (rI_i ⟨rfl, trivial⟩)
theorem s_Code_get {d : Nat} {h : ah_H} {v0 : Nat} {v1 : Int32} {v2 : Int32} (W : cI K κ b h) (t0 : κ v0 = some (0, 0)) (hr : rm lim h) : wq (vc lim (d + 2) m_Code_get [.inr (.inr (some v0)), .inl v1, .inl v2] h) (fun z => (rI fun x h' => h' = h ∧ True) z ∨ tX [202] h z) := by
  refine wq_eq e_Code_get ?_
  obtain ⟨sg_1, mk_1, lk_1, un_1, uc_1, nk_1, td_1, rn_1, e_1, tsg_1, tmk_1, tlk_1, tun_1, ttd_1, trn_1, b0_1, b1_1⟩ := o0 W t0
  refine wq_gR e_1 rfl ?_
  refine wk_at W tsg_1 rfl (fun _ => ?_)
  refine wq_cR (s_Things_pick W tsg_1) ?_
  rintro r4 h2 ⟨rfl, p5⟩
  rcases r4 with _ | q6
  · refine wq_t rfl ?_
    exact thX hr (Or.inr ⟨202, rfl, rfl⟩)
  · have t7 := p5 q6 rfl
    refine wq_f nofun ?_
    refine wk_at W t7 rfl (fun _ => ?_)
    refine wq_cI (s_Thing_hasElement W t7) ?_
    rintro y10 h8 ⟨rfl, p11⟩
    refine wq_if _ (fun c12 => ?_) (fun c12 => ?_)
    · exact thX hr (Or.inr ⟨202, rfl, rfl⟩)
    · obtain ⟨i_13, l_13, lo_13, hi_13, nw_13, ls_13, ev_13, ac_13, e_13, tnw_13, tls_13⟩ := o7 W t7
      refine wq_gR e_13 rfl ?_
      refine wk_at W tnw_13 rfl (fun _ => ?_)
      refine wq_cI (s_Datum_element W tnw_13) ?_
      rintro y16 h14 ⟨rfl, p17⟩
      exact wq_some (Or.inl (rI_i ⟨rfl, trivial⟩))
theorem s_Code_variableOf {d : Nat} {h : ah_H} {v0 : Nat} {v1 : Int32} {v2 : Int32} {v3 : Int32} (W : cI K κ b h) (t0 : κ v0 = some (0, 0)) (hr : rm lim h) : wq (vc lim (d + 3) m_Code_variableOf [.inr (.inr (some v0)), .inl v1, .inl v2, .inl v3] h) (fun z => (rI fun x h' => h' = h ∧ True) z ∨ tX [202] h z) := by
  refine wq_eq e_Code_variableOf ?_
  refine wk_at W t0 rfl (fun _ => ?_)
  refine wq_cR (s_Code_variableThing W t0) ?_
  rintro r3 h1 ⟨rfl, p4⟩
  rcases r3 with _ | q5
  · refine wq_t rfl ?_
    exact thX hr (Or.inr ⟨202, rfl, rfl⟩)
  · have t6 := p4 q5 rfl
    refine wq_f nofun ?_
    refine wk_at W t6 rfl (fun _ => ?_)
    refine wq_cI (s_Thing_hasElement W t6) ?_
    rintro y9 h7 ⟨rfl, p10⟩
    refine wq_if _ (fun c11 => ?_) (fun c11 => ?_)
    · exact thX hr (Or.inr ⟨202, rfl, rfl⟩)
    · obtain ⟨i_12, l_12, lo_12, hi_12, nw_12, ls_12, ev_12, ac_12, e_12, tnw_12, tls_12⟩ := o7 W t6
      refine wq_gR e_12 rfl ?_
      refine wk_at W tnw_12 rfl (fun _ => ?_)
      refine wq_cI (s_Datum_element W tnw_12) ?_
      rintro y15 h13 ⟨rfl, p16⟩
      exact wq_some (Or.inl (rI_i ⟨rfl, trivial⟩))
theorem s_Code_about {d : Nat} {h : ah_H} {v0 : Nat} {v1 : Int32} {v2 : Int32} (W : cI K κ b h) (t0 : κ v0 = some (0, 0)) (hr : rm lim h) : wq (vc lim (d + 3) m_Code_about [.inr (.inr (some v0)), .inl v1, .inl v2] h) (fun z => (rI fun x h' => h' = h ∧ True) z ∨ tX [200, 202] h z) := by
  refine wq_eq e_Code_about ?_
  refine wk_at W t0 rfl (fun _ => ?_)
  refine wq_cR (s_Code_unitAt W t0) ?_
  rintro r3 h1 ⟨rfl, p4⟩
  rcases r3 with _ | q5
  · refine wq_t rfl ?_
    exact thX hr (Or.inr ⟨202, rfl, rfl⟩)
  · obtain ⟨n7, t6⟩ := p4 q5 rfl
    refine wq_f nofun ?_
    refine wq_if _ (fun c8 => ?_) (fun c8 => ?_)
    · obtain ⟨nd_9, nn_9, vr_9, vn_9, s2_9, s3_9, s4_9, s5_9, s6_9, s7_9, s8_9, w9_9, nx_9, en_9, e_9, tnd_9, tvr_9, tnx_9, ten_9⟩ := o10 W t6
      refine wq_gI e_9 rfl ?_
      exact wq_some (Or.inl (rI_i ⟨rfl, trivial⟩))
    refine wq_if _ (fun c10 => ?_) (fun c10 => ?_)
    · obtain ⟨nd_11, nn_11, vr_11, vn_11, s2_11, s3_11, s4_11, s5_11, s6_11, s7_11, s8_11, w9_11, nx_11, en_11, e_11, tnd_11, tvr_11, tnx_11, ten_11⟩ := o10 W t6
      refine wq_gI e_11 rfl ?_
      exact wq_some (Or.inl (rI_i ⟨rfl, trivial⟩))
    refine wq_if _ (fun c12 => ?_) (fun c12 => ?_)
    · obtain ⟨nd_13, nn_13, vr_13, vn_13, s2_13, s3_13, s4_13, s5_13, s6_13, s7_13, s8_13, w9_13, nx_13, en_13, e_13, tnd_13, tvr_13, tnx_13, ten_13⟩ := o10 W t6
      refine wq_gI e_13 rfl ?_
      exact wq_some (Or.inl (rI_i ⟨rfl, trivial⟩))
    refine wq_if _ (fun c14 => ?_) (fun c14 => ?_)
    · refine wk_at W t6 rfl (fun _ => ?_)
      refine wq_cI (s_Unit_signalsWaitedFor W t6) ?_
      rintro y17 h15 ⟨rfl, p18⟩
      exact wq_some (Or.inl (rI_i ⟨rfl, trivial⟩))
    refine wq_if _ (fun c19 => ?_) (fun c19 => ?_)
    · refine wk_at W t6 rfl (fun _ => ?_)
      refine wq_cI (s_Unit_waitsForExpression W t6) ?_
      rintro y22 h20 ⟨rfl, p23⟩
      refine wq_if _ (fun c24 => ?_) (fun c24 => ?_)
      · exact wq_some (Or.inl (rI_i ⟨rfl, trivial⟩))
      · exact wq_some (Or.inl (rI_i ⟨rfl, trivial⟩))
    refine wq_if _ (fun c25 => ?_) (fun c25 => ?_)
    · obtain ⟨nd_26, nn_26, vr_26, vn_26, s2_26, s3_26, s4_26, s5_26, s6_26, s7_26, s8_26, w9_26, nx_26, en_26, e_26, tnd_26, tvr_26, tnx_26, ten_26⟩ := o10 W t6
      refine wq_gI e_26 rfl ?_
      exact wq_some (Or.inl (rI_i ⟨rfl, trivial⟩))
    exact thX hr (Or.inr ⟨200, rfl, rfl⟩)
theorem s_Code_waits {d : Nat} {h : ah_H} {v0 : Nat} {v1 : Int32} {v2 : Int32} (W : cI K κ b h) (t0 : κ v0 = some (0, 0)) (hr : rm lim h) : wq (vc lim (d + 3) m_Code_waits [.inr (.inr (some v0)), .inl v1, .inl v2] h) (fun z => (rI fun x h' => h' = h ∧ True) z ∨ tX [202] h z) := by
  refine wq_eq e_Code_waits ?_
  refine wk_at W t0 rfl (fun _ => ?_)
  refine wq_cR (s_Code_unitAt W t0) ?_
  rintro r3 h1 ⟨rfl, p4⟩
  rcases r3 with _ | q5
  · refine wq_t rfl ?_
    exact thX hr (Or.inr ⟨202, rfl, rfl⟩)
  · obtain ⟨n7, t6⟩ := p4 q5 rfl
    refine wq_f nofun ?_
    refine wq_if _ (fun c8 => ?_) (fun c8 => ?_)
    · exact thX hr (Or.inr ⟨202, rfl, rfl⟩)
    · refine wk_at W t6 rfl (fun _ => ?_)
      refine wq_cI (s_Unit_signalsWaitedFor W t6) ?_
      rintro y11 h9 ⟨rfl, p12⟩
      refine wq_if _ (fun c13 => ?_) (fun c13 => ?_)
      · refine wk_at W t6 rfl (fun _ => ?_)
        refine wq_cI (s_Unit_signalWaitedFor W t6) ?_
        rintro y16 h14 ⟨rfl, p17⟩
        exact wq_some (Or.inl (rI_i ⟨rfl, trivial⟩))
      · exact thX hr (Or.inr ⟨202, rfl, rfl⟩)
theorem s_Code_act {d : Nat} {h : ah_H} {v0 : Nat} {v1 : Int32} {v2 : Int32} (W : cI K κ b h) (t0 : κ v0 = some (0, 0)) (hr : rm lim h) : wq (vc lim (d + 2) m_Code_act [.inr (.inr (some v0)), .inl v1, .inl v2] h) (fun z => (rI fun x h' => h' = h ∧ True) z ∨ tX [200, 202] h z) := by
  refine wq_eq e_Code_act ?_
  obtain ⟨sg_1, mk_1, lk_1, un_1, uc_1, nk_1, td_1, rn_1, e_1, tsg_1, tmk_1, tlk_1, tun_1, ttd_1, trn_1, b0_1, b1_1⟩ := o0 W t0
  refine wq_gR e_1 rfl ?_
  refine wk_at W ttd_1 rfl (fun _ => ?_)
  refine wq_cI (s_Told_has W ttd_1) ?_
  rintro y4 h2 ⟨rfl, p5⟩
  refine wq_if _ (fun c6 => ?_) (fun c6 => ?_)
  · exact thX hr (Or.inr ⟨202, rfl, rfl⟩)
  · have f7 := p5.2 (p5.1.resolve_left c6)
    refine wq_if _ (fun c8 => ?_) (fun c8 => ?_)
    · refine wq_gR e_1 rfl ?_
      obtain ⟨aA_9, aB_9, aC_9, aD_9, aE_9, aF_9, aG_9, aH_9, aI_9, aJ_9, c_9, to_9, e_9, taA_9, taB_9, taC_9, taD_9, taE_9, taF_9, taG_9, taH_9, taI_9, taJ_9, b0_9, b1_9, b2_9, b3_9⟩ := o9 W ttd_1
      refine wq_gR e_9 rfl ?_
      refine wk_lT W taA_9 (by have := ne_i c6; have := congrArg Int32.toInt c8; have : (0 : Int32).toInt = 0 := rfl; omega) (by have := ne_i c6; have := congrArg Int32.toInt c8; have : (0 : Int32).toInt = 0 := rfl; omega) (fun v10 => ?_)
      exact wq_some (Or.inl (rI_i ⟨rfl, trivial⟩))
    refine wq_if _ (fun c11 => ?_) (fun c11 => ?_)
    · refine wq_gR e_1 rfl ?_
      obtain ⟨aA_12, aB_12, aC_12, aD_12, aE_12, aF_12, aG_12, aH_12, aI_12, aJ_12, c_12, to_12, e_12, taA_12, taB_12, taC_12, taD_12, taE_12, taF_12, taG_12, taH_12, taI_12, taJ_12, b0_12, b1_12, b2_12, b3_12⟩ := o9 W ttd_1
      refine wq_gR e_12 rfl ?_
      refine wk_lT W taB_12 (by have := ne_i c6; have := ne_i c8; have := congrArg Int32.toInt c11; have : (0 : Int32).toInt = 0 := rfl; have : (1 : Int32).toInt = 1 := rfl; omega) (by have := ne_i c6; have := ne_i c8; have := congrArg Int32.toInt c11; have : (0 : Int32).toInt = 0 := rfl; have : (1 : Int32).toInt = 1 := rfl; omega) (fun v13 => ?_)
      exact wq_some (Or.inl (rI_i ⟨rfl, trivial⟩))
    refine wq_if _ (fun c14 => ?_) (fun c14 => ?_)
    · refine wq_gR e_1 rfl ?_
      obtain ⟨aA_15, aB_15, aC_15, aD_15, aE_15, aF_15, aG_15, aH_15, aI_15, aJ_15, c_15, to_15, e_15, taA_15, taB_15, taC_15, taD_15, taE_15, taF_15, taG_15, taH_15, taI_15, taJ_15, b0_15, b1_15, b2_15, b3_15⟩ := o9 W ttd_1
      refine wq_gR e_15 rfl ?_
      refine wk_lT W taC_15 (by have := ne_i c6; have := ne_i c8; have := ne_i c11; have := congrArg Int32.toInt c14; have : (0 : Int32).toInt = 0 := rfl; have : (1 : Int32).toInt = 1 := rfl; have : (2 : Int32).toInt = 2 := rfl; omega) (by have := ne_i c6; have := ne_i c8; have := ne_i c11; have := congrArg Int32.toInt c14; have : (0 : Int32).toInt = 0 := rfl; have : (1 : Int32).toInt = 1 := rfl; have : (2 : Int32).toInt = 2 := rfl; omega) (fun v16 => ?_)
      exact wq_some (Or.inl (rI_i ⟨rfl, trivial⟩))
    refine wq_if _ (fun c17 => ?_) (fun c17 => ?_)
    · refine wq_gR e_1 rfl ?_
      obtain ⟨aA_18, aB_18, aC_18, aD_18, aE_18, aF_18, aG_18, aH_18, aI_18, aJ_18, c_18, to_18, e_18, taA_18, taB_18, taC_18, taD_18, taE_18, taF_18, taG_18, taH_18, taI_18, taJ_18, b0_18, b1_18, b2_18, b3_18⟩ := o9 W ttd_1
      refine wq_gR e_18 rfl ?_
      refine wk_lT W taD_18 (by have := ne_i c6; have := ne_i c8; have := ne_i c11; have := ne_i c14; have := congrArg Int32.toInt c17; have : (0 : Int32).toInt = 0 := rfl; have : (1 : Int32).toInt = 1 := rfl; have : (2 : Int32).toInt = 2 := rfl; have : (3 : Int32).toInt = 3 := rfl; omega) (by have := ne_i c6; have := ne_i c8; have := ne_i c11; have := ne_i c14; have := congrArg Int32.toInt c17; have : (0 : Int32).toInt = 0 := rfl; have : (1 : Int32).toInt = 1 := rfl; have : (2 : Int32).toInt = 2 := rfl; have : (3 : Int32).toInt = 3 := rfl; omega) (fun v19 => ?_)
      exact wq_some (Or.inl (rI_i ⟨rfl, trivial⟩))
    refine wq_if _ (fun c20 => ?_) (fun c20 => ?_)
    · refine wq_gR e_1 rfl ?_
      obtain ⟨aA_21, aB_21, aC_21, aD_21, aE_21, aF_21, aG_21, aH_21, aI_21, aJ_21, c_21, to_21, e_21, taA_21, taB_21, taC_21, taD_21, taE_21, taF_21, taG_21, taH_21, taI_21, taJ_21, b0_21, b1_21, b2_21, b3_21⟩ := o9 W ttd_1
      refine wq_gR e_21 rfl ?_
      refine wk_lT W taE_21 (by have := ne_i c6; have := ne_i c8; have := ne_i c11; have := ne_i c14; have := ne_i c17; have := congrArg Int32.toInt c20; have : (0 : Int32).toInt = 0 := rfl; have : (1 : Int32).toInt = 1 := rfl; have : (2 : Int32).toInt = 2 := rfl; have : (3 : Int32).toInt = 3 := rfl; have : (4 : Int32).toInt = 4 := rfl; omega) (by have := ne_i c6; have := ne_i c8; have := ne_i c11; have := ne_i c14; have := ne_i c17; have := congrArg Int32.toInt c20; have : (0 : Int32).toInt = 0 := rfl; have : (1 : Int32).toInt = 1 := rfl; have : (2 : Int32).toInt = 2 := rfl; have : (3 : Int32).toInt = 3 := rfl; have : (4 : Int32).toInt = 4 := rfl; omega) (fun v22 => ?_)
      exact wq_some (Or.inl (rI_i ⟨rfl, trivial⟩))
    refine wq_if _ (fun c23 => ?_) (fun c23 => ?_)
    · refine wq_gR e_1 rfl ?_
      obtain ⟨aA_24, aB_24, aC_24, aD_24, aE_24, aF_24, aG_24, aH_24, aI_24, aJ_24, c_24, to_24, e_24, taA_24, taB_24, taC_24, taD_24, taE_24, taF_24, taG_24, taH_24, taI_24, taJ_24, b0_24, b1_24, b2_24, b3_24⟩ := o9 W ttd_1
      refine wq_gR e_24 rfl ?_
      refine wk_lT W taF_24 (by have := ne_i c6; have := ne_i c8; have := ne_i c11; have := ne_i c14; have := ne_i c17; have := ne_i c20; have := congrArg Int32.toInt c23; have : (0 : Int32).toInt = 0 := rfl; have : (1 : Int32).toInt = 1 := rfl; have : (2 : Int32).toInt = 2 := rfl; have : (3 : Int32).toInt = 3 := rfl; have : (4 : Int32).toInt = 4 := rfl; have : (5 : Int32).toInt = 5 := rfl; omega) (by have := ne_i c6; have := ne_i c8; have := ne_i c11; have := ne_i c14; have := ne_i c17; have := ne_i c20; have := congrArg Int32.toInt c23; have : (0 : Int32).toInt = 0 := rfl; have : (1 : Int32).toInt = 1 := rfl; have : (2 : Int32).toInt = 2 := rfl; have : (3 : Int32).toInt = 3 := rfl; have : (4 : Int32).toInt = 4 := rfl; have : (5 : Int32).toInt = 5 := rfl; omega) (fun v25 => ?_)
      exact wq_some (Or.inl (rI_i ⟨rfl, trivial⟩))
    exact thX hr (Or.inr ⟨200, rfl, rfl⟩)
theorem s_Code_value {d : Nat} {h : ah_H} {v0 : Nat} {v1 : Int32} {v2 : Int32} {v3 : Int32} (W : cI K κ b h) (t0 : κ v0 = some (0, 0)) (hr : rm lim h) : wq (vc lim (d + 4) m_Code_value [.inr (.inr (some v0)), .inl v1, .inl v2, .inl v3] h) (fun z => (rI fun x h' => h' = h ∧ True) z ∨ tX [202] h z) := by
  refine wq_eq e_Code_value ?_
  obtain ⟨sg_1, mk_1, lk_1, un_1, uc_1, nk_1, td_1, rn_1, e_1, tsg_1, tmk_1, tlk_1, tun_1, ttd_1, trn_1, b0_1, b1_1⟩ := o0 W t0
  refine wq_gR e_1 rfl ?_
  refine wk_at W ttd_1 rfl (fun _ => ?_)
  refine wq_cR (s_Told_datumOf W ttd_1) ?_
  rintro r4 h2 ⟨rfl, p5⟩
  rcases r4 with _ | q6
  · refine wq_t rfl ?_
    exact thX hr (Or.inr ⟨202, rfl, rfl⟩)
  · have t7 := p5 q6 rfl
    refine wq_f nofun ?_
    refine wq_if _ (fun c8 => ?_) (fun c8 => ?_)
    · exact thX hr (Or.inr ⟨202, rfl, rfl⟩)
    · obtain ⟨i_9, l_9, n_9, bA_9, bB_9, bC_9, bD_9, e_9⟩ := o1 W t7
      refine wq_gI e_9 rfl ?_
      refine wq_if _ (fun c10 => ?_) (fun c10 => ?_)
      · refine wk_at W t7 rfl (fun _ => ?_)
        refine wq_cI (s_Datum_element W t7) ?_
        rintro y13 h11 ⟨rfl, p14⟩
        exact wq_some (Or.inl (rI_i ⟨rfl, trivial⟩))
      · exact thX hr (Or.inr ⟨202, rfl, rfl⟩)
theorem s_Code_until {d : Nat} {h : ah_H} {v0 : Nat} {v1 : Int32} (W : cI K κ b h) (t0 : κ v0 = some (0, 0)) (hr : rm lim h) : wq (vc lim (d + 2) m_Code_until [.inr (.inr (some v0)), .inl v1] h) (fun z => (rJ fun x h' => h' = h ∧ True) z ∨ tX [202] h z) := by
  refine wq_eq e_Code_until ?_
  refine wk_at W t0 rfl (fun _ => ?_)
  refine wq_cR (s_Code_unitAt W t0) ?_
  rintro r3 h1 ⟨rfl, p4⟩
  rcases r3 with _ | q5
  · refine wq_t rfl ?_
    exact thX hr (Or.inr ⟨202, rfl, rfl⟩)
  · obtain ⟨n7, t6⟩ := p4 q5 rfl
    refine wq_f nofun ?_
    obtain ⟨nd_8, nn_8, vr_8, vn_8, s2_8, s3_8, s4_8, s5_8, s6_8, s7_8, s8_8, w9_8, nx_8, en_8, e_8, tnd_8, tvr_8, tnx_8, ten_8⟩ := o10 W t6
    refine wq_gJ e_8 rfl ?_
    exact wq_some (Or.inl (rJ_i ⟨rfl, trivial⟩))
theorem s_Code_delay {d : Nat} {h : ah_H} {v0 : Nat} {v1 : Int32} {v2 : Int32} (W : cI K κ b h) (t0 : κ v0 = some (0, 0)) (hr : rm lim h) : wq (vc lim (d + 3) m_Code_delay [.inr (.inr (some v0)), .inl v1, .inl v2] h) (fun z => (rJ fun x h' => h' = h ∧ True) z ∨ tX [202] h z) := by
  refine wq_eq e_Code_delay ?_
  refine wq_if _ (fun c1 => ?_) (fun c1 => ?_)
  · obtain ⟨sg_2, mk_2, lk_2, un_2, uc_2, nk_2, td_2, rn_2, e_2, tsg_2, tmk_2, tlk_2, tun_2, ttd_2, trn_2, b0_2, b1_2⟩ := o0 W t0
    refine wq_gR e_2 rfl ?_
    refine wk_at W ttd_2 rfl (fun _ => ?_)
    refine wq_cI (s_Told_isAssign W ttd_2) ?_
    rintro y5 h3 ⟨rfl, p6⟩
    refine wq_if _ (fun c7 => ?_) (fun c7 => ?_)
    · refine wq_eq q_19_26 ?_
      refine wq_gR e_2 rfl ?_
      refine wk_at W ttd_2 rfl (fun _ => ?_)
      refine wq_cI (s_Told_placeOf W ttd_2) ?_
      rintro y10 h8 ⟨rfl, p11⟩
      refine wq_if _ (fun c12 => ?_) (fun c12 => ?_)
      · exact thX hr (Or.inr ⟨202, rfl, rfl⟩)
      · refine wq_gR e_2 rfl ?_
        obtain ⟨aA_13, aB_13, aC_13, aD_13, aE_13, aF_13, aG_13, aH_13, aI_13, aJ_13, c_13, to_13, e_13, taA_13, taB_13, taC_13, taD_13, taE_13, taF_13, taG_13, taH_13, taI_13, taJ_13, b0_13, b1_13, b2_13, b3_13⟩ := o9 W ttd_2
        refine wq_gR e_13 rfl ?_
        refine wk_lJ W taI_13 (by have := congrArg Int32.toInt c1; have := congrArg Int32.toInt c7; have := ne_i c12; have : (-1 : Int32).toInt = -1 := rfl; have : (0 : Int32).toInt = 0 := rfl; have := p11.resolve_left c12; omega) (by have := congrArg Int32.toInt c1; have := congrArg Int32.toInt c7; have := ne_i c12; have : (-1 : Int32).toInt = -1 := rfl; have : (0 : Int32).toInt = 0 := rfl; have := p11.resolve_left c12; omega) (fun v14 => ?_)
        exact wq_some (Or.inl (rJ_i ⟨rfl, trivial⟩))
    · have f15 := p6.2 (p6.1.resolve_left c7)
      refine wq_gR e_2 rfl ?_
      obtain ⟨aA_16, aB_16, aC_16, aD_16, aE_16, aF_16, aG_16, aH_16, aI_16, aJ_16, c_16, to_16, e_16, taA_16, taB_16, taC_16, taD_16, taE_16, taF_16, taG_16, taH_16, taI_16, taJ_16, b0_16, b1_16, b2_16, b3_16⟩ := o9 W ttd_2
      refine wq_gR e_16 rfl ?_
      refine wk_lJ W taH_16 (by have := congrArg Int32.toInt c1; have := ne_i c7; have : (-1 : Int32).toInt = -1 := rfl; have : (0 : Int32).toInt = 0 := rfl; omega) (by have := congrArg Int32.toInt c1; have := ne_i c7; have : (-1 : Int32).toInt = -1 := rfl; have : (0 : Int32).toInt = 0 := rfl; omega) (fun v17 => ?_)
      exact wq_some (Or.inl (rJ_i ⟨rfl, trivial⟩))
  · refine wq_eq q_19_26 ?_
    obtain ⟨sg_18, mk_18, lk_18, un_18, uc_18, nk_18, td_18, rn_18, e_18, tsg_18, tmk_18, tlk_18, tun_18, ttd_18, trn_18, b0_18, b1_18⟩ := o0 W t0
    refine wq_gR e_18 rfl ?_
    refine wk_at W ttd_18 rfl (fun _ => ?_)
    refine wq_cI (s_Told_placeOf W ttd_18) ?_
    rintro y21 h19 ⟨rfl, p22⟩
    refine wq_if _ (fun c23 => ?_) (fun c23 => ?_)
    · exact thX hr (Or.inr ⟨202, rfl, rfl⟩)
    · refine wq_gR e_18 rfl ?_
      obtain ⟨aA_24, aB_24, aC_24, aD_24, aE_24, aF_24, aG_24, aH_24, aI_24, aJ_24, c_24, to_24, e_24, taA_24, taB_24, taC_24, taD_24, taE_24, taF_24, taG_24, taH_24, taI_24, taJ_24, b0_24, b1_24, b2_24, b3_24⟩ := o9 W ttd_18
      refine wq_gR e_24 rfl ?_
      refine wk_lJ W taI_24 (by have := ne_i c1; have := ne_i c23; have : (-1 : Int32).toInt = -1 := rfl; have := p22.resolve_left c23; omega) (by have := ne_i c1; have := ne_i c23; have : (-1 : Int32).toInt = -1 := rfl; have := p22.resolve_left c23; omega) (fun v25 => ?_)
      exact wq_some (Or.inl (rJ_i ⟨rfl, trivial⟩))
theorem s_Code_put {d : Nat} {h : ah_H} {v0 : Nat} {v1 : Int32} {v2 : Int32} {v3 : Int32} {v4 : Int32} (W : cI K κ b h) (t0 : κ v0 = some (0, 0)) (z2 : v2 = 0 ∨ v2 = 1) (hr : rm lim h) : wq (vc lim (d + 3) m_Code_put [.inr (.inr (some v0)), .inl v1, .inl v2, .inl v3, .inl v4] h) (fun z => (rV fun h' => cI K κ b h' ∧ fk [1] κ h h') z ∨ tX [200, 202] h z) := by
  refine wq_eq e_Code_put ?_
  obtain ⟨sg_1, mk_1, lk_1, un_1, uc_1, nk_1, td_1, rn_1, e_1, tsg_1, tmk_1, tlk_1, tun_1, ttd_1, trn_1, b0_1, b1_1⟩ := o0 W t0
  refine wq_gR e_1 rfl ?_
  refine wk_at W tsg_1 rfl (fun _ => ?_)
  refine wq_cR (s_Things_pick W tsg_1) ?_
  rintro r4 h2 ⟨rfl, p5⟩
  rcases r4 with _ | q6
  · refine wq_t rfl ?_
    exact thX hr (Or.inr ⟨202, rfl, rfl⟩)
  · have t7 := p5 q6 rfl
    refine wq_f nofun ?_
    refine wk_at W t7 rfl (fun _ => ?_)
    refine wq_cI (s_Thing_hasElement W t7) ?_
    rintro y10 h8 ⟨rfl, p11⟩
    refine wq_if _ (fun c12 => ?_) (fun c12 => ?_)
    · exact thX hr (Or.inr ⟨202, rfl, rfl⟩)
    · refine wk_at W t7 rfl (fun _ => ?_)
      refine wq_cI (s_Thing_allows W t7) ?_
      rintro y15 h13 ⟨rfl, p16⟩
      refine wq_if _ (fun c17 => ?_) (fun c17 => ?_)
      · exact thX hr (Or.inr ⟨200, rfl, rfl⟩)
      · refine wq_if _ (fun c18 => ?_) (fun c18 => ?_)
        · obtain ⟨i_19, l_19, lo_19, hi_19, nw_19, ls_19, ev_19, ac_19, e_19, tnw_19, tls_19⟩ := o7 W t7
          refine wq_gR e_19 rfl ?_
          refine wk_at W tnw_19 rfl (fun _ => ?_)
          refine wq_cV (s_Datum_change W tnw_19) ?_
          rintro h20 ⟨W21, g22⟩
          have G23 := fk_c (ws := [1]) fk_0 g22 rfl
          have e24 := (g22 _ _ _ t0 rfl).trans e_1
          have e25 := (g22 _ _ _ t7 rfl).trans e_19
          exact wq_some (Or.inl (rV_i ⟨W21, G23⟩))
        · obtain ⟨i_26, l_26, lo_26, hi_26, nw_26, ls_26, ev_26, ac_26, e_26, tnw_26, tls_26⟩ := o7 W t7
          refine wq_gR e_26 rfl ?_
          refine wk_at W tls_26 rfl (fun _ => ?_)
          refine wq_cV (s_Datum_change W tls_26) ?_
          rintro h27 ⟨W28, g29⟩
          have G30 := fk_c (ws := [1]) fk_0 g29 rfl
          have e31 := (g29 _ _ _ t0 rfl).trans e_1
          have e32 := (g29 _ _ _ t7 rfl).trans e_26
          exact wq_some (Or.inl (rV_i ⟨W28, G30⟩))
theorem s_Code_mark {d : Nat} {h : ah_H} {v0 : Nat} {v1 : Int32} {v2 : Int32} {v3 : Int32} (W : cI K κ b h) (t0 : κ v0 = some (0, 0)) (z2 : v2 = 0 ∨ v2 = 1) (z3 : v3 = 0 ∨ v3 = 1) (hr : rm lim h) : wq (vc lim (d + 2) m_Code_mark [.inr (.inr (some v0)), .inl v1, .inl v2, .inl v3] h) (fun z => (rV fun h' => cI K κ b h' ∧ fk [7] κ h h') z ∨ tX [202] h z) := by
  refine wq_eq e_Code_mark ?_
  obtain ⟨sg_1, mk_1, lk_1, un_1, uc_1, nk_1, td_1, rn_1, e_1, tsg_1, tmk_1, tlk_1, tun_1, ttd_1, trn_1, b0_1, b1_1⟩ := o0 W t0
  refine wq_gR e_1 rfl ?_
  refine wk_at W tsg_1 rfl (fun _ => ?_)
  refine wq_cR (s_Things_pick W tsg_1) ?_
  rintro r4 h2 ⟨rfl, p5⟩
  rcases r4 with _ | q6
  · refine wq_t rfl ?_
    exact thX hr (Or.inr ⟨202, rfl, rfl⟩)
  · have t7 := p5 q6 rfl
    refine wq_f nofun ?_
    obtain ⟨i_8, l_8, lo_8, hi_8, nw_8, ls_8, ev_8, ac_8, e_8, tnw_8, tls_8⟩ := o7 W t7
    refine wq_t z2 ?_
    refine wk_wr W t7 rfl e_8 (Nat.le_of_ble_eq_true rfl) (i7 tnw_8 tls_8) ?_
    intro h9 W10 e11 o12
    have G13 := fk_w (ws := [7]) fk_0 t7 o12 rfl
    have e14 := (o12 _ (kne t0 t7 rfl)).trans e_1
    refine wq_t z3 ?_
    refine wk_wr W10 t7 rfl e11 (Nat.le_of_ble_eq_true rfl) (i7 tnw_8 tls_8) ?_
    intro h15 W16 e17 o18
    have G19 := fk_w (ws := [7]) G13 t7 o18 rfl
    have e20 := (o18 _ (kne t0 t7 rfl)).trans e14
    exact wq_some (Or.inl (rV_i ⟨W16, G19⟩))
theorem s_Code_set {d : Nat} {h : ah_H} {v0 : Nat} {v1 : Int32} {v2 : Int32} {v3 : Int32} {v4 : Int32} (W : cI K κ b h) (t0 : κ v0 = some (0, 0)) (hr : rm lim h) : wq (vc lim (d + 3) m_Code_set [.inr (.inr (some v0)), .inl v1, .inl v2, .inl v3, .inl v4] h) (fun z => (rV fun h' => cI K κ b h' ∧ fk [1] κ h h') z ∨ tX [200, 202] h z) := by
  refine wq_eq e_Code_set ?_
  refine wk_at W t0 rfl (fun _ => ?_)
  refine wq_cR (s_Code_variableThing W t0) ?_
  rintro r3 h1 ⟨rfl, p4⟩
  rcases r3 with _ | q5
  · refine wq_t rfl ?_
    exact thX hr (Or.inr ⟨202, rfl, rfl⟩)
  · have t6 := p4 q5 rfl
    refine wq_f nofun ?_
    refine wk_at W t6 rfl (fun _ => ?_)
    refine wq_cI (s_Thing_hasElement W t6) ?_
    rintro y9 h7 ⟨rfl, p10⟩
    refine wq_if _ (fun c11 => ?_) (fun c11 => ?_)
    · exact thX hr (Or.inr ⟨202, rfl, rfl⟩)
    · refine wk_at W t6 rfl (fun _ => ?_)
      refine wq_cI (s_Thing_allows W t6) ?_
      rintro y14 h12 ⟨rfl, p15⟩
      refine wq_if _ (fun c16 => ?_) (fun c16 => ?_)
      · exact thX hr (Or.inr ⟨200, rfl, rfl⟩)
      · obtain ⟨i_17, l_17, lo_17, hi_17, nw_17, ls_17, ev_17, ac_17, e_17, tnw_17, tls_17⟩ := o7 W t6
        refine wq_gR e_17 rfl ?_
        refine wk_at W tnw_17 rfl (fun _ => ?_)
        refine wq_cV (s_Datum_change W tnw_17) ?_
        rintro h18 ⟨W19, g20⟩
        have G21 := fk_c (ws := [1]) fk_0 g20 rfl
        have e22 := (g20 _ _ _ t6 rfl).trans e_17
        exact wq_some (Or.inl (rV_i ⟨W19, G21⟩))
theorem s_Code_holds {d : Nat} {h : ah_H} {v0 : Nat} {v1 : Int32} (W : cI K κ b h) (t0 : κ v0 = some (0, 0)) (hr : rm lim h) : wq (vc lim (d + 7) m_Code_holds [.inr (.inr (some v0)), .inl v1] h) (fun z => (rI fun x h' => cI K κ b h' ∧ fk [1, 2, 10] κ h h' ∧ True) z ∨ tX [201, 202] h z) := by
  refine wq_eq e_Code_holds ?_
  refine wk_at W t0 rfl (fun _ => ?_)
  refine wq_cR (s_Code_unitAt W t0) ?_
  rintro r3 h1 ⟨rfl, p4⟩
  rcases r3 with _ | q5
  · refine wq_t rfl ?_
    exact thX hr (Or.inr ⟨202, rfl, rfl⟩)
  · obtain ⟨n7, t6⟩ := p4 q5 rfl
    refine wq_f nofun ?_
    obtain ⟨nd_8, nn_8, vr_8, vn_8, s2_8, s3_8, s4_8, s5_8, s6_8, s7_8, s8_8, w9_8, nx_8, en_8, e_8, tnd_8, tvr_8, tnx_8, ten_8⟩ := o10 W t6
    refine wq_gI e_8 rfl ?_
    refine wq_if _ (fun c9 => ?_) (fun c9 => ?_)
    · obtain ⟨sg_10, mk_10, lk_10, un_10, uc_10, nk_10, td_10, rn_10, e_10, tsg_10, tmk_10, tlk_10, tun_10, ttd_10, trn_10, b0_10, b1_10⟩ := o0 W t0
      refine wq_gR e_10 rfl ?_
      refine wk_at W trn_10 rfl (fun _ => ?_)
      refine wq_cI (s_Runner_waitIsOver W trn_10 t6) ?_
      rintro y14 h11 ⟨W12, g13, p15⟩
      have G16 := fk_c (ws := [1, 2, 10]) fk_0 g13 rfl
      have e17 := (g13 _ _ _ t0 rfl).trans e_10
      exact wq_some (Or.inl (rI_i ⟨W12, G16, trivial⟩))
    · exact thX hr (Or.inr ⟨201, rfl, rfl⟩)
theorem l_11_82 {d : Nat} {h : ah_H} {v0 : Nat} {n3 : Nat} {v3 : Nat} (t0 : κ v0 = some (0, 0)) (t3 : κ v3 = some (10, n3)) : ∀ (m : Nat) (h1 : ah_H) (v2 : Int32) (v4 : Int32), (2147483647 - v4.toInt).toNat < m → cI K κ b h1 → fk [1, 2, 6, 9, 10, 101, 105] κ h h1 → wq (ah_val lim ah_P (d + 7) 11 82 [some (.inr (.inr (some v0))), none, some (.inl v2), some (.inr (.inr (some v3))), some (.inl v4)] [] h1) (fun z => (rI fun x h' => cI K κ b h' ∧ fk [1, 2, 6, 9, 10, 101, 105] κ h h' ∧ True) z ∨ tX [200, 201, 202] h z) := by
  intro m
  induction m with
  | zero => intros; omega
  | succ m ih =>
      intro h1 v2 v4 hm W G
      refine wq_eq q_11_82 ?_
      refine wq_if _ (fun c1 => ?_) (fun c1 => ?_)
      · obtain ⟨sg_2, mk_2, lk_2, un_2, uc_2, nk_2, td_2, rn_2, e_2, tsg_2, tmk_2, tlk_2, tun_2, ttd_2, trn_2, b0_2, b1_2⟩ := o0 W t0
        refine wq_gR e_2 rfl ?_
        refine wk_at W trn_2 rfl (fun _ => ?_)
        refine wq_cI (s_Runner_step W trn_2 t3) ?_
        rintro y6 h3 ⟨W4, g5, p7⟩
        have G8 := fk_c (ws := [1, 2, 6, 9, 10, 101, 105]) G g5 rfl
        have e9 := (g5 _ _ _ t0 rfl).trans e_2
        refine wq_if _ (fun c10 => ?_) (fun c10 => ?_)
        · obtain ⟨nd_11, nn_11, vr_11, vn_11, s2_11, s3_11, s4_11, s5_11, s6_11, s7_11, s8_11, w9_11, nx_11, en_11, e_11, tnd_11, tvr_11, tnx_11, ten_11⟩ := o10 W4 t3
          refine wq_gI e_11 rfl ?_
          exact wq_some (Or.inl (rI_i ⟨W4, G8, trivial⟩))
        · exact ih _ _ _ (by have := lt_i c1; have := ne_i c10; have : (0 : Int32).toInt = 0 := rfl; have : (1 : Int32).toInt = 1 := rfl; have := bd_i v2; have := bd_i v4; have := bd_i y6; have := bd_i v4; have := bd_i (1 : Int32); have : (v4 + (1 : Int32)).toInt = v4.toInt + (1 : Int32).toInt := ad_i (by omega) (by omega); omega) W4 G8
      · obtain ⟨nd_12, nn_12, vr_12, vn_12, s2_12, s3_12, s4_12, s5_12, s6_12, s7_12, s8_12, w9_12, nx_12, en_12, e_12, tnd_12, tvr_12, tnx_12, ten_12⟩ := o10 W t3
        refine wk_wr W t3 rfl e_12 (Nat.le_of_ble_eq_true rfl) (i10 tnd_12 tvr_12 tnx_12 ten_12) ?_
        intro h13 W14 e15 o16
        have G17 := fk_w (ws := [1, 2, 6, 9, 10, 101, 105]) G t3 o16 rfl
        exact wq_some (Or.inl (rI_i ⟨W14, G17, trivial⟩))
theorem s_Code_resume {d : Nat} {h : ah_H} {v0 : Nat} {v1 : Int32} {v2 : Int32} (W : cI K κ b h) (t0 : κ v0 = some (0, 0)) (hr : rm lim h) : wq (vc lim (d + 8) m_Code_resume [.inr (.inr (some v0)), .inl v1, .inl v2] h) (fun z => (rI fun x h' => cI K κ b h' ∧ fk [1, 2, 6, 9, 10, 101, 105] κ h h' ∧ True) z ∨ tX [200, 201, 202] h z) := by
  refine wq_eq e_Code_resume ?_
  refine wk_at W t0 rfl (fun _ => ?_)
  refine wq_cR (s_Code_unitAt W t0) ?_
  rintro r3 h1 ⟨rfl, p4⟩
  rcases r3 with _ | q5
  · refine wq_t rfl ?_
    exact thX hr (Or.inr ⟨202, rfl, rfl⟩)
  · obtain ⟨n7, t6⟩ := p4 q5 rfl
    refine wq_f nofun ?_
    refine wq_if _ (fun c8 => ?_) (fun c8 => ?_)
    · exact thX hr (Or.inr ⟨200, rfl, rfl⟩)
    · refine wq_if _ (fun c9 => ?_) (fun c9 => ?_)
      · obtain ⟨nd_10, nn_10, vr_10, vn_10, s2_10, s3_10, s4_10, s5_10, s6_10, s7_10, s8_10, w9_10, nx_10, en_10, e_10, tnd_10, tvr_10, tnx_10, ten_10⟩ := o10 W t6
        refine wq_gI e_10 rfl ?_
        refine wq_if _ (fun c11 => ?_) (fun c11 => ?_)
        · exact thX hr (Or.inr ⟨201, rfl, rfl⟩)
        · refine wq_gI e_10 rfl ?_
          refine wq_if _ (fun c12 => ?_) (fun c12 => ?_)
          · exact thX hr (Or.inr ⟨201, rfl, rfl⟩)
          · obtain ⟨sg_13, mk_13, lk_13, un_13, uc_13, nk_13, td_13, rn_13, e_13, tsg_13, tmk_13, tlk_13, tun_13, ttd_13, trn_13, b0_13, b1_13⟩ := o0 W t0
            refine wq_gR e_13 rfl ?_
            refine wk_at W ttd_13 rfl (fun _ => ?_)
            refine wq_cV (s_Told_clear W ttd_13) ?_
            rintro h14 ⟨W15, g16⟩
            have G17 := fk_c (ws := [1, 2, 6, 9, 10, 101, 105]) fk_0 g16 rfl
            have e18 := (g16 _ _ _ t6 rfl).trans e_10
            have e19 := (g16 _ _ _ t0 rfl).trans e_13
            refine wk_at W15 t6 rfl (fun _ => ?_)
            refine wq_cV (s_Unit_leaveWait W15 t6) ?_
            rintro h20 ⟨W21, g22⟩
            have G23 := fk_c (ws := [1, 2, 6, 9, 10, 101, 105]) G17 g22 rfl
            have e24 := (g22 _ _ _ t0 rfl).trans e19
            exact l_11_82 t0 t6 _ _ _ _ (Nat.lt_succ_self _) W21 G23
      · exact thX hr (Or.inr ⟨200, rfl, rfl⟩)
theorem s_Code_add {d : Nat} {h : ah_H} {v0 : Nat} {v1 : Int32} {v2 : Int32} {v3 : Int32} (W : cI K κ b h) (t0 : κ v0 = some (0, 0)) (hk : ∀ vs mk, h.1 v0 = some (0, vs) → vs[1]? = some (aR mk) → ∀ vs nd, h.1 mk = some (4, vs) → vs[0]? = some (aR nd) → ∀ ws, h.1 nd = some (5, ws) → ∀ c, ws[8]? = some (aI c) → c.toInt + 1 ≤ K) (hr : rm lim h) : wq (vc lim (d + 4) m_Code_add [.inr (.inr (some v0)), .inl v1, .inl v2, .inl v3] h) (fun z => (rI fun x h' => cI K κ b h' ∧ fk [4, 5, 100] κ h h' ∧ True) z ∨ tX [200, 201] h z) := by
  refine wq_eq e_Code_add ?_
  refine wq_if _ (fun c1 => ?_) (fun c1 => ?_)
  · refine wq_eq q_3_25 ?_
    exact thX hr (Or.inr ⟨200, rfl, rfl⟩)
  · refine wq_if _ (fun c2 => ?_) (fun c2 => ?_)
    · refine wq_if _ (fun c3 => ?_) (fun c3 => ?_)
      · refine wq_eq q_3_25 ?_
        exact thX hr (Or.inr ⟨200, rfl, rfl⟩)
      · obtain ⟨sg_4, mk_4, lk_4, un_4, uc_4, nk_4, td_4, rn_4, e_4, tsg_4, tmk_4, tlk_4, tun_4, ttd_4, trn_4, b0_4, b1_4⟩ := o0 W t0
        refine wq_gR e_4 rfl ?_
        obtain ⟨nd_5, vr_5, ht_5, rt_5, rc_5, e_5, tnd_5, tvr_5, tht_5, trt_5, b0_5, b1_5⟩ := o4 W tmk_4
        refine wq_gI e_5 rfl ?_
        refine wq_if _ (fun c6 => ?_) (fun c6 => ?_)
        · refine wq_gR e_4 rfl ?_
          refine wq_gR e_5 rfl ?_
          refine wk_at W tnd_5 rfl (fun _ => ?_)
          refine wq_cI (s_Nodes_isFull W tnd_5) ?_
          rintro y9 h7 ⟨rfl, p10⟩
          refine wq_if _ (fun c11 => ?_) (fun c11 => ?_)
          · obtain ⟨aA_12, aB_12, aC_12, aD_12, aE_12, aF_12, aG_12, aH_12, c_12, kt_12, e_12, taA_12, taB_12, taC_12, taD_12, taE_12, taF_12, taG_12, taH_12, b0_12, b1_12, b2_12, b3_12, b4_12⟩ := o5 W tnd_5
            have f13 := p10.2 c11 _ e_12 _ rfl
            refine wq_gR e_4 rfl ?_
            refine wk_at W tmk_4 rfl (fun _ => ?_)
            refine wq_cI (s_Maker_make W tmk_4 (hk _ _ e_4 rfl)) ?_
            rintro y17 h14 ⟨W15, g16, p18⟩
            have G19 := fk_c (ws := [4, 5, 100]) fk_0 g16 rfl
            have e20 := (g16 _ _ _ t0 rfl).trans e_4
            exact wq_some (Or.inl (rI_i ⟨W15, G19, trivial⟩))
          · exact thX hr (Or.inr ⟨201, rfl, rfl⟩)
        · refine wq_eq q_3_25 ?_
          exact thX hr (Or.inr ⟨200, rfl, rfl⟩)
    · refine wq_eq q_3_25 ?_
      exact thX hr (Or.inr ⟨200, rfl, rfl⟩)
end CsF
