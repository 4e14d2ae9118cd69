/-! CONTRACTS: trees are looked over, by program (wip/tools/clsgen.py) -/
section CsC
variable {lim : Nat × Nat} {K : Nat} {κ : kM} {b : ah_H}
theorem l_202_8 {d : Nat} {h : ah_H} {n0 : Nat} {v0 : Nat} (W : cI K κ b h) (t0 : κ v0 = some (5, n0)) : ∀ (m : Nat) (v2 : Int32) (v3 : Int32), (2147483647 - v3.toInt).toNat < m → wq (ah_val lim ah_P (d + 2) 202 8 [some (.inr (.inr (some v0))), none, some (.inl v2), some (.inl v3)] [] h) (rI fun x h' => h' = h ∧ True) := by
  intro m
  induction m with
  | zero => intros; omega
  | succ m ih =>
      intro v2 v3 hm
      refine wq_eq q_202_8 ?_
      obtain ⟨aA_1, aB_1, aC_1, aD_1, aE_1, aF_1, aG_1, aH_1, c_1, kt_1, e_1, taA_1, taB_1, taC_1, taD_1, taE_1, taF_1, taG_1, taH_1, b0_1, b1_1, b2_1, b3_1, b4_1⟩ := o5 W t0
      refine wq_gI e_1 rfl ?_
      refine wq_if _ (fun c2 => ?_) (fun c2 => ?_)
      · refine wq_if _ (fun c3 => ?_) (fun c3 => ?_)
        · exact wq_some (rI_i ⟨rfl, trivial⟩)
        · refine wk_at W t0 rfl (fun _ => ?_)
          refine wq_cI (s_Nodes_isLoop W t0) ?_
          rintro y6 h4 ⟨rfl, p7⟩
          refine wq_if _ (fun c8 => ?_) (fun c8 => ?_)
          · refine wk_at W t0 rfl (fun _ => ?_)
            refine wq_cI (s_Nodes_parentOf W t0) ?_
            rintro y11 h9 ⟨rfl, p12⟩
            exact ih _ _ (by have := lt_i c2; have := ne_i c3; have := congrArg Int32.toInt c8; have : (-1 : Int32).toInt = -1 := rfl; have : (0 : Int32).toInt = 0 := rfl; have : (1 : Int32).toInt = 1 := rfl; have := bd_i c_1; have := bd_i v2; have := bd_i v3; have := bd_i y6; have := bd_i v3; have := bd_i (1 : Int32); have : (v3 + (1 : Int32)).toInt = v3.toInt + (1 : Int32).toInt := ad_i (by omega) (by omega); omega)
          · exact wq_some (rI_i ⟨rfl, trivial⟩)
      · exact wq_some (rI_i ⟨rfl, trivial⟩)
theorem s_Nodes_loopOf {d : Nat} {h : ah_H} {n0 : Nat} {v0 : Nat} {v1 : Int32} (W : cI K κ b h) (t0 : κ v0 = some (5, n0)) : wq (vc lim (d + 3) m_Nodes_loopOf [.inr (.inr (some v0)), .inl v1] h) (rI fun x h' => h' = h ∧ True) := by
  refine wq_eq e_Nodes_loopOf ?_
  refine wk_at W t0 rfl (fun _ => ?_)
  refine wq_cI (s_Nodes_parentOf W t0) ?_
  rintro y3 h1 ⟨rfl, p4⟩
  exact l_202_8 W t0 _ _ _ (Nat.lt_succ_self _)
theorem s_Looker_isWithin {d : Nat} {h : ah_H} {v0 : Int32} {v1 : Int32} {v2 : Int32} (W : cI K κ b h)  : wq (vc lim (d + 1) m_Looker_isWithin [.inl v0, .inl v1, .inl v2] h) (rI fun x h' => h' = h ∧ (x = 0 ∨ x = 1)) := by
  refine wq_eq e_Looker_isWithin ?_
  refine wq_if _ (fun c1 => ?_) (fun c1 => ?_)
  · exact wq_t (Or.inl rfl) (wq_some (rI_i ⟨rfl, (Or.inl rfl)⟩))
  · refine wq_if _ (fun c2 => ?_) (fun c2 => ?_)
    · exact wq_t (Or.inr rfl) (wq_some (rI_i ⟨rfl, (Or.inr rfl)⟩))
    · exact wq_t (Or.inl rfl) (wq_some (rI_i ⟨rfl, (Or.inl rfl)⟩))
theorem s_Looker_isExpression {d : Nat} {h : ah_H} {v0 : Int32} (W : cI K κ b h)  : wq (vc lim (d + 2) m_Looker_isExpression [.inl v0] h) (rI fun x h' => h' = h ∧ (x = 0 ∨ x = 1)) := by
  refine wq_eq e_Looker_isExpression ?_
  refine wq_cI (s_Looker_isWithin W) ?_
  rintro y3 h1 ⟨rfl, p4⟩
  refine wq_if _ (fun c5 => ?_) (fun c5 => ?_)
  · refine wq_if _ (fun c6 => ?_) (fun c6 => ?_)
    · exact wq_t (Or.inr rfl) (wq_some (rI_i ⟨rfl, (Or.inr rfl)⟩))
    · refine wq_if _ (fun c7 => ?_) (fun c7 => ?_)
      · exact wq_t (Or.inr rfl) (wq_some (rI_i ⟨rfl, (Or.inr rfl)⟩))
      · refine wq_cI (s_Looker_isWithin W) ?_
        rintro y10 h8 ⟨rfl, p11⟩
        refine wq_if _ (fun c12 => ?_) (fun c12 => ?_)
        · exact wq_t (Or.inl rfl) (wq_some (rI_i ⟨rfl, (Or.inl rfl)⟩))
        · exact wq_t (Or.inr rfl) (wq_some (rI_i ⟨rfl, (Or.inr rfl)⟩))
  · exact wq_t (Or.inr rfl) (wq_some (rI_i ⟨rfl, (Or.inr rfl)⟩))
theorem s_Looker_isStatement {d : Nat} {h : ah_H} {v0 : Int32} (W : cI K κ b h)  : wq (vc lim (d + 2) m_Looker_isStatement [.inl v0] h) (rI fun x h' => h' = h ∧ (x = 0 ∨ x = 1)) := by
  refine wq_eq e_Looker_isStatement ?_
  refine wq_if _ (fun c1 => ?_) (fun c1 => ?_)
  · exact wq_t (Or.inr rfl) (wq_some (rI_i ⟨rfl, (Or.inr rfl)⟩))
  · refine wq_cI (s_Looker_isWithin W) ?_
    rintro y4 h2 ⟨rfl, p5⟩
    refine wq_if _ (fun c6 => ?_) (fun c6 => ?_)
    · refine wq_cI (s_Looker_isWithin W) ?_
      rintro y9 h7 ⟨rfl, p10⟩
      refine wq_if _ (fun c11 => ?_) (fun c11 => ?_)
      · exact wq_t (Or.inl rfl) (wq_some (rI_i ⟨rfl, (Or.inl rfl)⟩))
      · exact wq_t (Or.inr rfl) (wq_some (rI_i ⟨rfl, (Or.inr rfl)⟩))
    · exact wq_t (Or.inr rfl) (wq_some (rI_i ⟨rfl, (Or.inr rfl)⟩))
theorem s_Looker_thingOf {d : Nat} {h : ah_H} {v0 : Nat} {v1 : Int32} (W : cI K κ b h) (t0 : κ v0 = some (3, 0)) : wq (vc lim (d + 2) m_Looker_thingOf [.inr (.inr (some v0)), .inl v1] h) (rR fun r h' => h' = h ∧ ∀ t, r = some t → κ t = some (7, 0)) := by
  refine wq_eq e_Looker_thingOf ?_
  obtain ⟨mk_1, nd_1, sg_1, e_1, tmk_1, tnd_1, tsg_1⟩ := o3 W t0
  refine wq_gR e_1 rfl ?_
  refine wk_at W tnd_1 rfl (fun _ => ?_)
  refine wq_cI (s_Nodes_kindOf W tnd_1) ?_
  rintro y4 h2 ⟨rfl, p5⟩
  refine wq_if _ (fun c6 => ?_) (fun c6 => ?_)
  · refine wq_gR e_1 rfl ?_
    refine wq_gR e_1 rfl ?_
    refine wk_at W tnd_1 rfl (fun _ => ?_)
    refine wq_cI (s_Nodes_givenOf W tnd_1) ?_
    rintro y9 h7 ⟨rfl, p10⟩
    refine wk_at W tsg_1 rfl (fun _ => ?_)
    refine wq_cR (s_Things_pick W tsg_1) ?_
    rintro r13 h11 ⟨rfl, p14⟩
    exact wq_some (rR_i ⟨rfl, p14⟩)
  · refine wq_if _ (fun c15 => ?_) (fun c15 => ?_)
    · refine wq_gR e_1 rfl ?_
      obtain ⟨nd_16, vr_16, ht_16, rt_16, rc_16, e_16, tnd_16, tvr_16, tht_16, trt_16, b0_16, b1_16⟩ := o4 W tmk_1
      refine wq_gR e_16 rfl ?_
      refine wq_gR e_1 rfl ?_
      refine wk_at W tnd_1 rfl (fun _ => ?_)
      refine wq_cI (s_Nodes_givenOf W tnd_1) ?_
      rintro y19 h17 ⟨rfl, p20⟩
      refine wk_at W tvr_16 rfl (fun _ => ?_)
      refine wq_cR (s_Things_pick W tvr_16) ?_
      rintro r23 h21 ⟨rfl, p24⟩
      exact wq_some (rR_i ⟨rfl, p24⟩)
    · exact wq_some (rR_i ⟨rfl, nofun⟩)
theorem s_Looker_isThing {d : Nat} {h : ah_H} {v0 : Nat} {v1 : Int32} {v2 : Int32} (W : cI K κ b h) (t0 : κ v0 = some (3, 0)) : wq (vc lim (d + 3) m_Looker_isThing [.inr (.inr (some v0)), .inl v1, .inl v2] h) (rI fun x h' => h' = h ∧ (x = 0 ∨ x = 1)) := by
  refine wq_eq e_Looker_isThing ?_
  refine wk_at W t0 rfl (fun _ => ?_)
  refine wq_cR (s_Looker_thingOf W t0) ?_
  rintro r3 h1 ⟨rfl, p4⟩
  rcases r3 with _ | q5
  · refine wq_t rfl ?_
    exact wq_t (Or.inl rfl) (wq_some (rI_i ⟨rfl, (Or.inl rfl)⟩))
  · have t6 := p4 q5 rfl
    refine wq_f nofun ?_
    obtain ⟨i_7, l_7, lo_7, hi_7, nw_7, ls_7, ev_7, ac_7, e_7, tnw_7, tls_7⟩ := o7 W t6
    refine wq_gI e_7 rfl ?_
    refine wq_if _ (fun c8 => ?_) (fun c8 => ?_)
    · exact wq_t (Or.inr rfl) (wq_some (rI_i ⟨rfl, (Or.inr rfl)⟩))
    · exact wq_t (Or.inl rfl) (wq_some (rI_i ⟨rfl, (Or.inl rfl)⟩))
theorem s_Looker_kidKind {d : Nat} {h : ah_H} {v0 : Nat} {v1 : Int32} {v2 : Int32} (W : cI K κ b h) (t0 : κ v0 = some (3, 0)) : wq (vc lim (d + 2) m_Looker_kidKind [.inr (.inr (some v0)), .inl v1, .inl v2] h) (rI fun x h' => h' = h ∧ True) := by
  refine wq_eq e_Looker_kidKind ?_
  obtain ⟨mk_1, nd_1, sg_1, e_1, tmk_1, tnd_1, tsg_1⟩ := o3 W t0
  refine wq_gR e_1 rfl ?_
  refine wq_gR e_1 rfl ?_
  refine wk_at W tnd_1 rfl (fun _ => ?_)
  refine wq_cI (s_Nodes_kid W tnd_1) ?_
  rintro y4 h2 ⟨rfl, p5⟩
  refine wk_at W tnd_1 rfl (fun _ => ?_)
  refine wq_cI (s_Nodes_kindOf W tnd_1) ?_
  rintro y8 h6 ⟨rfl, p9⟩
  exact wq_some (rI_i ⟨rfl, trivial⟩)
theorem s_Looker_isExpressionKid {d : Nat} {h : ah_H} {v0 : Nat} {v1 : Int32} {v2 : Int32} (W : cI K κ b h) (t0 : κ v0 = some (3, 0)) : wq (vc lim (d + 3) m_Looker_isExpressionKid [.inr (.inr (some v0)), .inl v1, .inl v2] h) (rI fun x h' => h' = h ∧ (x = 0 ∨ x = 1)) := by
  refine wq_eq e_Looker_isExpressionKid ?_
  refine wk_at W t0 rfl (fun _ => ?_)
  refine wq_cI (s_Looker_kidKind W t0) ?_
  rintro y3 h1 ⟨rfl, p4⟩
  refine wq_cI (s_Looker_isExpression W) ?_
  rintro y7 h5 ⟨rfl, p8⟩
  exact wq_t p8 (wq_some (rI_i ⟨rfl, p8⟩))
theorem s_Looker_isExpressionOrNothing {d : Nat} {h : ah_H} {v0 : Nat} {v1 : Int32} {v2 : Int32} (W : cI K κ b h) (t0 : κ v0 = some (3, 0)) : wq (vc lim (d + 4) m_Looker_isExpressionOrNothing [.inr (.inr (some v0)), .inl v1, .inl v2] h) (rI fun x h' => h' = h ∧ (x = 0 ∨ x = 1)) := by
  refine wq_eq e_Looker_isExpressionOrNothing ?_
  refine wk_at W t0 rfl (fun _ => ?_)
  refine wq_cI (s_Looker_isExpressionKid W t0) ?_
  rintro y3 h1 ⟨rfl, p4⟩
  refine wq_if _ (fun c5 => ?_) (fun c5 => ?_)
  · refine wk_at W t0 rfl (fun _ => ?_)
    refine wq_cI (s_Looker_kidKind W t0) ?_
    rintro y8 h6 ⟨rfl, p9⟩
    refine wq_if _ (fun c10 => ?_) (fun c10 => ?_)
    · exact wq_t (Or.inr rfl) (wq_some (rI_i ⟨rfl, (Or.inr rfl)⟩))
    · exact wq_t (Or.inl rfl) (wq_some (rI_i ⟨rfl, (Or.inl rfl)⟩))
  · exact wq_t (Or.inr rfl) (wq_some (rI_i ⟨rfl, (Or.inr rfl)⟩))
theorem s_Looker_isKidOrNothing {d : Nat} {h : ah_H} {v0 : Nat} {v1 : Int32} {v2 : Int32} {v3 : Int32} (W : cI K κ b h) (t0 : κ v0 = some (3, 0)) : wq (vc lim (d + 3) m_Looker_isKidOrNothing [.inr (.inr (some v0)), .inl v1, .inl v2, .inl v3] h) (rI fun x h' => h' = h ∧ (x = 0 ∨ x = 1)) := by
  refine wq_eq e_Looker_isKidOrNothing ?_
  refine wk_at W t0 rfl (fun _ => ?_)
  refine wq_cI (s_Looker_kidKind W t0) ?_
  rintro y3 h1 ⟨rfl, p4⟩
  refine wq_if _ (fun c5 => ?_) (fun c5 => ?_)
  · exact wq_t (Or.inr rfl) (wq_some (rI_i ⟨rfl, (Or.inr rfl)⟩))
  · refine wq_if _ (fun c6 => ?_) (fun c6 => ?_)
    · exact wq_t (Or.inr rfl) (wq_some (rI_i ⟨rfl, (Or.inr rfl)⟩))
    · exact wq_t (Or.inl rfl) (wq_some (rI_i ⟨rfl, (Or.inl rfl)⟩))
theorem l_176_3 {d : Nat} {h : ah_H} {v0 : Nat} (W : cI K κ b h) (t0 : κ v0 = some (3, 0)) : ∀ (m : Nat) (v1 : Int32) (v3 : Int32) (v4 : Int32), (2147483647 - v4.toInt).toNat < m → wq (ah_val lim ah_P (d + 2) 176 3 [some (.inr (.inr (some v0))), some (.inl v1), none, some (.inl v3), some (.inl v4)] [] h) (rI fun x h' => h' = h ∧ (x = 0 ∨ x = 1)) := by
  intro m
  induction m with
  | zero => intros; omega
  | succ m ih =>
      intro v1 v3 v4 hm
      refine wq_eq q_176_3 ?_
      obtain ⟨mk_1, nd_1, sg_1, e_1, tmk_1, tnd_1, tsg_1⟩ := o3 W t0
      refine wq_gR e_1 rfl ?_
      refine wk_at W tnd_1 rfl (fun _ => ?_)
      refine wq_cI (s_Nodes_kidsOf W tnd_1) ?_
      rintro y4 h2 ⟨rfl, p5⟩
      refine wq_if _ (fun c6 => ?_) (fun c6 => ?_)
      · refine wk_at W t0 rfl (fun _ => ?_)
        refine wq_cI (s_Looker_kidKind W t0) ?_
        rintro y9 h7 ⟨rfl, p10⟩
        refine wq_if _ (fun c11 => ?_) (fun c11 => ?_)
        · exact ih _ _ _ (by have := lt_i c6; have := congrArg Int32.toInt c11; have : (1 : Int32).toInt = 1 := rfl; have := bd_i v3; have := bd_i v4; have := bd_i y4; have := bd_i y9; have := bd_i v4; have := bd_i (1 : Int32); have : (v4 + (1 : Int32)).toInt = v4.toInt + (1 : Int32).toInt := ad_i (by omega) (by omega); omega)
        · exact wq_t (Or.inl rfl) (wq_some (rI_i ⟨rfl, (Or.inl rfl)⟩))
      · exact wq_t (Or.inr rfl) (wq_some (rI_i ⟨rfl, (Or.inr rfl)⟩))
theorem s_Looker_areKids {d : Nat} {h : ah_H} {v0 : Nat} {v1 : Int32} {v2 : Int32} {v3 : Int32} (W : cI K κ b h) (t0 : κ v0 = some (3, 0)) : wq (vc lim (d + 3) m_Looker_areKids [.inr (.inr (some v0)), .inl v1, .inl v2, .inl v3] h) (rI fun x h' => h' = h ∧ (x = 0 ∨ x = 1)) := by
  refine wq_eq e_Looker_areKids ?_
  exact l_176_3 W t0 _ _ _ _ (Nat.lt_succ_self _)
theorem l_175_2 {d : Nat} {h : ah_H} {v0 : Nat} (W : cI K κ b h) (t0 : κ v0 = some (3, 0)) : ∀ (m : Nat) (v1 : Int32) (v2 : Int32), (2147483647 - v2.toInt).toNat < m → wq (ah_val lim ah_P (d + 2) 175 2 [some (.inr (.inr (some v0))), some (.inl v1), some (.inl v2), none] [] h) (rI fun x h' => h' = h ∧ (x = 0 ∨ x = 1)) := by
  intro m
  induction m with
  | zero => intros; omega
  | succ m ih =>
      intro v1 v2 hm
      refine wq_eq q_175_2 ?_
      obtain ⟨mk_1, nd_1, sg_1, e_1, tmk_1, tnd_1, tsg_1⟩ := o3 W t0
      refine wq_gR e_1 rfl ?_
      refine wk_at W tnd_1 rfl (fun _ => ?_)
      refine wq_cI (s_Nodes_kidsOf W tnd_1) ?_
      rintro y4 h2 ⟨rfl, p5⟩
      refine wq_if _ (fun c6 => ?_) (fun c6 => ?_)
      · refine wk_at W t0 rfl (fun _ => ?_)
        refine wq_cI (s_Looker_kidKind W t0) ?_
        rintro y9 h7 ⟨rfl, p10⟩
        refine wq_if _ (fun c11 => ?_) (fun c11 => ?_)
        · exact ih _ _ (by have := lt_i c6; have := congrArg Int32.toInt c11; have : (1 : Int32).toInt = 1 := rfl; have : (37 : Int32).toInt = 37 := rfl; have := bd_i v2; have := bd_i y4; have := bd_i y9; have := bd_i v2; have := bd_i (1 : Int32); have : (v2 + (1 : Int32)).toInt = v2.toInt + (1 : Int32).toInt := ad_i (by omega) (by omega); omega)
        · refine wq_cI (s_Looker_isWithin W) ?_
          rintro y14 h12 ⟨rfl, p15⟩
          refine wq_if _ (fun c16 => ?_) (fun c16 => ?_)
          · exact wq_t (Or.inl rfl) (wq_some (rI_i ⟨rfl, (Or.inl rfl)⟩))
          · exact ih _ _ (by have := lt_i c6; have := ne_i c11; have := ne_i c16; have : (0 : Int32).toInt = 0 := rfl; have : (1 : Int32).toInt = 1 := rfl; have : (37 : Int32).toInt = 37 := rfl; have := bd_i v2; have := bd_i y14; have := bd_i y4; have := bd_i y9; have := bd_i v2; have := bd_i (1 : Int32); have : (v2 + (1 : Int32)).toInt = v2.toInt + (1 : Int32).toInt := ad_i (by omega) (by omega); omega)
      · refine wq_gR e_1 rfl ?_
        refine wk_at W tnd_1 rfl (fun _ => ?_)
        refine wq_cI (s_Nodes_kindOf W tnd_1) ?_
        rintro y19 h17 ⟨rfl, p20⟩
        refine wq_if _ (fun c21 => ?_) (fun c21 => ?_)
        · refine wq_gR e_1 rfl ?_
          refine wk_at W tnd_1 rfl (fun _ => ?_)
          refine wq_cI (s_Nodes_kidsOf W tnd_1) ?_
          rintro y24 h22 ⟨rfl, p25⟩
          refine wq_if _ (fun c26 => ?_) (fun c26 => ?_)
          · exact wq_t (Or.inl rfl) (wq_some (rI_i ⟨rfl, (Or.inl rfl)⟩))
          · exact wq_t (Or.inr rfl) (wq_some (rI_i ⟨rfl, (Or.inr rfl)⟩))
        · exact wq_t (Or.inl rfl) (wq_some (rI_i ⟨rfl, (Or.inl rfl)⟩))
theorem s_Looker_areChoices {d : Nat} {h : ah_H} {v0 : Nat} {v1 : Int32} (W : cI K κ b h) (t0 : κ v0 = some (3, 0)) : wq (vc lim (d + 3) m_Looker_areChoices [.inr (.inr (some v0)), .inl v1] h) (rI fun x h' => h' = h ∧ (x = 0 ∨ x = 1)) := by
  refine wq_eq e_Looker_areChoices ?_
  exact l_175_2 W t0 _ _ _ (Nat.lt_succ_self _)
theorem s_Looker_isSignals {d : Nat} {h : ah_H} {v0 : Nat} {v1 : Int32} (W : cI K κ b h) (t0 : κ v0 = some (3, 0)) : wq (vc lim (d + 4) m_Looker_isSignals [.inr (.inr (some v0)), .inl v1] h) (rI fun x h' => h' = h ∧ (x = 0 ∨ x = 1)) := by
  refine wq_eq e_Looker_isSignals ?_
  obtain ⟨mk_1, nd_1, sg_1, e_1, tmk_1, tnd_1, tsg_1⟩ := o3 W t0
  refine wq_gR e_1 rfl ?_
  refine wk_at W tnd_1 rfl (fun _ => ?_)
  refine wq_cI (s_Nodes_kindOf W tnd_1) ?_
  rintro y4 h2 ⟨rfl, p5⟩
  refine wq_if _ (fun c6 => ?_) (fun c6 => ?_)
  · refine wk_at W t0 rfl (fun _ => ?_)
    refine wq_cI (s_Looker_areKids W t0) ?_
    rintro y9 h7 ⟨rfl, p10⟩
    refine wq_if _ (fun c11 => ?_) (fun c11 => ?_)
    · exact wq_t (Or.inl rfl) (wq_some (rI_i ⟨rfl, (Or.inl rfl)⟩))
    · exact wq_t (Or.inr rfl) (wq_some (rI_i ⟨rfl, (Or.inr rfl)⟩))
  · exact wq_t (Or.inl rfl) (wq_some (rI_i ⟨rfl, (Or.inl rfl)⟩))
theorem l_173_17 {d : Nat} {h : ah_H} {v0 : Nat} (W : cI K κ b h) (t0 : κ v0 = some (3, 0)) : ∀ (m : Nat) (v1 : Int32) (v2 : Int32), (2147483647 - v2.toInt).toNat < m → wq (ah_val lim ah_P (d + 2) 173 17 [some (.inr (.inr (some v0))), some (.inl v1), some (.inl v2)] [] h) (rI fun x h' => h' = h ∧ (x = 0 ∨ x = 1)) := by
  intro m
  induction m with
  | zero => intros; omega
  | succ m ih =>
      intro v1 v2 hm
      refine wq_eq q_173_17 ?_
      obtain ⟨mk_1, nd_1, sg_1, e_1, tmk_1, tnd_1, tsg_1⟩ := o3 W t0
      refine wq_gR e_1 rfl ?_
      refine wk_at W tnd_1 rfl (fun _ => ?_)
      refine wq_cI (s_Nodes_kidsOf W tnd_1) ?_
      rintro y4 h2 ⟨rfl, p5⟩
      refine wq_if _ (fun c6 => ?_) (fun c6 => ?_)
      · refine wk_at W t0 rfl (fun _ => ?_)
        refine wq_cI (s_Looker_kidKind W t0) ?_
        rintro y9 h7 ⟨rfl, p10⟩
        refine wq_cI (s_Looker_isStatement W) ?_
        rintro y13 h11 ⟨rfl, p14⟩
        refine wq_if _ (fun c15 => ?_) (fun c15 => ?_)
        · exact wq_t (Or.inl rfl) (wq_some (rI_i ⟨rfl, (Or.inl rfl)⟩))
        · exact ih _ _ (by have := lt_i c6; have := ne_i c15; have : (0 : Int32).toInt = 0 := rfl; have : (1 : Int32).toInt = 1 := rfl; have := bd_i v2; have := bd_i y13; have := bd_i y4; have := bd_i v2; have := bd_i (1 : Int32); have : (v2 + (1 : Int32)).toInt = v2.toInt + (1 : Int32).toInt := ad_i (by omega) (by omega); omega)
      · exact wq_t (Or.inr rfl) (wq_some (rI_i ⟨rfl, (Or.inr rfl)⟩))
theorem s_Looker_isStatements {d : Nat} {h : ah_H} {v0 : Nat} {v1 : Int32} (W : cI K κ b h) (t0 : κ v0 = some (3, 0)) : wq (vc lim (d + 3) m_Looker_isStatements [.inr (.inr (some v0)), .inl v1] h) (rI fun x h' => h' = h ∧ (x = 0 ∨ x = 1)) := by
  refine wq_eq e_Looker_isStatements ?_
  obtain ⟨mk_1, nd_1, sg_1, e_1, tmk_1, tnd_1, tsg_1⟩ := o3 W t0
  refine wq_gR e_1 rfl ?_
  refine wk_at W tnd_1 rfl (fun _ => ?_)
  refine wq_cI (s_Nodes_kindOf W tnd_1) ?_
  rintro y4 h2 ⟨rfl, p5⟩
  refine wq_if _ (fun c6 => ?_) (fun c6 => ?_)
  · exact l_173_17 W t0 _ _ _ (Nat.lt_succ_self _)
  · exact wq_t (Or.inl rfl) (wq_some (rI_i ⟨rfl, (Or.inl rfl)⟩))
theorem s_Looker_isTarget {d : Nat} {h : ah_H} {v0 : Nat} {v1 : Int32} {v2 : Int32} (W : cI K κ b h) (t0 : κ v0 = some (3, 0)) : wq (vc lim (d + 3) m_Looker_isTarget [.inr (.inr (some v0)), .inl v1, .inl v2] h) (rI fun x h' => h' = h ∧ (x = 0 ∨ x = 1)) := by
  refine wq_eq e_Looker_isTarget ?_
  obtain ⟨mk_1, nd_1, sg_1, e_1, tmk_1, tnd_1, tsg_1⟩ := o3 W t0
  refine wq_gR e_1 rfl ?_
  refine wk_at W tnd_1 rfl (fun _ => ?_)
  refine wq_cI (s_Nodes_kindOf W tnd_1) ?_
  rintro y4 h2 ⟨rfl, p5⟩
  refine wq_if _ (fun c6 => ?_) (fun c6 => ?_)
  · exact wq_t (Or.inr rfl) (wq_some (rI_i ⟨rfl, (Or.inr rfl)⟩))
  · refine wq_if _ (fun c7 => ?_) (fun c7 => ?_)
    · refine wk_at W t0 rfl (fun _ => ?_)
      refine wq_cI (s_Looker_kidKind W t0) ?_
      rintro y10 h8 ⟨rfl, p11⟩
      refine wq_if _ (fun c12 => ?_) (fun c12 => ?_)
      · exact wq_t (Or.inr rfl) (wq_some (rI_i ⟨rfl, (Or.inr rfl)⟩))
      · exact wq_t (Or.inl rfl) (wq_some (rI_i ⟨rfl, (Or.inl rfl)⟩))
    · refine wq_if _ (fun c13 => ?_) (fun c13 => ?_)
      · refine wk_at W t0 rfl (fun _ => ?_)
        refine wq_cI (s_Looker_kidKind W t0) ?_
        rintro y16 h14 ⟨rfl, p17⟩
        refine wq_if _ (fun c18 => ?_) (fun c18 => ?_)
        · exact wq_t (Or.inr rfl) (wq_some (rI_i ⟨rfl, (Or.inr rfl)⟩))
        · exact wq_t (Or.inl rfl) (wq_some (rI_i ⟨rfl, (Or.inl rfl)⟩))
      · exact wq_t (Or.inl rfl) (wq_some (rI_i ⟨rfl, (Or.inl rfl)⟩))
theorem l_171_2 {d : Nat} {h : ah_H} {v0 : Nat} (W : cI K κ b h) (t0 : κ v0 = some (3, 0)) : ∀ (m : Nat) (v1 : Int32) (v2 : Int32) (v3 : Int32), (2147483647 - v3.toInt).toNat < m → 0 ≤ v3.toInt → v3.toInt % 2 = 0 → wq (ah_val lim ah_P (d + 3) 171 2 [some (.inr (.inr (some v0))), some (.inl v1), some (.inl v2), some (.inl v3)] [] h) (rI fun x h' => h' = h ∧ (x = 0 ∨ x = 1)) := by
  intro m
  induction m with
  | zero => intros; omega
  | succ m ih =>
      intro v1 v2 v3 hm iv0 iv1
      refine wq_eq q_171_2 ?_
      refine wq_if _ (fun c1 => ?_) (fun c1 => ?_)
      · refine wk_at W t0 rfl (fun _ => ?_)
        refine wq_cI (s_Looker_isExpressionKid W t0) ?_
        rintro y4 h2 ⟨rfl, p5⟩
        refine wq_if _ (fun c6 => ?_) (fun c6 => ?_)
        · exact wq_t (Or.inl rfl) (wq_some (rI_i ⟨rfl, (Or.inl rfl)⟩))
        · obtain ⟨mk_7, nd_7, sg_7, e_7, tmk_7, tnd_7, tsg_7⟩ := o3 W t0
          refine wq_gR e_7 rfl ?_
          refine wk_at W tnd_7 rfl (fun _ => ?_)
          refine wq_cI (s_Nodes_kid W tnd_7) ?_
          rintro y10 h8 ⟨rfl, p11⟩
          refine wk_at W t0 rfl (fun _ => ?_)
          refine wq_cI (s_Looker_isStatements W t0) ?_
          rintro y14 h12 ⟨rfl, p15⟩
          refine wq_if _ (fun c16 => ?_) (fun c16 => ?_)
          · exact wq_t (Or.inl rfl) (wq_some (rI_i ⟨rfl, (Or.inl rfl)⟩))
          · exact ih _ _ _ (by have := lt_i c1; have := ne_i c6; have := ne_i c16; have : (0 : Int32).toInt = 0 := rfl; have : (1 : Int32).toInt = 1 := rfl; have : (2 : Int32).toInt = 2 := rfl; have := bd_i v2; have := bd_i v3; have := bd_i y14; have := bd_i y4; have := bd_i v3; have := bd_i (1 : Int32); have : (v3 + (1 : Int32)).toInt = v3.toInt + (1 : Int32).toInt := ad_i (by omega) (by omega); have := bd_i v3; have := bd_i (2 : Int32); have : (v3 + (2 : Int32)).toInt = v3.toInt + (2 : Int32).toInt := ad_i (by omega) (by omega); omega) (by have := lt_i c1; have := ne_i c6; have := ne_i c16; have : (0 : Int32).toInt = 0 := rfl; have : (1 : Int32).toInt = 1 := rfl; have : (2 : Int32).toInt = 2 := rfl; have := bd_i v2; have := bd_i v3; have := bd_i y14; have := bd_i y4; have := bd_i v3; have := bd_i (1 : Int32); have : (v3 + (1 : Int32)).toInt = v3.toInt + (1 : Int32).toInt := ad_i (by omega) (by omega); have := bd_i v3; have := bd_i (2 : Int32); have : (v3 + (2 : Int32)).toInt = v3.toInt + (2 : Int32).toInt := ad_i (by omega) (by omega); omega) (by have := lt_i c1; have := ne_i c6; have := ne_i c16; have : (0 : Int32).toInt = 0 := rfl; have : (1 : Int32).toInt = 1 := rfl; have : (2 : Int32).toInt = 2 := rfl; have := bd_i v2; have := bd_i v3; have := bd_i y14; have := bd_i y4; have := bd_i v3; have := bd_i (1 : Int32); have : (v3 + (1 : Int32)).toInt = v3.toInt + (1 : Int32).toInt := ad_i (by omega) (by omega); have := bd_i v3; have := bd_i (2 : Int32); have : (v3 + (2 : Int32)).toInt = v3.toInt + (2 : Int32).toInt := ad_i (by omega) (by omega); omega)
      · refine wq_if _ (fun c17 => ?_) (fun c17 => ?_)
        · exact wq_t (Or.inl rfl) (wq_some (rI_i ⟨rfl, (Or.inl rfl)⟩))
        · refine wq_f (by decide) ?_
          refine wq_if _ (fun c18 => ?_) (fun c18 => ?_)
          · exact wq_t (Or.inr rfl) (wq_some (rI_i ⟨rfl, (Or.inr rfl)⟩))
          · obtain ⟨mk_19, nd_19, sg_19, e_19, tmk_19, tnd_19, tsg_19⟩ := o3 W t0
            refine wq_gR e_19 rfl ?_
            refine wk_at W tnd_19 rfl (fun _ => ?_)
            refine wq_cI (s_Nodes_kid W tnd_19) ?_
            rintro y22 h20 ⟨rfl, p23⟩
            refine wk_at W t0 rfl (fun _ => ?_)
            refine wq_cI (s_Looker_isStatements W t0) ?_
            rintro y26 h24 ⟨rfl, p27⟩
            refine wq_if _ (fun c28 => ?_) (fun c28 => ?_)
            · exact wq_t (Or.inl rfl) (wq_some (rI_i ⟨rfl, (Or.inl rfl)⟩))
            · exact wq_t (Or.inr rfl) (wq_some (rI_i ⟨rfl, (Or.inr rfl)⟩))
theorem s_Looker_isIf {d : Nat} {h : ah_H} {v0 : Nat} {v1 : Int32} {v2 : Int32} (W : cI K κ b h) (t0 : κ v0 = some (3, 0)) : wq (vc lim (d + 4) m_Looker_isIf [.inr (.inr (some v0)), .inl v1, .inl v2] h) (rI fun x h' => h' = h ∧ (x = 0 ∨ x = 1)) := by
  refine wq_eq e_Looker_isIf ?_
  exact l_171_2 W t0 _ _ _ _ (Nat.lt_succ_self _) (by have : (0 : Int32).toInt = 0 := rfl; omega) (by have : (0 : Int32).toInt = 0 := rfl; omega)
theorem s_Looker_isAssign {d : Nat} {h : ah_H} {v0 : Nat} {v1 : Int32} (W : cI K κ b h) (t0 : κ v0 = some (3, 0)) : wq (vc lim (d + 4) m_Looker_isAssign [.inr (.inr (some v0)), .inl v1] h) (rI fun x h' => h' = h ∧ (x = 0 ∨ x = 1)) := by
  refine wq_eq e_Looker_isAssign ?_
  obtain ⟨mk_1, nd_1, sg_1, e_1, tmk_1, tnd_1, tsg_1⟩ := o3 W t0
  refine wq_gR e_1 rfl ?_
  refine wk_at W tnd_1 rfl (fun _ => ?_)
  refine wq_cI (s_Nodes_givenOf W tnd_1) ?_
  rintro y4 h2 ⟨rfl, p5⟩
  refine wq_if _ (fun c6 => ?_) (fun c6 => ?_)
  · refine wq_eq q_170_19 ?_
    refine wq_cI (s_Looker_isWithin W) ?_
    rintro y9 h7 ⟨rfl, p10⟩
    refine wq_if _ (fun c11 => ?_) (fun c11 => ?_)
    · exact wq_t (Or.inl rfl) (wq_some (rI_i ⟨rfl, (Or.inl rfl)⟩))
    · refine wq_gR e_1 rfl ?_
      refine wk_at W tnd_1 rfl (fun _ => ?_)
      refine wq_cI (s_Nodes_kid W tnd_1) ?_
      rintro y14 h12 ⟨rfl, p15⟩
      refine wk_at W t0 rfl (fun _ => ?_)
      refine wq_cI (s_Looker_isTarget W t0) ?_
      rintro y18 h16 ⟨rfl, p19⟩
      refine wq_if _ (fun c20 => ?_) (fun c20 => ?_)
      · exact wq_t (Or.inl rfl) (wq_some (rI_i ⟨rfl, (Or.inl rfl)⟩))
      · refine wq_f (by decide) ?_
        refine wk_at W t0 rfl (fun _ => ?_)
        refine wq_cI (s_Looker_kidKind W t0) ?_
        rintro y23 h21 ⟨rfl, p24⟩
        refine wq_if _ (fun c25 => ?_) (fun c25 => ?_)
        · refine wq_eq q_170_63 ?_
          refine wq_gR e_1 rfl ?_
          refine wk_at W tnd_1 rfl (fun _ => ?_)
          refine wq_cI (s_Nodes_kidsOf W tnd_1) ?_
          rintro y28 h26 ⟨rfl, p29⟩
          refine wq_cI (s_Looker_isWithin W) ?_
          rintro y32 h30 ⟨rfl, p33⟩
          refine wq_if _ (fun c34 => ?_) (fun c34 => ?_)
          · exact wq_t (Or.inl rfl) (wq_some (rI_i ⟨rfl, (Or.inl rfl)⟩))
          · refine wk_at W t0 rfl (fun _ => ?_)
            refine wq_cI (s_Looker_areKids W t0) ?_
            rintro y37 h35 ⟨rfl, p38⟩
            refine wq_if _ (fun c39 => ?_) (fun c39 => ?_)
            · exact wq_t (Or.inl rfl) (wq_some (rI_i ⟨rfl, (Or.inl rfl)⟩))
            · exact wq_t (Or.inr rfl) (wq_some (rI_i ⟨rfl, (Or.inr rfl)⟩))
        · exact wq_t (Or.inl rfl) (wq_some (rI_i ⟨rfl, (Or.inl rfl)⟩))
  · refine wq_eq q_170_19 ?_
    refine wq_cI (s_Looker_isWithin W) ?_
    rintro y42 h40 ⟨rfl, p43⟩
    refine wq_if _ (fun c44 => ?_) (fun c44 => ?_)
    · exact wq_t (Or.inl rfl) (wq_some (rI_i ⟨rfl, (Or.inl rfl)⟩))
    · refine wq_gR e_1 rfl ?_
      refine wk_at W tnd_1 rfl (fun _ => ?_)
      refine wq_cI (s_Nodes_kid W tnd_1) ?_
      rintro y47 h45 ⟨rfl, p48⟩
      refine wk_at W t0 rfl (fun _ => ?_)
      refine wq_cI (s_Looker_isTarget W t0) ?_
      rintro y51 h49 ⟨rfl, p52⟩
      refine wq_if _ (fun c53 => ?_) (fun c53 => ?_)
      · exact wq_t (Or.inl rfl) (wq_some (rI_i ⟨rfl, (Or.inl rfl)⟩))
      · refine wq_t (by decide) ?_
        refine wq_eq q_170_63 ?_
        refine wq_gR e_1 rfl ?_
        refine wk_at W tnd_1 rfl (fun _ => ?_)
        refine wq_cI (s_Nodes_kidsOf W tnd_1) ?_
        rintro y56 h54 ⟨rfl, p57⟩
        refine wq_cI (s_Looker_isWithin W) ?_
        rintro y60 h58 ⟨rfl, p61⟩
        refine wq_if _ (fun c62 => ?_) (fun c62 => ?_)
        · exact wq_t (Or.inl rfl) (wq_some (rI_i ⟨rfl, (Or.inl rfl)⟩))
        · refine wk_at W t0 rfl (fun _ => ?_)
          refine wq_cI (s_Looker_areKids W t0) ?_
          rintro y65 h63 ⟨rfl, p66⟩
          refine wq_if _ (fun c67 => ?_) (fun c67 => ?_)
          · exact wq_t (Or.inl rfl) (wq_some (rI_i ⟨rfl, (Or.inl rfl)⟩))
          · exact wq_t (Or.inr rfl) (wq_some (rI_i ⟨rfl, (Or.inr rfl)⟩))
theorem s_Looker_isPart {d : Nat} {h : ah_H} {v0 : Nat} {v1 : Int32} (W : cI K κ b h) (t0 : κ v0 = some (3, 0)) : wq (vc lim (d + 3) m_Looker_isPart [.inr (.inr (some v0)), .inl v1] h) (rI fun x h' => h' = h ∧ (x = 0 ∨ x = 1)) := by
  refine wq_eq e_Looker_isPart ?_
  obtain ⟨mk_1, nd_1, sg_1, e_1, tmk_1, tnd_1, tsg_1⟩ := o3 W t0
  refine wq_gR e_1 rfl ?_
  refine wk_at W tnd_1 rfl (fun _ => ?_)
  refine wq_cI (s_Nodes_kid W tnd_1) ?_
  rintro y4 h2 ⟨rfl, p5⟩
  refine wk_at W t0 rfl (fun _ => ?_)
  refine wq_cR (s_Looker_thingOf W t0) ?_
  rintro r8 h6 ⟨rfl, p9⟩
  rcases r8 with _ | q10
  · refine wq_t rfl ?_
    exact wq_t (Or.inl rfl) (wq_some (rI_i ⟨rfl, (Or.inl rfl)⟩))
  · have t11 := p9 q10 rfl
    refine wq_f nofun ?_
    obtain ⟨i_12, l_12, lo_12, hi_12, nw_12, ls_12, ev_12, ac_12, e_12, tnw_12, tls_12⟩ := o7 W t11
    refine wq_gI e_12 rfl ?_
    refine wq_if _ (fun c13 => ?_) (fun c13 => ?_)
    · refine wk_at W t0 rfl (fun _ => ?_)
      refine wq_cI (s_Looker_kidKind W t0) ?_
      rintro y16 h14 ⟨rfl, p17⟩
      refine wq_if _ (fun c18 => ?_) (fun c18 => ?_)
      · refine wk_at W t0 rfl (fun _ => ?_)
        refine wq_cI (s_Looker_kidKind W t0) ?_
        rintro y21 h19 ⟨rfl, p22⟩
        refine wq_if _ (fun c23 => ?_) (fun c23 => ?_)
        · refine wq_gR e_1 rfl ?_
          refine wq_gR e_1 rfl ?_
          refine wk_at W tnd_1 rfl (fun _ => ?_)
          refine wq_cI (s_Nodes_kid W tnd_1) ?_
          rintro y26 h24 ⟨rfl, p27⟩
          refine wk_at W tnd_1 rfl (fun _ => ?_)
          refine wq_cI (s_Nodes_givenOf W tnd_1) ?_
          rintro y30 h28 ⟨rfl, p31⟩
          refine wq_gR e_1 rfl ?_
          refine wq_gR e_1 rfl ?_
          refine wk_at W tnd_1 rfl (fun _ => ?_)
          refine wq_cI (s_Nodes_kid W tnd_1) ?_
          rintro y34 h32 ⟨rfl, p35⟩
          refine wk_at W tnd_1 rfl (fun _ => ?_)
          refine wq_cI (s_Nodes_givenOf W tnd_1) ?_
          rintro y38 h36 ⟨rfl, p39⟩
          refine wq_if _ (fun c40 => ?_) (fun c40 => ?_)
          · exact wq_t (Or.inl rfl) (wq_some (rI_i ⟨rfl, (Or.inl rfl)⟩))
          · refine wq_if _ (fun c41 => ?_) (fun c41 => ?_)
            · exact wq_t (Or.inl rfl) (wq_some (rI_i ⟨rfl, (Or.inl rfl)⟩))
            · refine wq_gI e_12 rfl ?_
              refine wq_if _ (fun c42 => ?_) (fun c42 => ?_)
              · exact wq_t (Or.inr rfl) (wq_some (rI_i ⟨rfl, (Or.inr rfl)⟩))
              · exact wq_t (Or.inl rfl) (wq_some (rI_i ⟨rfl, (Or.inl rfl)⟩))
        · exact wq_t (Or.inl rfl) (wq_some (rI_i ⟨rfl, (Or.inl rfl)⟩))
      · exact wq_t (Or.inl rfl) (wq_some (rI_i ⟨rfl, (Or.inl rfl)⟩))
    · exact wq_t (Or.inl rfl) (wq_some (rI_i ⟨rfl, (Or.inl rfl)⟩))
theorem s_Looker_isFunction {d : Nat} {h : ah_H} {v0 : Nat} {v1 : Int32} {v2 : Int32} {v3 : Int32} (W : cI K κ b h) (t0 : κ v0 = some (3, 0)) : wq (vc lim (d + 4) m_Looker_isFunction [.inr (.inr (some v0)), .inl v1, .inl v2, .inl v3] h) (rI fun x h' => h' = h ∧ (x = 0 ∨ x = 1)) := by
  refine wq_eq e_Looker_isFunction ?_
  refine wq_if _ (fun c1 => ?_) (fun c1 => ?_)
  · refine wq_eq q_168_32 ?_
    refine wq_if _ (fun c2 => ?_) (fun c2 => ?_)
    · refine wk_at W t0 rfl (fun _ => ?_)
      refine wq_cI (s_Looker_kidKind W t0) ?_
      rintro y5 h3 ⟨rfl, p6⟩
      refine wq_if _ (fun c7 => ?_) (fun c7 => ?_)
      · obtain ⟨mk_8, nd_8, sg_8, e_8, tmk_8, tnd_8, tsg_8⟩ := o3 W t0
        refine wq_gR e_8 rfl ?_
        refine wk_at W tnd_8 rfl (fun _ => ?_)
        refine wq_cI (s_Nodes_kid W tnd_8) ?_
        rintro y11 h9 ⟨rfl, p12⟩
        refine wk_at W t0 rfl (fun _ => ?_)
        refine wq_cI (s_Looker_isThing W t0) ?_
        rintro y15 h13 ⟨rfl, p16⟩
        refine wq_if _ (fun c17 => ?_) (fun c17 => ?_)
        · exact wq_t (Or.inl rfl) (wq_some (rI_i ⟨rfl, (Or.inl rfl)⟩))
        · exact wq_t (Or.inr rfl) (wq_some (rI_i ⟨rfl, (Or.inr rfl)⟩))
      · exact wq_t (Or.inl rfl) (wq_some (rI_i ⟨rfl, (Or.inl rfl)⟩))
    · exact wq_t (Or.inl rfl) (wq_some (rI_i ⟨rfl, (Or.inl rfl)⟩))
  refine wq_if _ (fun c18 => ?_) (fun c18 => ?_)
  · refine wq_eq q_168_32 ?_
    refine wq_if _ (fun c19 => ?_) (fun c19 => ?_)
    · refine wk_at W t0 rfl (fun _ => ?_)
      refine wq_cI (s_Looker_kidKind W t0) ?_
      rintro y22 h20 ⟨rfl, p23⟩
      refine wq_if _ (fun c24 => ?_) (fun c24 => ?_)
      · obtain ⟨mk_25, nd_25, sg_25, e_25, tmk_25, tnd_25, tsg_25⟩ := o3 W t0
        refine wq_gR e_25 rfl ?_
        refine wk_at W tnd_25 rfl (fun _ => ?_)
        refine wq_cI (s_Nodes_kid W tnd_25) ?_
        rintro y28 h26 ⟨rfl, p29⟩
        refine wk_at W t0 rfl (fun _ => ?_)
        refine wq_cI (s_Looker_isThing W t0) ?_
        rintro y32 h30 ⟨rfl, p33⟩
        refine wq_if _ (fun c34 => ?_) (fun c34 => ?_)
        · exact wq_t (Or.inl rfl) (wq_some (rI_i ⟨rfl, (Or.inl rfl)⟩))
        · exact wq_t (Or.inr rfl) (wq_some (rI_i ⟨rfl, (Or.inr rfl)⟩))
      · exact wq_t (Or.inl rfl) (wq_some (rI_i ⟨rfl, (Or.inl rfl)⟩))
    · exact wq_t (Or.inl rfl) (wq_some (rI_i ⟨rfl, (Or.inl rfl)⟩))
  refine wq_if _ (fun c35 => ?_) (fun c35 => ?_)
  · refine wq_if _ (fun c36 => ?_) (fun c36 => ?_)
    · refine wk_at W t0 rfl (fun _ => ?_)
      refine wq_cI (s_Looker_isExpressionKid W t0) ?_
      rintro y39 h37 ⟨rfl, p40⟩
      refine wq_if _ (fun c41 => ?_) (fun c41 => ?_)
      · exact wq_t (Or.inl rfl) (wq_some (rI_i ⟨rfl, (Or.inl rfl)⟩))
      · exact wq_t (Or.inr rfl) (wq_some (rI_i ⟨rfl, (Or.inr rfl)⟩))
    · exact wq_t (Or.inl rfl) (wq_some (rI_i ⟨rfl, (Or.inl rfl)⟩))
  refine wq_if _ (fun c42 => ?_) (fun c42 => ?_)
  · refine wq_if _ (fun c43 => ?_) (fun c43 => ?_)
    · refine wk_at W t0 rfl (fun _ => ?_)
      refine wq_cI (s_Looker_isExpressionKid W t0) ?_
      rintro y46 h44 ⟨rfl, p47⟩
      refine wq_if _ (fun c48 => ?_) (fun c48 => ?_)
      · exact wq_t (Or.inl rfl) (wq_some (rI_i ⟨rfl, (Or.inl rfl)⟩))
      · refine wk_at W t0 rfl (fun _ => ?_)
        refine wq_cI (s_Looker_kidKind W t0) ?_
        rintro y51 h49 ⟨rfl, p52⟩
        refine wq_if _ (fun c53 => ?_) (fun c53 => ?_)
        · obtain ⟨mk_54, nd_54, sg_54, e_54, tmk_54, tnd_54, tsg_54⟩ := o3 W t0
          refine wq_gR e_54 rfl ?_
          refine wq_gR e_54 rfl ?_
          refine wk_at W tnd_54 rfl (fun _ => ?_)
          refine wq_cI (s_Nodes_kid W tnd_54) ?_
          rintro y57 h55 ⟨rfl, p58⟩
          refine wk_at W tnd_54 rfl (fun _ => ?_)
          refine wq_cI (s_Nodes_givenOf W tnd_54) ?_
          rintro y61 h59 ⟨rfl, p62⟩
          refine wq_cI (s_Looker_isWithin W) ?_
          rintro y65 h63 ⟨rfl, p66⟩
          refine wq_if _ (fun c67 => ?_) (fun c67 => ?_)
          · exact wq_t (Or.inl rfl) (wq_some (rI_i ⟨rfl, (Or.inl rfl)⟩))
          · exact wq_t (Or.inr rfl) (wq_some (rI_i ⟨rfl, (Or.inr rfl)⟩))
        · exact wq_t (Or.inl rfl) (wq_some (rI_i ⟨rfl, (Or.inl rfl)⟩))
    · exact wq_t (Or.inl rfl) (wq_some (rI_i ⟨rfl, (Or.inl rfl)⟩))
  exact wq_t (Or.inl rfl) (wq_some (rI_i ⟨rfl, (Or.inl rfl)⟩))
theorem s_Looker_isRightStatement {d : Nat} {h : ah_H} {v0 : Nat} {v1 : Int32} {v2 : Int32} {v3 : Int32} (W : cI K κ b h) (t0 : κ v0 = some (3, 0)) : wq (vc lim (d + 5) m_Looker_isRightStatement [.inr (.inr (some v0)), .inl v1, .inl v2, .inl v3] h) (rI fun x h' => h' = h ∧ (x = 0 ∨ x = 1)) := by
  refine wq_eq e_Looker_isRightStatement ?_
  refine wq_if _ (fun c1 => ?_) (fun c1 => ?_)
  · refine wq_if _ (fun c2 => ?_) (fun c2 => ?_)
    · exact wq_t (Or.inr rfl) (wq_some (rI_i ⟨rfl, (Or.inr rfl)⟩))
    · exact wq_t (Or.inl rfl) (wq_some (rI_i ⟨rfl, (Or.inl rfl)⟩))
  refine wq_if _ (fun c3 => ?_) (fun c3 => ?_)
  · refine wq_eq q_167_638 ?_
    exact wq_t (Or.inl rfl) (wq_some (rI_i ⟨rfl, (Or.inl rfl)⟩))
  refine wq_if _ (fun c4 => ?_) (fun c4 => ?_)
  · refine wq_eq q_167_638 ?_
    exact wq_t (Or.inl rfl) (wq_some (rI_i ⟨rfl, (Or.inl rfl)⟩))
  refine wq_if _ (fun c5 => ?_) (fun c5 => ?_)
  · refine wq_eq q_167_638 ?_
    exact wq_t (Or.inl rfl) (wq_some (rI_i ⟨rfl, (Or.inl rfl)⟩))
  refine wq_if _ (fun c6 => ?_) (fun c6 => ?_)
  · refine wq_eq q_167_638 ?_
    exact wq_t (Or.inl rfl) (wq_some (rI_i ⟨rfl, (Or.inl rfl)⟩))
  refine wq_if _ (fun c7 => ?_) (fun c7 => ?_)
  · refine wq_eq q_167_638 ?_
    exact wq_t (Or.inl rfl) (wq_some (rI_i ⟨rfl, (Or.inl rfl)⟩))
  refine wq_if _ (fun c8 => ?_) (fun c8 => ?_)
  · refine wq_eq q_167_638 ?_
    exact wq_t (Or.inl rfl) (wq_some (rI_i ⟨rfl, (Or.inl rfl)⟩))
  refine wq_if _ (fun c9 => ?_) (fun c9 => ?_)
  · refine wq_eq q_167_638 ?_
    exact wq_t (Or.inl rfl) (wq_some (rI_i ⟨rfl, (Or.inl rfl)⟩))
  refine wq_if _ (fun c10 => ?_) (fun c10 => ?_)
  · refine wq_eq q_167_638 ?_
    exact wq_t (Or.inl rfl) (wq_some (rI_i ⟨rfl, (Or.inl rfl)⟩))
  refine wq_if _ (fun c11 => ?_) (fun c11 => ?_)
  · refine wq_eq q_167_638 ?_
    exact wq_t (Or.inl rfl) (wq_some (rI_i ⟨rfl, (Or.inl rfl)⟩))
  refine wq_if _ (fun c12 => ?_) (fun c12 => ?_)
  · refine wq_eq q_167_638 ?_
    exact wq_t (Or.inl rfl) (wq_some (rI_i ⟨rfl, (Or.inl rfl)⟩))
  refine wq_if _ (fun c13 => ?_) (fun c13 => ?_)
  · refine wq_eq q_167_638 ?_
    exact wq_t (Or.inl rfl) (wq_some (rI_i ⟨rfl, (Or.inl rfl)⟩))
  refine wq_if _ (fun c14 => ?_) (fun c14 => ?_)
  · refine wq_eq q_167_638 ?_
    exact wq_t (Or.inl rfl) (wq_some (rI_i ⟨rfl, (Or.inl rfl)⟩))
  refine wq_if _ (fun c15 => ?_) (fun c15 => ?_)
  · refine wq_eq q_167_638 ?_
    exact wq_t (Or.inl rfl) (wq_some (rI_i ⟨rfl, (Or.inl rfl)⟩))
  refine wq_if _ (fun c16 => ?_) (fun c16 => ?_)
  · refine wq_eq q_167_638 ?_
    exact wq_t (Or.inl rfl) (wq_some (rI_i ⟨rfl, (Or.inl rfl)⟩))
  refine wq_if _ (fun c17 => ?_) (fun c17 => ?_)
  · refine wq_eq q_167_638 ?_
    exact wq_t (Or.inl rfl) (wq_some (rI_i ⟨rfl, (Or.inl rfl)⟩))
  refine wq_if _ (fun c18 => ?_) (fun c18 => ?_)
  · refine wq_eq q_167_638 ?_
    exact wq_t (Or.inl rfl) (wq_some (rI_i ⟨rfl, (Or.inl rfl)⟩))
  refine wq_if _ (fun c19 => ?_) (fun c19 => ?_)
  · refine wq_eq q_167_638 ?_
    exact wq_t (Or.inl rfl) (wq_some (rI_i ⟨rfl, (Or.inl rfl)⟩))
  refine wq_if _ (fun c20 => ?_) (fun c20 => ?_)
  · refine wq_eq q_167_638 ?_
    exact wq_t (Or.inl rfl) (wq_some (rI_i ⟨rfl, (Or.inl rfl)⟩))
  refine wq_if _ (fun c21 => ?_) (fun c21 => ?_)
  · refine wq_eq q_167_638 ?_
    exact wq_t (Or.inl rfl) (wq_some (rI_i ⟨rfl, (Or.inl rfl)⟩))
  refine wq_if _ (fun c22 => ?_) (fun c22 => ?_)
  · refine wq_eq q_167_638 ?_
    exact wq_t (Or.inl rfl) (wq_some (rI_i ⟨rfl, (Or.inl rfl)⟩))
  refine wq_if _ (fun c23 => ?_) (fun c23 => ?_)
  · refine wq_eq q_167_638 ?_
    exact wq_t (Or.inl rfl) (wq_some (rI_i ⟨rfl, (Or.inl rfl)⟩))
  refine wq_if _ (fun c24 => ?_) (fun c24 => ?_)
  · refine wq_eq q_167_638 ?_
    exact wq_t (Or.inl rfl) (wq_some (rI_i ⟨rfl, (Or.inl rfl)⟩))
  refine wq_if _ (fun c25 => ?_) (fun c25 => ?_)
  · refine wq_eq q_167_638 ?_
    exact wq_t (Or.inl rfl) (wq_some (rI_i ⟨rfl, (Or.inl rfl)⟩))
  refine wq_if _ (fun c26 => ?_) (fun c26 => ?_)
  · refine wq_eq q_167_638 ?_
    exact wq_t (Or.inl rfl) (wq_some (rI_i ⟨rfl, (Or.inl rfl)⟩))
  refine wq_if _ (fun c27 => ?_) (fun c27 => ?_)
  · refine wq_eq q_167_638 ?_
    exact wq_t (Or.inl rfl) (wq_some (rI_i ⟨rfl, (Or.inl rfl)⟩))
  refine wq_if _ (fun c28 => ?_) (fun c28 => ?_)
  · refine wq_eq q_167_638 ?_
    exact wq_t (Or.inl rfl) (wq_some (rI_i ⟨rfl, (Or.inl rfl)⟩))
  refine wq_if _ (fun c29 => ?_) (fun c29 => ?_)
  · refine wq_eq q_167_638 ?_
    exact wq_t (Or.inl rfl) (wq_some (rI_i ⟨rfl, (Or.inl rfl)⟩))
  refine wq_if _ (fun c30 => ?_) (fun c30 => ?_)
  · refine wq_eq q_167_638 ?_
    exact wq_t (Or.inl rfl) (wq_some (rI_i ⟨rfl, (Or.inl rfl)⟩))
  refine wq_if _ (fun c31 => ?_) (fun c31 => ?_)
  · refine wq_eq q_167_638 ?_
    exact wq_t (Or.inl rfl) (wq_some (rI_i ⟨rfl, (Or.inl rfl)⟩))
  refine wq_if _ (fun c32 => ?_) (fun c32 => ?_)
  · refine wq_eq q_167_638 ?_
    exact wq_t (Or.inl rfl) (wq_some (rI_i ⟨rfl, (Or.inl rfl)⟩))
  refine wq_if _ (fun c33 => ?_) (fun c33 => ?_)
  · refine wq_if _ (fun c34 => ?_) (fun c34 => ?_)
    · refine wk_at W t0 rfl (fun _ => ?_)
      refine wq_cI (s_Looker_isExpressionKid W t0) ?_
      rintro y37 h35 ⟨rfl, p38⟩
      refine wq_if _ (fun c39 => ?_) (fun c39 => ?_)
      · exact wq_t (Or.inl rfl) (wq_some (rI_i ⟨rfl, (Or.inl rfl)⟩))
      · refine wk_at W t0 rfl (fun _ => ?_)
        refine wq_cI (s_Looker_isKidOrNothing W t0) ?_
        rintro y42 h40 ⟨rfl, p43⟩
        refine wq_if _ (fun c44 => ?_) (fun c44 => ?_)
        · exact wq_t (Or.inl rfl) (wq_some (rI_i ⟨rfl, (Or.inl rfl)⟩))
        · exact wq_t (Or.inr rfl) (wq_some (rI_i ⟨rfl, (Or.inr rfl)⟩))
    · exact wq_t (Or.inl rfl) (wq_some (rI_i ⟨rfl, (Or.inl rfl)⟩))
  refine wq_if _ (fun c45 => ?_) (fun c45 => ?_)
  · refine wq_eq q_167_638 ?_
    exact wq_t (Or.inl rfl) (wq_some (rI_i ⟨rfl, (Or.inl rfl)⟩))
  refine wq_if _ (fun c46 => ?_) (fun c46 => ?_)
  · refine wq_if _ (fun c47 => ?_) (fun c47 => ?_)
    · obtain ⟨mk_48, nd_48, sg_48, e_48, tmk_48, tnd_48, tsg_48⟩ := o3 W t0
      refine wq_gR e_48 rfl ?_
      refine wk_at W tnd_48 rfl (fun _ => ?_)
      refine wq_cI (s_Nodes_kid W tnd_48) ?_
      rintro y51 h49 ⟨rfl, p52⟩
      refine wk_at W t0 rfl (fun _ => ?_)
      refine wq_cI (s_Looker_isTarget W t0) ?_
      rintro y55 h53 ⟨rfl, p56⟩
      refine wq_if _ (fun c57 => ?_) (fun c57 => ?_)
      · exact wq_t (Or.inl rfl) (wq_some (rI_i ⟨rfl, (Or.inl rfl)⟩))
      · refine wk_at W t0 rfl (fun _ => ?_)
        refine wq_cI (s_Looker_isExpressionKid W t0) ?_
        rintro y60 h58 ⟨rfl, p61⟩
        refine wq_if _ (fun c62 => ?_) (fun c62 => ?_)
        · exact wq_t (Or.inl rfl) (wq_some (rI_i ⟨rfl, (Or.inl rfl)⟩))
        · exact wq_t (Or.inr rfl) (wq_some (rI_i ⟨rfl, (Or.inr rfl)⟩))
    · exact wq_t (Or.inl rfl) (wq_some (rI_i ⟨rfl, (Or.inl rfl)⟩))
  refine wq_if _ (fun c63 => ?_) (fun c63 => ?_)
  · refine wk_at W t0 rfl (fun _ => ?_)
    refine wq_cI (s_Looker_isIf W t0) ?_
    rintro y66 h64 ⟨rfl, p67⟩
    exact wq_t p67 (wq_some (rI_i ⟨rfl, p67⟩))
  refine wq_if _ (fun c68 => ?_) (fun c68 => ?_)
  · refine wq_if _ (fun c69 => ?_) (fun c69 => ?_)
    · exact wq_t (Or.inl rfl) (wq_some (rI_i ⟨rfl, (Or.inl rfl)⟩))
    · refine wk_at W t0 rfl (fun _ => ?_)
      refine wq_cI (s_Looker_isExpressionKid W t0) ?_
      rintro y72 h70 ⟨rfl, p73⟩
      refine wq_if _ (fun c74 => ?_) (fun c74 => ?_)
      · exact wq_t (Or.inl rfl) (wq_some (rI_i ⟨rfl, (Or.inl rfl)⟩))
      · refine wk_at W t0 rfl (fun _ => ?_)
        refine wq_cI (s_Looker_areKids W t0) ?_
        rintro y77 h75 ⟨rfl, p78⟩
        refine wq_if _ (fun c79 => ?_) (fun c79 => ?_)
        · exact wq_t (Or.inl rfl) (wq_some (rI_i ⟨rfl, (Or.inl rfl)⟩))
        · exact wq_t (Or.inr rfl) (wq_some (rI_i ⟨rfl, (Or.inr rfl)⟩))
  refine wq_if _ (fun c80 => ?_) (fun c80 => ?_)
  · refine wq_if _ (fun c81 => ?_) (fun c81 => ?_)
    · obtain ⟨mk_82, nd_82, sg_82, e_82, tmk_82, tnd_82, tsg_82⟩ := o3 W t0
      refine wq_gR e_82 rfl ?_
      refine wk_at W tnd_82 rfl (fun _ => ?_)
      refine wq_cI (s_Nodes_kid W tnd_82) ?_
      rintro y85 h83 ⟨rfl, p86⟩
      refine wk_at W t0 rfl (fun _ => ?_)
      refine wq_cI (s_Looker_areChoices W t0) ?_
      rintro y89 h87 ⟨rfl, p90⟩
      refine wq_if _ (fun c91 => ?_) (fun c91 => ?_)
      · exact wq_t (Or.inl rfl) (wq_some (rI_i ⟨rfl, (Or.inl rfl)⟩))
      · refine wq_gR e_82 rfl ?_
        refine wk_at W tnd_82 rfl (fun _ => ?_)
        refine wq_cI (s_Nodes_kid W tnd_82) ?_
        rintro y94 h92 ⟨rfl, p95⟩
        refine wk_at W t0 rfl (fun _ => ?_)
        refine wq_cI (s_Looker_isStatements W t0) ?_
        rintro y98 h96 ⟨rfl, p99⟩
        refine wq_if _ (fun c100 => ?_) (fun c100 => ?_)
        · exact wq_t (Or.inl rfl) (wq_some (rI_i ⟨rfl, (Or.inl rfl)⟩))
        · exact wq_t (Or.inr rfl) (wq_some (rI_i ⟨rfl, (Or.inr rfl)⟩))
    · exact wq_t (Or.inl rfl) (wq_some (rI_i ⟨rfl, (Or.inl rfl)⟩))
  refine wq_if _ (fun c101 => ?_) (fun c101 => ?_)
  · refine wq_if _ (fun c102 => ?_) (fun c102 => ?_)
    · exact wq_t (Or.inr rfl) (wq_some (rI_i ⟨rfl, (Or.inr rfl)⟩))
    · exact wq_t (Or.inl rfl) (wq_some (rI_i ⟨rfl, (Or.inl rfl)⟩))
  refine wq_if _ (fun c103 => ?_) (fun c103 => ?_)
  · refine wq_eq q_167_374 ?_
    refine wq_if _ (fun c104 => ?_) (fun c104 => ?_)
    · refine wk_at W t0 rfl (fun _ => ?_)
      refine wq_cI (s_Looker_kidKind W t0) ?_
      rintro y107 h105 ⟨rfl, p108⟩
      refine wq_if _ (fun c109 => ?_) (fun c109 => ?_)
      · obtain ⟨mk_110, nd_110, sg_110, e_110, tmk_110, tnd_110, tsg_110⟩ := o3 W t0
        refine wq_gR e_110 rfl ?_
        refine wk_at W tnd_110 rfl (fun _ => ?_)
        refine wq_cI (s_Nodes_kid W tnd_110) ?_
        rintro y113 h111 ⟨rfl, p114⟩
        refine wk_at W t0 rfl (fun _ => ?_)
        refine wq_cI (s_Looker_isThing W t0) ?_
        rintro y117 h115 ⟨rfl, p118⟩
        refine wq_if _ (fun c119 => ?_) (fun c119 => ?_)
        · exact wq_t (Or.inl rfl) (wq_some (rI_i ⟨rfl, (Or.inl rfl)⟩))
        · refine wk_at W t0 rfl (fun _ => ?_)
          refine wq_cI (s_Looker_isExpressionKid W t0) ?_
          rintro y122 h120 ⟨rfl, p123⟩
          refine wq_if _ (fun c124 => ?_) (fun c124 => ?_)
          · exact wq_t (Or.inl rfl) (wq_some (rI_i ⟨rfl, (Or.inl rfl)⟩))
          · refine wk_at W t0 rfl (fun _ => ?_)
            refine wq_cI (s_Looker_isExpressionKid W t0) ?_
            rintro y127 h125 ⟨rfl, p128⟩
            refine wq_if _ (fun c129 => ?_) (fun c129 => ?_)
            · exact wq_t (Or.inl rfl) (wq_some (rI_i ⟨rfl, (Or.inl rfl)⟩))
            · refine wq_gR e_110 rfl ?_
              refine wk_at W tnd_110 rfl (fun _ => ?_)
              refine wq_cI (s_Nodes_kid W tnd_110) ?_
              rintro y132 h130 ⟨rfl, p133⟩
              refine wk_at W t0 rfl (fun _ => ?_)
              refine wq_cI (s_Looker_isStatements W t0) ?_
              rintro y136 h134 ⟨rfl, p137⟩
              refine wq_if _ (fun c138 => ?_) (fun c138 => ?_)
              · exact wq_t (Or.inl rfl) (wq_some (rI_i ⟨rfl, (Or.inl rfl)⟩))
              · exact wq_t (Or.inr rfl) (wq_some (rI_i ⟨rfl, (Or.inr rfl)⟩))
      · exact wq_t (Or.inl rfl) (wq_some (rI_i ⟨rfl, (Or.inl rfl)⟩))
    · exact wq_t (Or.inl rfl) (wq_some (rI_i ⟨rfl, (Or.inl rfl)⟩))
  refine wq_if _ (fun c139 => ?_) (fun c139 => ?_)
  · refine wq_eq q_167_374 ?_
    refine wq_if _ (fun c140 => ?_) (fun c140 => ?_)
    · refine wk_at W t0 rfl (fun _ => ?_)
      refine wq_cI (s_Looker_kidKind W t0) ?_
      rintro y143 h141 ⟨rfl, p144⟩
      refine wq_if _ (fun c145 => ?_) (fun c145 => ?_)
      · obtain ⟨mk_146, nd_146, sg_146, e_146, tmk_146, tnd_146, tsg_146⟩ := o3 W t0
        refine wq_gR e_146 rfl ?_
        refine wk_at W tnd_146 rfl (fun _ => ?_)
        refine wq_cI (s_Nodes_kid W tnd_146) ?_
        rintro y149 h147 ⟨rfl, p150⟩
        refine wk_at W t0 rfl (fun _ => ?_)
        refine wq_cI (s_Looker_isThing W t0) ?_
        rintro y153 h151 ⟨rfl, p154⟩
        refine wq_if _ (fun c155 => ?_) (fun c155 => ?_)
        · exact wq_t (Or.inl rfl) (wq_some (rI_i ⟨rfl, (Or.inl rfl)⟩))
        · refine wk_at W t0 rfl (fun _ => ?_)
          refine wq_cI (s_Looker_isExpressionKid W t0) ?_
          rintro y158 h156 ⟨rfl, p159⟩
          refine wq_if _ (fun c160 => ?_) (fun c160 => ?_)
          · exact wq_t (Or.inl rfl) (wq_some (rI_i ⟨rfl, (Or.inl rfl)⟩))
          · refine wk_at W t0 rfl (fun _ => ?_)
            refine wq_cI (s_Looker_isExpressionKid W t0) ?_
            rintro y163 h161 ⟨rfl, p164⟩
            refine wq_if _ (fun c165 => ?_) (fun c165 => ?_)
            · exact wq_t (Or.inl rfl) (wq_some (rI_i ⟨rfl, (Or.inl rfl)⟩))
            · refine wq_gR e_146 rfl ?_
              refine wk_at W tnd_146 rfl (fun _ => ?_)
              refine wq_cI (s_Nodes_kid W tnd_146) ?_
              rintro y168 h166 ⟨rfl, p169⟩
              refine wk_at W t0 rfl (fun _ => ?_)
              refine wq_cI (s_Looker_isStatements W t0) ?_
              rintro y172 h170 ⟨rfl, p173⟩
              refine wq_if _ (fun c174 => ?_) (fun c174 => ?_)
              · exact wq_t (Or.inl rfl) (wq_some (rI_i ⟨rfl, (Or.inl rfl)⟩))
              · exact wq_t (Or.inr rfl) (wq_some (rI_i ⟨rfl, (Or.inr rfl)⟩))
      · exact wq_t (Or.inl rfl) (wq_some (rI_i ⟨rfl, (Or.inl rfl)⟩))
    · exact wq_t (Or.inl rfl) (wq_some (rI_i ⟨rfl, (Or.inl rfl)⟩))
  refine wq_if _ (fun c175 => ?_) (fun c175 => ?_)
  · refine wq_if _ (fun c176 => ?_) (fun c176 => ?_)
    · refine wk_at W t0 rfl (fun _ => ?_)
      refine wq_cI (s_Looker_isExpressionKid W t0) ?_
      rintro y179 h177 ⟨rfl, p180⟩
      refine wq_if _ (fun c181 => ?_) (fun c181 => ?_)
      · exact wq_t (Or.inl rfl) (wq_some (rI_i ⟨rfl, (Or.inl rfl)⟩))
      · obtain ⟨mk_182, nd_182, sg_182, e_182, tmk_182, tnd_182, tsg_182⟩ := o3 W t0
        refine wq_gR e_182 rfl ?_
        refine wk_at W tnd_182 rfl (fun _ => ?_)
        refine wq_cI (s_Nodes_kid W tnd_182) ?_
        rintro y185 h183 ⟨rfl, p186⟩
        refine wk_at W t0 rfl (fun _ => ?_)
        refine wq_cI (s_Looker_isStatements W t0) ?_
        rintro y189 h187 ⟨rfl, p190⟩
        refine wq_if _ (fun c191 => ?_) (fun c191 => ?_)
        · exact wq_t (Or.inl rfl) (wq_some (rI_i ⟨rfl, (Or.inl rfl)⟩))
        · exact wq_t (Or.inr rfl) (wq_some (rI_i ⟨rfl, (Or.inr rfl)⟩))
    · exact wq_t (Or.inl rfl) (wq_some (rI_i ⟨rfl, (Or.inl rfl)⟩))
  refine wq_if _ (fun c192 => ?_) (fun c192 => ?_)
  · refine wq_if _ (fun c193 => ?_) (fun c193 => ?_)
    · obtain ⟨mk_194, nd_194, sg_194, e_194, tmk_194, tnd_194, tsg_194⟩ := o3 W t0
      refine wq_gR e_194 rfl ?_
      refine wk_at W tnd_194 rfl (fun _ => ?_)
      refine wq_cI (s_Nodes_kid W tnd_194) ?_
      rintro y197 h195 ⟨rfl, p198⟩
      refine wk_at W t0 rfl (fun _ => ?_)
      refine wq_cI (s_Looker_isStatements W t0) ?_
      rintro y201 h199 ⟨rfl, p202⟩
      refine wq_if _ (fun c203 => ?_) (fun c203 => ?_)
      · exact wq_t (Or.inl rfl) (wq_some (rI_i ⟨rfl, (Or.inl rfl)⟩))
      · exact wq_t (Or.inr rfl) (wq_some (rI_i ⟨rfl, (Or.inr rfl)⟩))
    · exact wq_t (Or.inl rfl) (wq_some (rI_i ⟨rfl, (Or.inl rfl)⟩))
  refine wq_if _ (fun c204 => ?_) (fun c204 => ?_)
  · refine wq_eq q_167_510 ?_
    refine wq_if _ (fun c205 => ?_) (fun c205 => ?_)
    · refine wk_at W t0 rfl (fun _ => ?_)
      refine wq_cI (s_Looker_isExpressionOrNothing W t0) ?_
      rintro y208 h206 ⟨rfl, p209⟩
      refine wq_if _ (fun c210 => ?_) (fun c210 => ?_)
      · exact wq_t (Or.inl rfl) (wq_some (rI_i ⟨rfl, (Or.inl rfl)⟩))
      · obtain ⟨mk_211, nd_211, sg_211, e_211, tmk_211, tnd_211, tsg_211⟩ := o3 W t0
        refine wq_gR e_211 rfl ?_
        refine wk_at W tnd_211 rfl (fun _ => ?_)
        refine wq_cI (s_Nodes_loopOf W tnd_211) ?_
        rintro y214 h212 ⟨rfl, p215⟩
        refine wq_if _ (fun c216 => ?_) (fun c216 => ?_)
        · exact wq_t (Or.inl rfl) (wq_some (rI_i ⟨rfl, (Or.inl rfl)⟩))
        · exact wq_t (Or.inr rfl) (wq_some (rI_i ⟨rfl, (Or.inr rfl)⟩))
    · exact wq_t (Or.inl rfl) (wq_some (rI_i ⟨rfl, (Or.inl rfl)⟩))
  refine wq_if _ (fun c217 => ?_) (fun c217 => ?_)
  · refine wq_eq q_167_510 ?_
    refine wq_if _ (fun c218 => ?_) (fun c218 => ?_)
    · refine wk_at W t0 rfl (fun _ => ?_)
      refine wq_cI (s_Looker_isExpressionOrNothing W t0) ?_
      rintro y221 h219 ⟨rfl, p222⟩
      refine wq_if _ (fun c223 => ?_) (fun c223 => ?_)
      · exact wq_t (Or.inl rfl) (wq_some (rI_i ⟨rfl, (Or.inl rfl)⟩))
      · obtain ⟨mk_224, nd_224, sg_224, e_224, tmk_224, tnd_224, tsg_224⟩ := o3 W t0
        refine wq_gR e_224 rfl ?_
        refine wk_at W tnd_224 rfl (fun _ => ?_)
        refine wq_cI (s_Nodes_loopOf W tnd_224) ?_
        rintro y227 h225 ⟨rfl, p228⟩
        refine wq_if _ (fun c229 => ?_) (fun c229 => ?_)
        · exact wq_t (Or.inl rfl) (wq_some (rI_i ⟨rfl, (Or.inl rfl)⟩))
        · exact wq_t (Or.inr rfl) (wq_some (rI_i ⟨rfl, (Or.inr rfl)⟩))
    · exact wq_t (Or.inl rfl) (wq_some (rI_i ⟨rfl, (Or.inl rfl)⟩))
  refine wq_if _ (fun c230 => ?_) (fun c230 => ?_)
  · refine wq_if _ (fun c231 => ?_) (fun c231 => ?_)
    · obtain ⟨mk_232, nd_232, sg_232, e_232, tmk_232, tnd_232, tsg_232⟩ := o3 W t0
      refine wq_gR e_232 rfl ?_
      refine wk_at W tnd_232 rfl (fun _ => ?_)
      refine wq_cI (s_Nodes_kid W tnd_232) ?_
      rintro y235 h233 ⟨rfl, p236⟩
      refine wk_at W t0 rfl (fun _ => ?_)
      refine wq_cI (s_Looker_isSignals W t0) ?_
      rintro y239 h237 ⟨rfl, p240⟩
      refine wq_if _ (fun c241 => ?_) (fun c241 => ?_)
      · exact wq_t (Or.inl rfl) (wq_some (rI_i ⟨rfl, (Or.inl rfl)⟩))
      · refine wk_at W t0 rfl (fun _ => ?_)
        refine wq_cI (s_Looker_isExpressionOrNothing W t0) ?_
        rintro y244 h242 ⟨rfl, p245⟩
        refine wq_if _ (fun c246 => ?_) (fun c246 => ?_)
        · exact wq_t (Or.inl rfl) (wq_some (rI_i ⟨rfl, (Or.inl rfl)⟩))
        · refine wk_at W t0 rfl (fun _ => ?_)
          refine wq_cI (s_Looker_isKidOrNothing W t0) ?_
          rintro y249 h247 ⟨rfl, p250⟩
          refine wq_if _ (fun c251 => ?_) (fun c251 => ?_)
          · exact wq_t (Or.inl rfl) (wq_some (rI_i ⟨rfl, (Or.inl rfl)⟩))
          · exact wq_t (Or.inr rfl) (wq_some (rI_i ⟨rfl, (Or.inr rfl)⟩))
    · exact wq_t (Or.inl rfl) (wq_some (rI_i ⟨rfl, (Or.inl rfl)⟩))
  refine wq_if _ (fun c252 => ?_) (fun c252 => ?_)
  · refine wq_if _ (fun c253 => ?_) (fun c253 => ?_)
    · exact wq_t (Or.inr rfl) (wq_some (rI_i ⟨rfl, (Or.inr rfl)⟩))
    · exact wq_t (Or.inl rfl) (wq_some (rI_i ⟨rfl, (Or.inl rfl)⟩))
  refine wq_if _ (fun c254 => ?_) (fun c254 => ?_)
  · refine wq_if _ (fun c255 => ?_) (fun c255 => ?_)
    · refine wk_at W t0 rfl (fun _ => ?_)
      refine wq_cI (s_Looker_isExpressionKid W t0) ?_
      rintro y258 h256 ⟨rfl, p259⟩
      refine wq_if _ (fun c260 => ?_) (fun c260 => ?_)
      · exact wq_t (Or.inl rfl) (wq_some (rI_i ⟨rfl, (Or.inl rfl)⟩))
      · exact wq_t (Or.inr rfl) (wq_some (rI_i ⟨rfl, (Or.inr rfl)⟩))
    · exact wq_t (Or.inl rfl) (wq_some (rI_i ⟨rfl, (Or.inl rfl)⟩))
  refine wq_if _ (fun c261 => ?_) (fun c261 => ?_)
  · refine wq_if _ (fun c262 => ?_) (fun c262 => ?_)
    · refine wk_at W t0 rfl (fun _ => ?_)
      refine wq_cI (s_Looker_isExpressionKid W t0) ?_
      rintro y265 h263 ⟨rfl, p266⟩
      refine wq_if _ (fun c267 => ?_) (fun c267 => ?_)
      · exact wq_t (Or.inl rfl) (wq_some (rI_i ⟨rfl, (Or.inl rfl)⟩))
      · refine wk_at W t0 rfl (fun _ => ?_)
        refine wq_cI (s_Looker_isExpressionKid W t0) ?_
        rintro y270 h268 ⟨rfl, p271⟩
        refine wq_if _ (fun c272 => ?_) (fun c272 => ?_)
        · exact wq_t (Or.inl rfl) (wq_some (rI_i ⟨rfl, (Or.inl rfl)⟩))
        · exact wq_t (Or.inr rfl) (wq_some (rI_i ⟨rfl, (Or.inr rfl)⟩))
    · exact wq_t (Or.inl rfl) (wq_some (rI_i ⟨rfl, (Or.inl rfl)⟩))
  refine wq_if _ (fun c273 => ?_) (fun c273 => ?_)
  · exact wq_t (Or.inr rfl) (wq_some (rI_i ⟨rfl, (Or.inr rfl)⟩))
  refine wq_eq q_167_638 ?_
  exact wq_t (Or.inl rfl) (wq_some (rI_i ⟨rfl, (Or.inl rfl)⟩))
theorem s_Looker_isRightExpression {d : Nat} {h : ah_H} {v0 : Nat} {v1 : Int32} {v2 : Int32} {v3 : Int32} {v4 : Int32} (W : cI K κ b h) (t0 : κ v0 = some (3, 0)) : wq (vc lim (d + 5) m_Looker_isRightExpression [.inr (.inr (some v0)), .inl v1, .inl v2, .inl v3, .inl v4] h) (rI fun x h' => h' = h ∧ (x = 0 ∨ x = 1)) := by
  refine wq_eq e_Looker_isRightExpression ?_
  refine wq_if _ (fun c1 => ?_) (fun c1 => ?_)
  · refine wq_if _ (fun c2 => ?_) (fun c2 => ?_)
    · refine wq_if _ (fun c3 => ?_) (fun c3 => ?_)
      · exact wq_t (Or.inl rfl) (wq_some (rI_i ⟨rfl, (Or.inl rfl)⟩))
      · exact wq_t (Or.inr rfl) (wq_some (rI_i ⟨rfl, (Or.inr rfl)⟩))
    · exact wq_t (Or.inl rfl) (wq_some (rI_i ⟨rfl, (Or.inl rfl)⟩))
  refine wq_if _ (fun c4 => ?_) (fun c4 => ?_)
  · refine wq_if _ (fun c5 => ?_) (fun c5 => ?_)
    · refine wq_cI (s_Looker_isWithin W) ?_
      rintro y8 h6 ⟨rfl, p9⟩
      refine wq_if _ (fun c10 => ?_) (fun c10 => ?_)
      · exact wq_t (Or.inl rfl) (wq_some (rI_i ⟨rfl, (Or.inl rfl)⟩))
      · exact wq_t (Or.inr rfl) (wq_some (rI_i ⟨rfl, (Or.inr rfl)⟩))
    · exact wq_t (Or.inl rfl) (wq_some (rI_i ⟨rfl, (Or.inl rfl)⟩))
  refine wq_if _ (fun c11 => ?_) (fun c11 => ?_)
  · refine wq_if _ (fun c12 => ?_) (fun c12 => ?_)
    · refine wq_cI (s_Looker_isWithin W) ?_
      rintro y15 h13 ⟨rfl, p16⟩
      refine wq_if _ (fun c17 => ?_) (fun c17 => ?_)
      · exact wq_t (Or.inl rfl) (wq_some (rI_i ⟨rfl, (Or.inl rfl)⟩))
      · refine wk_at W t0 rfl (fun _ => ?_)
        refine wq_cI (s_Looker_areKids W t0) ?_
        rintro y20 h18 ⟨rfl, p21⟩
        refine wq_if _ (fun c22 => ?_) (fun c22 => ?_)
        · exact wq_t (Or.inl rfl) (wq_some (rI_i ⟨rfl, (Or.inl rfl)⟩))
        · exact wq_t (Or.inr rfl) (wq_some (rI_i ⟨rfl, (Or.inr rfl)⟩))
    · exact wq_t (Or.inl rfl) (wq_some (rI_i ⟨rfl, (Or.inl rfl)⟩))
  refine wq_if _ (fun c23 => ?_) (fun c23 => ?_)
  · refine wq_cI (s_Looker_isWithin W) ?_
    rintro y26 h24 ⟨rfl, p27⟩
    refine wq_if _ (fun c28 => ?_) (fun c28 => ?_)
    · exact wq_t (Or.inl rfl) (wq_some (rI_i ⟨rfl, (Or.inl rfl)⟩))
    · refine wq_if _ (fun c29 => ?_) (fun c29 => ?_)
      · refine wk_at W t0 rfl (fun _ => ?_)
        refine wq_cI (s_Looker_isExpressionKid W t0) ?_
        rintro y32 h30 ⟨rfl, p33⟩
        refine wq_if _ (fun c34 => ?_) (fun c34 => ?_)
        · exact wq_t (Or.inl rfl) (wq_some (rI_i ⟨rfl, (Or.inl rfl)⟩))
        · exact wq_t (Or.inr rfl) (wq_some (rI_i ⟨rfl, (Or.inr rfl)⟩))
      · exact wq_t (Or.inl rfl) (wq_some (rI_i ⟨rfl, (Or.inl rfl)⟩))
  refine wq_if _ (fun c35 => ?_) (fun c35 => ?_)
  · refine wq_cI (s_Looker_isWithin W) ?_
    rintro y38 h36 ⟨rfl, p39⟩
    refine wq_if _ (fun c40 => ?_) (fun c40 => ?_)
    · exact wq_t (Or.inl rfl) (wq_some (rI_i ⟨rfl, (Or.inl rfl)⟩))
    · refine wq_if _ (fun c41 => ?_) (fun c41 => ?_)
      · refine wk_at W t0 rfl (fun _ => ?_)
        refine wq_cI (s_Looker_isExpressionKid W t0) ?_
        rintro y44 h42 ⟨rfl, p45⟩
        refine wq_if _ (fun c46 => ?_) (fun c46 => ?_)
        · exact wq_t (Or.inl rfl) (wq_some (rI_i ⟨rfl, (Or.inl rfl)⟩))
        · refine wk_at W t0 rfl (fun _ => ?_)
          refine wq_cI (s_Looker_isExpressionKid W t0) ?_
          rintro y49 h47 ⟨rfl, p50⟩
          refine wq_if _ (fun c51 => ?_) (fun c51 => ?_)
          · exact wq_t (Or.inl rfl) (wq_some (rI_i ⟨rfl, (Or.inl rfl)⟩))
          · exact wq_t (Or.inr rfl) (wq_some (rI_i ⟨rfl, (Or.inr rfl)⟩))
      · exact wq_t (Or.inl rfl) (wq_some (rI_i ⟨rfl, (Or.inl rfl)⟩))
  refine wq_if _ (fun c52 => ?_) (fun c52 => ?_)
  · refine wq_if _ (fun c53 => ?_) (fun c53 => ?_)
    · refine wk_at W t0 rfl (fun _ => ?_)
      refine wq_cR (s_Looker_thingOf W t0) ?_
      rintro r56 h54 ⟨rfl, p57⟩
      rcases r56 with _ | q58
      · refine wq_t rfl ?_
        exact wq_t (Or.inl rfl) (wq_some (rI_i ⟨rfl, (Or.inl rfl)⟩))
      · have t59 := p57 q58 rfl
        refine wq_f nofun ?_
        exact wq_t (Or.inr rfl) (wq_some (rI_i ⟨rfl, (Or.inr rfl)⟩))
    · exact wq_t (Or.inl rfl) (wq_some (rI_i ⟨rfl, (Or.inl rfl)⟩))
  refine wq_if _ (fun c60 => ?_) (fun c60 => ?_)
  · refine wq_if _ (fun c61 => ?_) (fun c61 => ?_)
    · refine wk_at W t0 rfl (fun _ => ?_)
      refine wq_cR (s_Looker_thingOf W t0) ?_
      rintro r64 h62 ⟨rfl, p65⟩
      rcases r64 with _ | q66
      · refine wq_t rfl ?_
        exact wq_t (Or.inl rfl) (wq_some (rI_i ⟨rfl, (Or.inl rfl)⟩))
      · have t67 := p65 q66 rfl
        refine wq_f nofun ?_
        exact wq_t (Or.inr rfl) (wq_some (rI_i ⟨rfl, (Or.inr rfl)⟩))
    · exact wq_t (Or.inl rfl) (wq_some (rI_i ⟨rfl, (Or.inl rfl)⟩))
  refine wq_if _ (fun c68 => ?_) (fun c68 => ?_)
  · refine wq_if _ (fun c69 => ?_) (fun c69 => ?_)
    · refine wq_if _ (fun c70 => ?_) (fun c70 => ?_)
      · obtain ⟨mk_71, nd_71, sg_71, e_71, tmk_71, tnd_71, tsg_71⟩ := o3 W t0
        refine wq_gR e_71 rfl ?_
        refine wk_at W tnd_71 rfl (fun _ => ?_)
        refine wq_cI (s_Nodes_kid W tnd_71) ?_
        rintro y74 h72 ⟨rfl, p75⟩
        refine wk_at W t0 rfl (fun _ => ?_)
        refine wq_cI (s_Looker_isThing W t0) ?_
        rintro y78 h76 ⟨rfl, p79⟩
        refine wq_if _ (fun c80 => ?_) (fun c80 => ?_)
        · exact wq_t (Or.inl rfl) (wq_some (rI_i ⟨rfl, (Or.inl rfl)⟩))
        · refine wk_at W t0 rfl (fun _ => ?_)
          refine wq_cI (s_Looker_isExpressionKid W t0) ?_
          rintro y83 h81 ⟨rfl, p84⟩
          refine wq_if _ (fun c85 => ?_) (fun c85 => ?_)
          · exact wq_t (Or.inl rfl) (wq_some (rI_i ⟨rfl, (Or.inl rfl)⟩))
          · exact wq_t (Or.inr rfl) (wq_some (rI_i ⟨rfl, (Or.inr rfl)⟩))
      · exact wq_t (Or.inl rfl) (wq_some (rI_i ⟨rfl, (Or.inl rfl)⟩))
    · exact wq_t (Or.inl rfl) (wq_some (rI_i ⟨rfl, (Or.inl rfl)⟩))
  refine wq_if _ (fun c86 => ?_) (fun c86 => ?_)
  · refine wq_if _ (fun c87 => ?_) (fun c87 => ?_)
    · refine wq_if _ (fun c88 => ?_) (fun c88 => ?_)
      · refine wk_at W t0 rfl (fun _ => ?_)
        refine wq_cI (s_Looker_isPart W t0) ?_
        rintro y91 h89 ⟨rfl, p92⟩
        refine wq_if _ (fun c93 => ?_) (fun c93 => ?_)
        · exact wq_t (Or.inl rfl) (wq_some (rI_i ⟨rfl, (Or.inl rfl)⟩))
        · exact wq_t (Or.inr rfl) (wq_some (rI_i ⟨rfl, (Or.inr rfl)⟩))
      · exact wq_t (Or.inl rfl) (wq_some (rI_i ⟨rfl, (Or.inl rfl)⟩))
    · exact wq_t (Or.inl rfl) (wq_some (rI_i ⟨rfl, (Or.inl rfl)⟩))
  refine wq_if _ (fun c94 => ?_) (fun c94 => ?_)
  · refine wk_at W t0 rfl (fun _ => ?_)
    refine wq_cI (s_Looker_isFunction W t0) ?_
    rintro y97 h95 ⟨rfl, p98⟩
    exact wq_t p98 (wq_some (rI_i ⟨rfl, p98⟩))
  refine wq_if _ (fun c99 => ?_) (fun c99 => ?_)
  · refine wq_cI (s_Looker_isWithin W) ?_
    rintro y102 h100 ⟨rfl, p103⟩
    refine wq_if _ (fun c104 => ?_) (fun c104 => ?_)
    · exact wq_t (Or.inl rfl) (wq_some (rI_i ⟨rfl, (Or.inl rfl)⟩))
    · refine wq_if _ (fun c105 => ?_) (fun c105 => ?_)
      · refine wk_at W t0 rfl (fun _ => ?_)
        refine wq_cI (s_Looker_kidKind W t0) ?_
        rintro y108 h106 ⟨rfl, p109⟩
        refine wq_if _ (fun c110 => ?_) (fun c110 => ?_)
        · exact wq_t (Or.inr rfl) (wq_some (rI_i ⟨rfl, (Or.inr rfl)⟩))
        · exact wq_t (Or.inl rfl) (wq_some (rI_i ⟨rfl, (Or.inl rfl)⟩))
      · exact wq_t (Or.inl rfl) (wq_some (rI_i ⟨rfl, (Or.inl rfl)⟩))
  exact wq_t (Or.inl rfl) (wq_some (rI_i ⟨rfl, (Or.inl rfl)⟩))
theorem s_Looker_isRight {d : Nat} {h : ah_H} {v0 : Nat} {v1 : Int32} (W : cI K κ b h) (t0 : κ v0 = some (3, 0)) : wq (vc lim (d + 6) m_Looker_isRight [.inr (.inr (some v0)), .inl v1] h) (rI fun x h' => h' = h ∧ (x = 0 ∨ x = 1)) := by
  refine wq_eq e_Looker_isRight ?_
  obtain ⟨mk_1, nd_1, sg_1, e_1, tmk_1, tnd_1, tsg_1⟩ := o3 W t0
  refine wq_gR e_1 rfl ?_
  refine wk_at W tnd_1 rfl (fun _ => ?_)
  refine wq_cI (s_Nodes_kindOf W tnd_1) ?_
  rintro y4 h2 ⟨rfl, p5⟩
  refine wq_if _ (fun c6 => ?_) (fun c6 => ?_)
  · refine wq_gR e_1 rfl ?_
    refine wk_at W tnd_1 rfl (fun _ => ?_)
    refine wq_cI (s_Nodes_givenOf W tnd_1) ?_
    rintro y9 h7 ⟨rfl, p10⟩
    refine wq_cI (s_Looker_isWithin W) ?_
    rintro y13 h11 ⟨rfl, p14⟩
    refine wq_if _ (fun c15 => ?_) (fun c15 => ?_)
    · exact wq_t (Or.inl rfl) (wq_some (rI_i ⟨rfl, (Or.inl rfl)⟩))
    · refine wq_gR e_1 rfl ?_
      refine wk_at W tnd_1 rfl (fun _ => ?_)
      refine wq_cI (s_Nodes_kidsOf W tnd_1) ?_
      rintro y18 h16 ⟨rfl, p19⟩
      refine wq_if _ (fun c20 => ?_) (fun c20 => ?_)
      · refine wk_at W t0 rfl (fun _ => ?_)
        refine wq_cI (s_Looker_isExpressionKid W t0) ?_
        rintro y23 h21 ⟨rfl, p24⟩
        refine wq_if _ (fun c25 => ?_) (fun c25 => ?_)
        · exact wq_t (Or.inl rfl) (wq_some (rI_i ⟨rfl, (Or.inl rfl)⟩))
        · exact wq_t (Or.inr rfl) (wq_some (rI_i ⟨rfl, (Or.inr rfl)⟩))
      · exact wq_t (Or.inl rfl) (wq_some (rI_i ⟨rfl, (Or.inl rfl)⟩))
  · refine wq_if _ (fun c26 => ?_) (fun c26 => ?_)
    · refine wk_at W t0 rfl (fun _ => ?_)
      refine wq_cI (s_Looker_isAssign W t0) ?_
      rintro y29 h27 ⟨rfl, p30⟩
      exact wq_t p30 (wq_some (rI_i ⟨rfl, p30⟩))
    · refine wq_cI (s_Looker_isExpression W) ?_
      rintro y33 h31 ⟨rfl, p34⟩
      refine wq_if _ (fun c35 => ?_) (fun c35 => ?_)
      · refine wq_gR e_1 rfl ?_
        refine wk_at W tnd_1 rfl (fun _ => ?_)
        refine wq_cI (s_Nodes_givenOf W tnd_1) ?_
        rintro y38 h36 ⟨rfl, p39⟩
        refine wq_if _ (fun c40 => ?_) (fun c40 => ?_)
        · refine wq_gR e_1 rfl ?_
          refine wk_at W tnd_1 rfl (fun _ => ?_)
          refine wq_cI (s_Nodes_kidsOf W tnd_1) ?_
          rintro y43 h41 ⟨rfl, p44⟩
          refine wk_at W t0 rfl (fun _ => ?_)
          refine wq_cI (s_Looker_isRightStatement W t0) ?_
          rintro y47 h45 ⟨rfl, p48⟩
          refine wq_if _ (fun c49 => ?_) (fun c49 => ?_)
          · exact wq_t (Or.inl rfl) (wq_some (rI_i ⟨rfl, (Or.inl rfl)⟩))
          · exact wq_t (Or.inr rfl) (wq_some (rI_i ⟨rfl, (Or.inr rfl)⟩))
        · exact wq_t (Or.inl rfl) (wq_some (rI_i ⟨rfl, (Or.inl rfl)⟩))
      · refine wq_gR e_1 rfl ?_
        refine wk_at W tnd_1 rfl (fun _ => ?_)
        refine wq_cI (s_Nodes_givenOf W tnd_1) ?_
        rintro y52 h50 ⟨rfl, p53⟩
        refine wq_gR e_1 rfl ?_
        refine wk_at W tnd_1 rfl (fun _ => ?_)
        refine wq_cI (s_Nodes_kidsOf W tnd_1) ?_
        rintro y56 h54 ⟨rfl, p57⟩
        refine wk_at W t0 rfl (fun _ => ?_)
        refine wq_cI (s_Looker_isRightExpression W t0) ?_
        rintro y60 h58 ⟨rfl, p61⟩
        exact wq_t p61 (wq_some (rI_i ⟨rfl, p61⟩))
theorem l_163_2 {d : Nat} {h : ah_H} {v0 : Nat} (W : cI K κ b h) (t0 : κ v0 = some (3, 0)) : ∀ (m : Nat) (v1 : Int32), (2147483647 - v1.toInt).toNat < m → wq (ah_val lim ah_P (d + 6) 163 2 [some (.inr (.inr (some v0))), some (.inl v1)] [] h) (rI fun x h' => h' = h ∧ True) := by
  intro m
  induction m with
  | zero => intros; omega
  | succ m ih =>
      intro v1 hm
      refine wq_eq q_163_2 ?_
      obtain ⟨mk_1, nd_1, sg_1, e_1, tmk_1, tnd_1, tsg_1⟩ := o3 W t0
      refine wq_gR e_1 rfl ?_
      obtain ⟨aA_2, aB_2, aC_2, aD_2, aE_2, aF_2, aG_2, aH_2, c_2, kt_2, e_2, taA_2, taB_2, taC_2, taD_2, taE_2, taF_2, taG_2, taH_2, b0_2, b1_2, b2_2, b3_2, b4_2⟩ := o5 W tnd_1
      refine wq_gI e_2 rfl ?_
      refine wq_if _ (fun c3 => ?_) (fun c3 => ?_)
      · refine wq_gR e_1 rfl ?_
        refine wk_at W tmk_1 rfl (fun _ => ?_)
        refine wq_cI (s_Maker_heightOf W tmk_1) ?_
        rintro y6 h4 ⟨rfl, p7⟩
        refine wq_if _ (fun c8 => ?_) (fun c8 => ?_)
        · refine wk_at W t0 rfl (fun _ => ?_)
          refine wq_cI (s_Looker_isRight W t0) ?_
          rintro y11 h9 ⟨rfl, p12⟩
          refine wq_if _ (fun c13 => ?_) (fun c13 => ?_)
          · exact wq_some (rI_i ⟨rfl, trivial⟩)
          · exact ih _ (by have := lt_i c3; have := le_i c8; have := ne_i c13; have : (0 : Int32).toInt = 0 := rfl; have : (1 : Int32).toInt = 1 := rfl; have : (100 : Int32).toInt = 100 := rfl; have := bd_i c_2; have := bd_i v1; have := bd_i y11; have := bd_i y6; have := bd_i v1; have := bd_i (1 : Int32); have : (v1 + (1 : Int32)).toInt = v1.toInt + (1 : Int32).toInt := ad_i (by omega) (by omega); omega)
        · exact wq_some (rI_i ⟨rfl, trivial⟩)
      · exact wq_some (rI_i ⟨rfl, trivial⟩)
theorem s_Looker_firstWrong {d : Nat} {h : ah_H} {v0 : Nat} (W : cI K κ b h) (t0 : κ v0 = some (3, 0)) : wq (vc lim (d + 7) m_Looker_firstWrong [.inr (.inr (some v0))] h) (rI fun x h' => h' = h ∧ True) := by
  refine wq_eq e_Looker_firstWrong ?_
  exact l_163_2 W t0 _ _ (Nat.lt_succ_self _)
theorem s_Looker_isOneBody {d : Nat} {h : ah_H} {v0 : Nat} (W : cI K κ b h) (t0 : κ v0 = some (3, 0)) : wq (vc lim (d + 4) m_Looker_isOneBody [.inr (.inr (some v0))] h) (rI fun x h' => h' = h ∧ (x = 0 ∨ x = 1)) := by
  refine wq_eq e_Looker_isOneBody ?_
  obtain ⟨mk_1, nd_1, sg_1, e_1, tmk_1, tnd_1, tsg_1⟩ := o3 W t0
  refine wq_gR e_1 rfl ?_
  obtain ⟨nd_2, vr_2, ht_2, rt_2, rc_2, e_2, tnd_2, tvr_2, tht_2, trt_2, b0_2, b1_2⟩ := o4 W tmk_1
  refine wq_gI e_2 rfl ?_
  refine wq_if _ (fun c3 => ?_) (fun c3 => ?_)
  · refine wq_gR e_1 rfl ?_
    obtain ⟨aA_4, aB_4, aC_4, aD_4, aE_4, aF_4, aG_4, aH_4, c_4, kt_4, e_4, taA_4, taB_4, taC_4, taD_4, taE_4, taF_4, taG_4, taH_4, b0_4, b1_4, b2_4, b3_4, b4_4⟩ := o5 W tnd_1
    refine wq_gI e_4 rfl ?_
    refine wk_at W t0 rfl (fun _ => ?_)
    refine wq_cI (s_Looker_isStatements W t0) ?_
    rintro y7 h5 ⟨rfl, p8⟩
    refine wq_if _ (fun c9 => ?_) (fun c9 => ?_)
    · exact wq_t (Or.inl rfl) (wq_some (rI_i ⟨rfl, (Or.inl rfl)⟩))
    · exact wq_t (Or.inr rfl) (wq_some (rI_i ⟨rfl, (Or.inr rfl)⟩))
  · exact wq_t (Or.inl rfl) (wq_some (rI_i ⟨rfl, (Or.inl rfl)⟩))
end CsC
