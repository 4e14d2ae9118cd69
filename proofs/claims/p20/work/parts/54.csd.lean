/-! CONTRACTS: what expressions are, by program (wip/tools/clsgen.py) -/
section CsD
variable {lim : Nat × Nat} {K : Nat} {κ : kM} {b : ah_H}
theorem s_Finder_found {d : Nat} {h : ah_H} {v0 : Nat} (W : cI K κ b h) (t0 : κ v0 = some (2, 0)) : wq (vc lim (d + 1) m_Finder_found [.inr (.inr (some v0))] h) (rR fun r h' => h' = h ∧ ∃ a, r = some a ∧ κ a = some (1, 0)) := by
  refine wq_eq e_Finder_found ?_
  obtain ⟨sg_1, st_1, tp_1, e_1, tsg_1, tst_1, b0_1, b1_1⟩ := o2 W t0
  refine wq_gR e_1 rfl ?_
  refine wk_l1 W tst_1 (by have : (0 : Int32).toInt = 0 := rfl; omega) (by have : (0 : Int32).toInt = 0 := rfl; omega) (fun v2 t3 => ?_)
  exact wq_some (rR_i ⟨rfl, _, rfl, t3⟩)
theorem s_Finder_isNumber {d : Nat} {h : ah_H} {v0 : Nat} (W : cI K κ b h) (t0 : κ v0 = some (2, 0)) : wq (vc lim (d + 1) m_Finder_isNumber [.inr (.inr (some v0))] h) (rI fun x h' => h' = h ∧ (x = 0 ∨ x = 1)) := by
  refine wq_eq e_Finder_isNumber ?_
  obtain ⟨sg_1, st_1, tp_1, e_1, tsg_1, tst_1, b0_1, b1_1⟩ := o2 W t0
  refine wq_gR e_1 rfl ?_
  refine wk_l1 W tst_1 (by have : (0 : Int32).toInt = 0 := rfl; omega) (by have : (0 : Int32).toInt = 0 := rfl; omega) (fun v2 t3 => ?_)
  obtain ⟨i_4, l_4, n_4, bA_4, bB_4, bC_4, bD_4, e_4⟩ := o1 W t3
  refine wq_gI e_4 rfl ?_
  refine wq_if _ (fun c5 => ?_) (fun c5 => ?_)
  · exact wq_t (Or.inr rfl) (wq_some (rI_i ⟨rfl, (Or.inr rfl)⟩))
  · exact wq_t (Or.inl rfl) (wq_some (rI_i ⟨rfl, (Or.inl rfl)⟩))
theorem s_Finder_push {d : Nat} {h : ah_H} {v0 : Nat} (W : cI K κ b h) (t0 : κ v0 = some (2, 0)) : wq (vc lim (d + 1) m_Finder_push [.inr (.inr (some v0))] h) (rR fun r h' => cI K κ b h' ∧ fk [2] κ h h' ∧ ∃ a, r = some a ∧ κ a = some (1, 0)) := by
  refine wq_eq e_Finder_push ?_
  obtain ⟨sg_1, st_1, tp_1, e_1, tsg_1, tst_1, b0_1, b1_1⟩ := o2 W t0
  refine wq_gI e_1 rfl ?_
  refine wq_gR e_1 rfl ?_
  refine wk_len W tst_1 (by decide) ?_
  intro len2 hl3
  refine wq_if _ (fun c4 => ?_) (fun c4 => ?_)
  · refine wq_gI e_1 rfl ?_
    refine wk_wr W t0 rfl e_1 (Nat.le_of_ble_eq_true rfl) (i2 tsg_1 tst_1 (by have := lt_i c4; have : (1 : Int32).toInt = 1 := rfl; have := bd_i len2; have := bd_i tp_1; have := bd_i tp_1; have := bd_i (1 : Int32); have : (tp_1 + (1 : Int32)).toInt = tp_1.toInt + (1 : Int32).toInt := ad_i (by omega) (by omega); omega) (by have := lt_i c4; have : (1 : Int32).toInt = 1 := rfl; have := bd_i len2; have := bd_i tp_1; have := bd_i tp_1; have := bd_i (1 : Int32); have : (tp_1 + (1 : Int32)).toInt = tp_1.toInt + (1 : Int32).toInt := ad_i (by omega) (by omega); omega)) ?_
    intro h5 W6 e7 o8
    have G9 := fk_w (ws := [2]) fk_0 t0 o8 rfl
    refine wq_gR e7 rfl ?_
    refine wq_gI e7 rfl ?_
    refine wk_l1 W6 tst_1 (by have := lt_i c4; have : (1 : Int32).toInt = 1 := rfl; have := bd_i len2; have := bd_i tp_1; have := bd_i tp_1; have := bd_i (1 : Int32); have : (tp_1 + (1 : Int32)).toInt = tp_1.toInt + (1 : Int32).toInt := ad_i (by omega) (by omega); have := bd_i (tp_1 + (1 : Int32)); have := bd_i (1 : Int32); have : ((tp_1 + (1 : Int32)) - (1 : Int32)).toInt = (tp_1 + (1 : Int32)).toInt - (1 : Int32).toInt := sb_i (by omega) (by omega); omega) (by have := lt_i c4; have : (1 : Int32).toInt = 1 := rfl; have := bd_i len2; have := bd_i tp_1; have := bd_i tp_1; have := bd_i (1 : Int32); have : (tp_1 + (1 : Int32)).toInt = tp_1.toInt + (1 : Int32).toInt := ad_i (by omega) (by omega); have := bd_i (tp_1 + (1 : Int32)); have := bd_i (1 : Int32); have : ((tp_1 + (1 : Int32)) - (1 : Int32)).toInt = (tp_1 + (1 : Int32)).toInt - (1 : Int32).toInt := sb_i (by omega) (by omega); omega) (fun v10 t11 => ?_)
    exact wq_some (rR_i ⟨W6, G9, _, rfl, t11⟩)
  · refine wq_gR e_1 rfl ?_
    refine wq_gI e_1 rfl ?_
    refine wk_l1 W tst_1 (by have := nlt_i c4; have : (1 : Int32).toInt = 1 := rfl; have := bd_i len2; have := bd_i tp_1; have := bd_i tp_1; have := bd_i (1 : Int32); have : (tp_1 - (1 : Int32)).toInt = tp_1.toInt - (1 : Int32).toInt := sb_i (by omega) (by omega); omega) (by have := nlt_i c4; have : (1 : Int32).toInt = 1 := rfl; have := bd_i len2; have := bd_i tp_1; have := bd_i tp_1; have := bd_i (1 : Int32); have : (tp_1 - (1 : Int32)).toInt = tp_1.toInt - (1 : Int32).toInt := sb_i (by omega) (by omega); omega) (fun v12 t13 => ?_)
    exact wq_some (rR_i ⟨W, fk_0, _, rfl, t13⟩)
theorem s_Finder_pushNow {d : Nat} {h : ah_H} {v0 : Nat} {v1 : Option Nat} (W : cI K κ b h) (t0 : κ v0 = some (2, 0)) (t1 : ∀ t, v1 = some t → κ t = some (7, 0)) : wq (vc lim (d + 2) m_Finder_pushNow [.inr (.inr (some v0)), .inr (.inr v1)] h) (rV fun h' => cI K κ b h' ∧ fk [1, 2] κ h h') := by
  refine wq_eq e_Finder_pushNow ?_
  refine wk_at W t0 rfl (fun _ => ?_)
  refine wq_cR (s_Finder_push W t0) ?_
  rintro _ h1 ⟨W2, g3, a6, rfl, p5⟩
  have G7 := fk_c (ws := [1, 2]) fk_0 g3 rfl
  rcases v1 with _ | q8
  · refine wq_t rfl ?_
    refine wk_at W2 p5 rfl (fun _ => ?_)
    refine wq_cV (s_Datum_beNumber W2 p5) ?_
    rintro h9 ⟨W10, g11⟩
    have G12 := fk_c (ws := [1, 2]) G7 g11 rfl
    exact wq_some (rV_i ⟨W10, G12⟩)
  · have t13 := t1 q8 rfl
    refine wq_f nofun ?_
    obtain ⟨i_14, l_14, lo_14, hi_14, nw_14, ls_14, ev_14, ac_14, e_14, tnw_14, tls_14⟩ := o7 W2 t13
    refine wq_gR e_14 rfl ?_
    refine wk_at W2 p5 rfl (fun _ => ?_)
    refine wq_cV (s_Datum_copy W2 p5 tnw_14) ?_
    rintro h15 ⟨W16, g17⟩
    have G18 := fk_c (ws := [1, 2]) G7 g17 rfl
    have e19 := (g17 _ _ _ t13 rfl).trans e_14
    exact wq_some (rV_i ⟨W16, G18⟩)
theorem s_Finder_down {d : Nat} {h : ah_H} {v0 : Nat} {v1 : Int32} (W : cI K κ b h) (t0 : κ v0 = some (2, 0)) : wq (vc lim (d + 1) m_Finder_down [.inr (.inr (some v0)), .inl v1] h) (rR fun r h' => h' = h ∧ ∃ a, r = some a ∧ κ a = some (1, 0)) := by
  refine wq_eq e_Finder_down ?_
  refine wq_if _ (fun c1 => ?_) (fun c1 => ?_)
  · obtain ⟨sg_2, st_2, tp_2, e_2, tsg_2, tst_2, b0_2, b1_2⟩ := o2 W t0
    refine wq_gR e_2 rfl ?_
    refine wk_l1 W tst_2 (by have := lt_i c1; have : (0 : Int32).toInt = 0 := rfl; omega) (by have := lt_i c1; have : (0 : Int32).toInt = 0 := rfl; omega) (fun v3 t4 => ?_)
    exact wq_some (rR_i ⟨rfl, _, rfl, t4⟩)
  · obtain ⟨sg_5, st_5, tp_5, e_5, tsg_5, tst_5, b0_5, b1_5⟩ := o2 W t0
    refine wq_gI e_5 rfl ?_
    refine wq_if _ (fun c6 => ?_) (fun c6 => ?_)
    · refine wq_gR e_5 rfl ?_
      refine wq_gI e_5 rfl ?_
      refine wk_l1 W tst_5 (by have := nlt_i c1; have := lt_i c6; have : (0 : Int32).toInt = 0 := rfl; have : (1 : Int32).toInt = 1 := rfl; have := bd_i tp_5; have := bd_i v1; have := bd_i tp_5; have := bd_i (1 : Int32); have : (tp_5 - (1 : Int32)).toInt = tp_5.toInt - (1 : Int32).toInt := sb_i (by omega) (by omega); have := bd_i (tp_5 - (1 : Int32)); have := bd_i v1; have : ((tp_5 - (1 : Int32)) - v1).toInt = (tp_5 - (1 : Int32)).toInt - v1.toInt := sb_i (by omega) (by omega); omega) (by have := nlt_i c1; have := lt_i c6; have : (0 : Int32).toInt = 0 := rfl; have : (1 : Int32).toInt = 1 := rfl; have := bd_i tp_5; have := bd_i v1; have := bd_i tp_5; have := bd_i (1 : Int32); have : (tp_5 - (1 : Int32)).toInt = tp_5.toInt - (1 : Int32).toInt := sb_i (by omega) (by omega); have := bd_i (tp_5 - (1 : Int32)); have := bd_i v1; have : ((tp_5 - (1 : Int32)) - v1).toInt = (tp_5 - (1 : Int32)).toInt - v1.toInt := sb_i (by omega) (by omega); omega) (fun v7 t8 => ?_)
      exact wq_some (rR_i ⟨rfl, _, rfl, t8⟩)
    · refine wq_gR e_5 rfl ?_
      refine wk_l1 W tst_5 (by have := nlt_i c1; have := nlt_i c6; have : (0 : Int32).toInt = 0 := rfl; omega) (by have := nlt_i c1; have := nlt_i c6; have : (0 : Int32).toInt = 0 := rfl; omega) (fun v9 t10 => ?_)
      exact wq_some (rR_i ⟨rfl, _, rfl, t10⟩)
theorem s_Finder_drop {d : Nat} {h : ah_H} {v0 : Nat} {v1 : Int32} (W : cI K κ b h) (t0 : κ v0 = some (2, 0)) (hm : v1 = 1 ∨ v1 = 2) : wq (vc lim (d + 1) m_Finder_drop [.inr (.inr (some v0)), .inl v1] h) (rV fun h' => cI K κ b h' ∧ fk [2] κ h h') := by
  refine wq_eq e_Finder_drop ?_
  obtain ⟨sg, st, tp, e, t1, t2, b0, b1⟩ := o2 W t0
  refine wq_gI e rfl ?_
  have hv : 1 ≤ v1.toInt ∧ v1.toInt ≤ 2 := by
    rcases hm with rfl | rfl
    · exact ⟨by decide, by decide⟩
    · exact ⟨by decide, by decide⟩
  have hs : (tp - v1).toInt = tp.toInt - v1.toInt := sb_i (by omega) (by omega)
  have hx : 0 ≤ (if (tp - v1) < (1 : Int32) then (1 : Int32) else (tp - v1)).toInt ∧ (if (tp - v1) < (1 : Int32) then (1 : Int32) else (tp - v1)).toInt ≤ 104 := by
    have h1 : (1 : Int32).toInt = 1 := rfl
    by_cases c : (tp - v1) < (1 : Int32)
    · rw [if_pos c]
      exact ⟨by omega, by omega⟩
    · rw [if_neg c]
      have := nlt_i c
      exact ⟨by omega, by omega⟩
  refine wk_wr W t0 rfl e (Nat.le_of_ble_eq_true rfl) (i2 t1 t2 hx.1 hx.2) ?_
  intro h2 W2 e2 o2
  exact wq_some (rV_i ⟨W2, fk_w (ws := [2]) fk_0 t0 o2 rfl⟩)
theorem l_142_21 {d : Nat} {h : ah_H} {v0 : Nat} {n1 : Nat} {v1 : Nat} (t0 : κ v0 = some (2, 0)) (t1 : κ v1 = some (5, n1)) : ∀ (m : Nat) (h1 : ah_H) (v2 : Int32) (v3 : Int32) (v4 : Int64) (v6 : Int64) (v8 : Int64) (v10 : Int64) (v12 : Int32), (2147483647 - v12.toInt).toNat < m → cI K κ b h1 → fk [1, 2] κ h h1 → wq (ah_val lim ah_P (d + 1) 142 21 [some (.inr (.inr (some v0))), some (.inr (.inr (some v1))), some (.inl v2), some (.inl v3), some (.inr (.inl v4)), none, some (.inr (.inl v6)), none, some (.inr (.inl v8)), none, some (.inr (.inl v10)), none, some (.inl v12), none] [] h1) (rV fun h' => cI K κ b h' ∧ fk [1, 2] κ h h') := by
  intro m
  induction m with
  | zero => intros; omega
  | succ m ih =>
      intro h1 v2 v3 v4 v6 v8 v10 v12 hm W G
      refine wq_eq q_142_21 ?_
      refine wq_if _ (fun c1 => ?_) (fun c1 => ?_)
      · refine wk_at W t1 rfl (fun _ => ?_)
        refine wq_cI (s_Nodes_kid W t1) ?_
        rintro y4 h2 ⟨rfl, p5⟩
        refine wk_at W t1 rfl (fun _ => ?_)
        refine wq_cI (s_Nodes_givenOf W t1) ?_
        rintro y8 h6 ⟨rfl, p9⟩
        exact ih _ _ _ _ _ _ _ _ (by have := lt_i c1; have : (1 : Int32).toInt = 1 := rfl; have := bd_i v12; have := bd_i v3; have := bd_i v12; have := bd_i (1 : Int32); have : (v12 + (1 : Int32)).toInt = v12.toInt + (1 : Int32).toInt := ad_i (by omega) (by omega); omega) W G
      · refine wk_at W t0 rfl (fun _ => ?_)
        refine wq_cR (s_Finder_push W t0) ?_
        rintro _ h10 ⟨W11, g12, a15, rfl, p14⟩
        have G16 := fk_c (ws := [1, 2]) G g12 rfl
        refine wk_at W11 p14 rfl (fun _ => ?_)
        refine wq_cV (s_Datum_hold W11 p14) ?_
        rintro h17 ⟨W18, g19⟩
        have G20 := fk_c (ws := [1, 2]) G16 g19 rfl
        exact wq_some (rV_i ⟨W18, G20⟩)
theorem s_Finder_gather {d : Nat} {h : ah_H} {v0 : Nat} {n1 : Nat} {v1 : Nat} {v2 : Int32} (W : cI K κ b h) (t0 : κ v0 = some (2, 0)) (t1 : κ v1 = some (5, n1)) : wq (vc lim (d + 2) m_Finder_gather [.inr (.inr (some v0)), .inr (.inr (some v1)), .inl v2] h) (rV fun h' => cI K κ b h' ∧ fk [1, 2] κ h h') := by
  refine wq_eq e_Finder_gather ?_
  refine wk_at W t1 rfl (fun _ => ?_)
  refine wq_cI (s_Nodes_kidsOf W t1) ?_
  rintro y3 h1 ⟨rfl, p4⟩
  exact l_142_21 t0 t1 _ _ _ _ _ _ _ _ _ (Nat.lt_succ_self _) W fk_0
theorem s_Finder_element {d : Nat} {h : ah_H} {v0 : Nat} (W : cI K κ b h) (t0 : κ v0 = some (2, 0)) : wq (vc lim (d + 3) m_Finder_element [.inr (.inr (some v0))] h) (rI fun x h' => cI K κ b h' ∧ fk [1, 2] κ h h' ∧ True) := by
  refine wq_eq e_Finder_element ?_
  refine wk_at W t0 rfl (fun _ => ?_)
  refine wq_cR (s_Finder_down W t0) ?_
  rintro _ h1 ⟨rfl, a5, rfl, p4⟩
  refine wk_at W t0 rfl (fun _ => ?_)
  refine wq_cR (s_Finder_down W t0) ?_
  rintro _ h6 ⟨rfl, a10, rfl, p9⟩
  refine wk_at W t0 rfl (fun _ => ?_)
  refine wq_cV (s_Finder_drop W t0 (Or.inl rfl)) ?_
  rintro h11 ⟨W12, g13⟩
  have G14 := fk_c (ws := [1, 2]) fk_0 g13 rfl
  obtain ⟨i_15, l_15, n_15, bA_15, bB_15, bC_15, bD_15, e_15⟩ := o1 W12 p4
  refine wq_gI e_15 rfl ?_
  refine wq_if _ (fun c16 => ?_) (fun c16 => ?_)
  · refine wq_gJ e_15 rfl ?_
    refine wq_if _ (fun c17 => ?_) (fun c17 => ?_)
    · exact wq_some (rI_i ⟨W12, G14, trivial⟩)
    · refine wq_gJ e_15 rfl ?_
      obtain ⟨i_18, l_18, n_18, bA_18, bB_18, bC_18, bD_18, e_18⟩ := o1 W12 p9
      refine wq_gI e_18 rfl ?_
      refine wq_if _ (fun c19 => ?_) (fun c19 => ?_)
      · refine wq_gJ e_15 rfl ?_
        refine wk_at W12 p9 rfl (fun _ => ?_)
        refine wq_cV (s_Datum_keepPart W12 p9) ?_
        rintro h20 ⟨W21, g22⟩
        have G23 := fk_c (ws := [1, 2]) G14 g22 rfl
        exact wq_some (rI_i ⟨W21, G23, trivial⟩)
      · exact wq_some (rI_i ⟨W12, G14, trivial⟩)
  · exact wq_some (rI_i ⟨W12, G14, trivial⟩)
theorem s_Finder_part {d : Nat} {h : ah_H} {v0 : Nat} (W : cI K κ b h) (t0 : κ v0 = some (2, 0)) : wq (vc lim (d + 3) m_Finder_part [.inr (.inr (some v0))] h) (rV fun h' => cI K κ b h' ∧ fk [1, 2] κ h h') := by
  refine wq_eq e_Finder_part ?_
  refine wk_at W t0 rfl (fun _ => ?_)
  refine wq_cR (s_Finder_down W t0) ?_
  rintro _ h1 ⟨rfl, a5, rfl, p4⟩
  obtain ⟨i_6, l_6, n_6, bA_6, bB_6, bC_6, bD_6, e_6⟩ := o1 W p4
  refine wq_gJ e_6 rfl ?_
  refine wk_at W t0 rfl (fun _ => ?_)
  refine wq_cR (s_Finder_down W t0) ?_
  rintro _ h7 ⟨rfl, a11, rfl, p10⟩
  obtain ⟨i_12, l_12, n_12, bA_12, bB_12, bC_12, bD_12, e_12⟩ := o1 W p10
  refine wq_gJ e_12 rfl ?_
  refine wk_at W t0 rfl (fun _ => ?_)
  refine wq_cV (s_Finder_drop W t0 (Or.inr rfl)) ?_
  rintro h13 ⟨W14, g15⟩
  have G16 := fk_c (ws := [1, 2]) fk_0 g15 rfl
  have e17 := (g15 _ _ _ p4 rfl).trans e_6
  have e18 := (g15 _ _ _ p10 rfl).trans e_12
  refine wk_at W14 t0 rfl (fun _ => ?_)
  refine wq_cR (s_Finder_down W14 t0) ?_
  rintro _ h19 ⟨rfl, a23, rfl, p22⟩
  refine wk_at W14 p22 rfl (fun _ => ?_)
  refine wq_cV (s_Datum_keepPart W14 p22) ?_
  rintro h24 ⟨W25, g26⟩
  have G27 := fk_c (ws := [1, 2]) G16 g26 rfl
  exact wq_some (rV_i ⟨W25, G27⟩)
theorem s_Finder_toNumber {d : Nat} {h : ah_H} {v0 : Nat} (W : cI K κ b h) (t0 : κ v0 = some (1, 0)) : wq (vc lim (d + 2) m_Finder_toNumber [.inr (.inr (some v0))] h) (rI fun x h' => cI K κ b h' ∧ fk [1] κ h h' ∧ True) := by
  refine wq_eq e_Finder_toNumber ?_
  obtain ⟨i_1, l_1, n_1, bA_1, bB_1, bC_1, bD_1, e_1⟩ := o1 W t0
  refine wq_gI e_1 rfl ?_
  refine wq_if _ (fun c2 => ?_) (fun c2 => ?_)
  · refine wk_at W t0 rfl (fun _ => ?_)
    refine wq_cJ (s_Datum_ones W t0) ?_
    rintro j5 h3 ⟨rfl, p6⟩
    refine wk_at W t0 rfl (fun _ => ?_)
    refine wq_cI (s_Datum_isClear W t0) ?_
    rintro y9 h7 ⟨rfl, p10⟩
    refine wq_if _ (fun c11 => ?_) (fun c11 => ?_)
    · exact wq_some (rI_i ⟨W, fk_0, trivial⟩)
    · refine wq_if _ (fun c12 => ?_) (fun c12 => ?_)
      · exact wq_some (rI_i ⟨W, fk_0, trivial⟩)
      · refine wq_if _ (fun c13 => ?_) (fun c13 => ?_)
        · refine wk_at W t0 rfl (fun _ => ?_)
          refine wq_cV (s_Datum_beNumber W t0) ?_
          rintro h14 ⟨W15, g16⟩
          have G17 := fk_c (ws := [1]) fk_0 g16 rfl
          exact wq_some (rI_i ⟨W15, G17, trivial⟩)
        · exact wq_some (rI_i ⟨W, fk_0, trivial⟩)
  · exact wq_some (rI_i ⟨W, fk_0, trivial⟩)
theorem s_Finder_toRow {d : Nat} {h : ah_H} {v0 : Nat} {v1 : Int32} (W : cI K κ b h) (t0 : κ v0 = some (1, 0)) : wq (vc lim (d + 2) m_Finder_toRow [.inr (.inr (some v0)), .inl v1] h) (rI fun x h' => cI K κ b h' ∧ fk [1] κ h h' ∧ True) := by
  refine wq_eq e_Finder_toRow ?_
  obtain ⟨i_1, l_1, n_1, bA_1, bB_1, bC_1, bD_1, e_1⟩ := o1 W t0
  refine wq_gI e_1 rfl ?_
  refine wq_if _ (fun c2 => ?_) (fun c2 => ?_)
  · refine wq_gJ e_1 rfl ?_
    refine wk_at W t0 rfl (fun _ => ?_)
    refine wq_cV (s_Datum_hold W t0) ?_
    rintro h3 ⟨W4, g5⟩
    have G6 := fk_c (ws := [1]) fk_0 g5 rfl
    exact wq_some (rI_i ⟨W4, G6, trivial⟩)
  · exact wq_some (rI_i ⟨W, fk_0, trivial⟩)
theorem s_Finder_function {d : Nat} {h : ah_H} {v0 : Nat} {v1 : Int32} {v2 : Option Nat} (W : cI K κ b h) (t0 : κ v0 = some (2, 0)) (t2 : ∀ t, v2 = some t → κ t = some (7, 0)) : wq (vc lim (d + 3) m_Finder_function [.inr (.inr (some v0)), .inl v1, .inr (.inr v2)] h) (rI fun x h' => cI K κ b h' ∧ fk [1, 2] κ h h' ∧ True) := by
  refine wq_eq e_Finder_function ?_
  refine wq_if _ (fun c1 => ?_) (fun c1 => ?_)
  · refine wk_at W t0 rfl (fun _ => ?_)
    refine wq_cR (s_Finder_down W t0) ?_
    rintro _ h2 ⟨rfl, a6, rfl, p5⟩
    refine wq_cI (s_Finder_toNumber W p5) ?_
    rintro y10 h7 ⟨W8, g9, p11⟩
    have G12 := fk_c (ws := [1, 2]) fk_0 g9 rfl
    exact wq_some (rI_i ⟨W8, G12, trivial⟩)
  · refine wq_if _ (fun c13 => ?_) (fun c13 => ?_)
    · refine wk_at W t0 rfl (fun _ => ?_)
      refine wq_cR (s_Finder_down W t0) ?_
      rintro _ h14 ⟨rfl, a18, rfl, p17⟩
      obtain ⟨i_19, l_19, n_19, bA_19, bB_19, bC_19, bD_19, e_19⟩ := o1 W p17
      refine wq_gJ e_19 rfl ?_
      refine wk_at W t0 rfl (fun _ => ?_)
      refine wq_cV (s_Finder_drop W t0 (Or.inl rfl)) ?_
      rintro h20 ⟨W21, g22⟩
      have G23 := fk_c (ws := [1, 2]) fk_0 g22 rfl
      have e24 := (g22 _ _ _ p17 rfl).trans e_19
      refine wk_at W21 t0 rfl (fun _ => ?_)
      refine wq_cR (s_Finder_down W21 t0) ?_
      rintro _ h25 ⟨rfl, a29, rfl, p28⟩
      refine wq_cI (s_Finder_toRow W21 p28) ?_
      rintro y33 h30 ⟨W31, g32, p34⟩
      have G35 := fk_c (ws := [1, 2]) G23 g32 rfl
      exact wq_some (rI_i ⟨W31, G35, trivial⟩)
    · rcases v2 with _ | q36
      · refine wq_t rfl ?_
        refine wq_eq q_145_62 ?_
        refine wq_if _ (fun c37 => ?_) (fun c37 => ?_)
        · refine wq_t (by decide) ?_
          refine wq_eq q_145_102 ?_
          refine wk_at W t0 rfl (fun _ => ?_)
          refine wq_cR (s_Finder_down W t0) ?_
          rintro _ h38 ⟨rfl, a42, rfl, p41⟩
          refine wq_t (by decide) ?_
          refine wk_at W p41 rfl (fun _ => ?_)
          refine wq_cV (s_Datum_beNumber W p41) ?_
          rintro h43 ⟨W44, g45⟩
          have G46 := fk_c (ws := [1, 2]) fk_0 g45 rfl
          exact wq_some (rI_i ⟨W44, G46, trivial⟩)
        · refine wq_t (by decide) ?_
          refine wq_eq q_145_139 ?_
          refine wk_at W t0 rfl (fun _ => ?_)
          refine wq_cR (s_Finder_down W t0) ?_
          rintro _ h47 ⟨rfl, a51, rfl, p50⟩
          refine wq_t (by decide) ?_
          refine wk_at W p50 rfl (fun _ => ?_)
          refine wq_cV (s_Datum_beNumber W p50) ?_
          rintro h52 ⟨W53, g54⟩
          have G55 := fk_c (ws := [1, 2]) fk_0 g54 rfl
          exact wq_some (rI_i ⟨W53, G55, trivial⟩)
      · have t56 := t2 q36 rfl
        refine wq_f nofun ?_
        obtain ⟨i_57, l_57, lo_57, hi_57, nw_57, ls_57, ev_57, ac_57, e_57, tnw_57, tls_57⟩ := o7 W t56
        refine wq_gI e_57 rfl ?_
        refine wq_if _ (fun c58 => ?_) (fun c58 => ?_)
        · refine wq_eq q_145_62 ?_
          refine wq_if _ (fun c59 => ?_) (fun c59 => ?_)
          · refine wq_t (by decide) ?_
            refine wq_eq q_145_102 ?_
            refine wk_at W t0 rfl (fun _ => ?_)
            refine wq_cR (s_Finder_down W t0) ?_
            rintro _ h60 ⟨rfl, a64, rfl, p63⟩
            refine wq_t (by decide) ?_
            refine wk_at W p63 rfl (fun _ => ?_)
            refine wq_cV (s_Datum_beNumber W p63) ?_
            rintro h65 ⟨W66, g67⟩
            have G68 := fk_c (ws := [1, 2]) fk_0 g67 rfl
            have e69 := (g67 _ _ _ t56 rfl).trans e_57
            exact wq_some (rI_i ⟨W66, G68, trivial⟩)
          · refine wq_t (by decide) ?_
            refine wq_eq q_145_139 ?_
            refine wk_at W t0 rfl (fun _ => ?_)
            refine wq_cR (s_Finder_down W t0) ?_
            rintro _ h70 ⟨rfl, a74, rfl, p73⟩
            refine wq_t (by decide) ?_
            refine wk_at W p73 rfl (fun _ => ?_)
            refine wq_cV (s_Datum_beNumber W p73) ?_
            rintro h75 ⟨W76, g77⟩
            have G78 := fk_c (ws := [1, 2]) fk_0 g77 rfl
            have e79 := (g77 _ _ _ t56 rfl).trans e_57
            exact wq_some (rI_i ⟨W76, G78, trivial⟩)
        · refine wq_eq q_145_62 ?_
          refine wq_if _ (fun c80 => ?_) (fun c80 => ?_)
          · refine wq_f (by decide) ?_
            refine wq_gR e_57 rfl ?_
            refine wk_at W tnw_57 rfl (fun _ => ?_)
            refine wq_cJ (s_Datum_ones W tnw_57) ?_
            rintro j83 h81 ⟨rfl, p84⟩
            refine wq_if _ (fun c85 => ?_) (fun c85 => ?_)
            · refine wq_eq q_145_102 ?_
              refine wk_at W t0 rfl (fun _ => ?_)
              refine wq_cR (s_Finder_down W t0) ?_
              rintro _ h86 ⟨rfl, a90, rfl, p89⟩
              refine wq_t (by decide) ?_
              refine wk_at W p89 rfl (fun _ => ?_)
              refine wq_cV (s_Datum_beNumber W p89) ?_
              rintro h91 ⟨W92, g93⟩
              have G94 := fk_c (ws := [1, 2]) fk_0 g93 rfl
              have e95 := (g93 _ _ _ t56 rfl).trans e_57
              exact wq_some (rI_i ⟨W92, G94, trivial⟩)
            · refine wq_gR e_57 rfl ?_
              refine wk_at W tls_57 rfl (fun _ => ?_)
              refine wq_cJ (s_Datum_zeros W tls_57) ?_
              rintro j98 h96 ⟨rfl, p99⟩
              refine wq_if _ (fun c100 => ?_) (fun c100 => ?_)
              · refine wq_eq q_145_102 ?_
                refine wk_at W t0 rfl (fun _ => ?_)
                refine wq_cR (s_Finder_down W t0) ?_
                rintro _ h101 ⟨rfl, a105, rfl, p104⟩
                refine wq_t (by decide) ?_
                refine wk_at W p104 rfl (fun _ => ?_)
                refine wq_cV (s_Datum_beNumber W p104) ?_
                rintro h106 ⟨W107, g108⟩
                have G109 := fk_c (ws := [1, 2]) fk_0 g108 rfl
                have e110 := (g108 _ _ _ t56 rfl).trans e_57
                exact wq_some (rI_i ⟨W107, G109, trivial⟩)
              · refine wq_eq q_145_102 ?_
                refine wk_at W t0 rfl (fun _ => ?_)
                refine wq_cR (s_Finder_down W t0) ?_
                rintro _ h111 ⟨rfl, a115, rfl, p114⟩
                refine wq_f (by decide) ?_
                refine wk_at W p114 rfl (fun _ => ?_)
                refine wq_cV (s_Datum_beNumber W p114) ?_
                rintro h116 ⟨W117, g118⟩
                have G119 := fk_c (ws := [1, 2]) fk_0 g118 rfl
                have e120 := (g118 _ _ _ t56 rfl).trans e_57
                exact wq_some (rI_i ⟨W117, G119, trivial⟩)
          · refine wq_f (by decide) ?_
            refine wq_gR e_57 rfl ?_
            refine wk_at W tnw_57 rfl (fun _ => ?_)
            refine wq_cJ (s_Datum_zeros W tnw_57) ?_
            rintro j123 h121 ⟨rfl, p124⟩
            refine wq_if _ (fun c125 => ?_) (fun c125 => ?_)
            · refine wq_eq q_145_139 ?_
              refine wk_at W t0 rfl (fun _ => ?_)
              refine wq_cR (s_Finder_down W t0) ?_
              rintro _ h126 ⟨rfl, a130, rfl, p129⟩
              refine wq_t (by decide) ?_
              refine wk_at W p129 rfl (fun _ => ?_)
              refine wq_cV (s_Datum_beNumber W p129) ?_
              rintro h131 ⟨W132, g133⟩
              have G134 := fk_c (ws := [1, 2]) fk_0 g133 rfl
              have e135 := (g133 _ _ _ t56 rfl).trans e_57
              exact wq_some (rI_i ⟨W132, G134, trivial⟩)
            · refine wq_gR e_57 rfl ?_
              refine wk_at W tls_57 rfl (fun _ => ?_)
              refine wq_cJ (s_Datum_ones W tls_57) ?_
              rintro j138 h136 ⟨rfl, p139⟩
              refine wq_if _ (fun c140 => ?_) (fun c140 => ?_)
              · refine wq_eq q_145_139 ?_
                refine wk_at W t0 rfl (fun _ => ?_)
                refine wq_cR (s_Finder_down W t0) ?_
                rintro _ h141 ⟨rfl, a145, rfl, p144⟩
                refine wq_t (by decide) ?_
                refine wk_at W p144 rfl (fun _ => ?_)
                refine wq_cV (s_Datum_beNumber W p144) ?_
                rintro h146 ⟨W147, g148⟩
                have G149 := fk_c (ws := [1, 2]) fk_0 g148 rfl
                have e150 := (g148 _ _ _ t56 rfl).trans e_57
                exact wq_some (rI_i ⟨W147, G149, trivial⟩)
              · refine wq_eq q_145_139 ?_
                refine wk_at W t0 rfl (fun _ => ?_)
                refine wq_cR (s_Finder_down W t0) ?_
                rintro _ h151 ⟨rfl, a155, rfl, p154⟩
                refine wq_f (by decide) ?_
                refine wk_at W p154 rfl (fun _ => ?_)
                refine wq_cV (s_Datum_beNumber W p154) ?_
                rintro h156 ⟨W157, g158⟩
                have G159 := fk_c (ws := [1, 2]) fk_0 g158 rfl
                have e160 := (g158 _ _ _ t56 rfl).trans e_57
                exact wq_some (rI_i ⟨W157, G159, trivial⟩)
theorem s_Finder_ofSignal {d : Nat} {h : ah_H} {v0 : Nat} {v1 : Int32} {v2 : Option Nat} (W : cI K κ b h) (t0 : κ v0 = some (2, 0)) (t2 : ∀ t, v2 = some t → κ t = some (7, 0)) : wq (vc lim (d + 2) m_Finder_ofSignal [.inr (.inr (some v0)), .inl v1, .inr (.inr v2)] h) (rV fun h' => cI K κ b h' ∧ fk [1] κ h h') := by
  refine wq_eq e_Finder_ofSignal ?_
  rcases v2 with _ | q1
  · refine wq_t rfl ?_
    exact wq_some (rV_i ⟨W, fk_0⟩)
  · have t2 := t2 q1 rfl
    refine wq_f nofun ?_
    refine wq_if _ (fun c3 => ?_) (fun c3 => ?_)
    · refine wk_at W t0 rfl (fun _ => ?_)
      refine wq_cR (s_Finder_down W t0) ?_
      rintro _ h4 ⟨rfl, a8, rfl, p7⟩
      obtain ⟨i_9, l_9, lo_9, hi_9, nw_9, ls_9, ev_9, ac_9, e_9, tnw_9, tls_9⟩ := o7 W t2
      refine wq_gR e_9 rfl ?_
      refine wk_at W p7 rfl (fun _ => ?_)
      refine wq_cV (s_Datum_copy W p7 tls_9) ?_
      rintro h10 ⟨W11, g12⟩
      have G13 := fk_c (ws := [1]) fk_0 g12 rfl
      have e14 := (g12 _ _ _ t2 rfl).trans e_9
      exact wq_some (rV_i ⟨W11, G13⟩)
    · refine wq_if _ (fun c15 => ?_) (fun c15 => ?_)
      · obtain ⟨i_16, l_16, lo_16, hi_16, nw_16, ls_16, ev_16, ac_16, e_16, tnw_16, tls_16⟩ := o7 W t2
        refine wq_gI e_16 rfl ?_
        refine wk_at W t0 rfl (fun _ => ?_)
        refine wq_cR (s_Finder_down W t0) ?_
        rintro _ h17 ⟨rfl, a21, rfl, p20⟩
        refine wq_if _ (fun c22 => ?_) (fun c22 => ?_)
        · refine wk_at W p20 rfl (fun _ => ?_)
          refine wq_cV (s_Datum_beNumber W p20) ?_
          rintro h23 ⟨W24, g25⟩
          have G26 := fk_c (ws := [1]) fk_0 g25 rfl
          have e27 := (g25 _ _ _ t2 rfl).trans e_16
          exact wq_some (rV_i ⟨W24, G26⟩)
        · refine wk_at W p20 rfl (fun _ => ?_)
          refine wq_cV (s_Datum_beNumber W p20) ?_
          rintro h28 ⟨W29, g30⟩
          have G31 := fk_c (ws := [1]) fk_0 g30 rfl
          have e32 := (g30 _ _ _ t2 rfl).trans e_16
          exact wq_some (rV_i ⟨W29, G31⟩)
      · obtain ⟨i_33, l_33, lo_33, hi_33, nw_33, ls_33, ev_33, ac_33, e_33, tnw_33, tls_33⟩ := o7 W t2
        refine wq_gI e_33 rfl ?_
        refine wk_at W t0 rfl (fun _ => ?_)
        refine wq_cR (s_Finder_down W t0) ?_
        rintro _ h34 ⟨rfl, a38, rfl, p37⟩
        refine wq_if _ (fun c39 => ?_) (fun c39 => ?_)
        · refine wk_at W p37 rfl (fun _ => ?_)
          refine wq_cV (s_Datum_beNumber W p37) ?_
          rintro h40 ⟨W41, g42⟩
          have G43 := fk_c (ws := [1]) fk_0 g42 rfl
          have e44 := (g42 _ _ _ t2 rfl).trans e_33
          exact wq_some (rV_i ⟨W41, G43⟩)
        · refine wk_at W p37 rfl (fun _ => ?_)
          refine wq_cV (s_Datum_beNumber W p37) ?_
          rintro h45 ⟨W46, g47⟩
          have G48 := fk_c (ws := [1]) fk_0 g47 rfl
          have e49 := (g47 _ _ _ t2 rfl).trans e_33
          exact wq_some (rV_i ⟨W46, G48⟩)
theorem s_Finder_time {d : Nat} {h : ah_H} {v0 : Int32} {v1 : Nat} (W : cI K κ b h) (t1 : κ v1 = some (1, 0)) : wq (vc lim (d + 2) m_Finder_time [.inl v0, .inr (.inr (some v1))] h) (rI fun x h' => cI K κ b h' ∧ fk [1] κ h h' ∧ True) := by
  refine wq_eq e_Finder_time ?_
  obtain ⟨i_1, l_1, n_1, bA_1, bB_1, bC_1, bD_1, e_1⟩ := o1 W t1
  refine wq_gI e_1 rfl ?_
  refine wq_if _ (fun c2 => ?_) (fun c2 => ?_)
  · refine wq_gJ e_1 rfl ?_
    refine wq_if _ (fun c3 => ?_) (fun c3 => ?_)
    · exact wq_some (rI_i ⟨W, fk_0, trivial⟩)
    · refine wq_gJ e_1 rfl ?_
      refine wk_at W t1 rfl (fun _ => ?_)
      refine wq_cV (s_Datum_beNumber W t1) ?_
      rintro h4 ⟨W5, g6⟩
      have G7 := fk_c (ws := [1]) fk_0 g6 rfl
      exact wq_some (rI_i ⟨W5, G7, trivial⟩)
  · exact wq_some (rI_i ⟨W, fk_0, trivial⟩)
theorem s_Finder_settle {d : Nat} {h : ah_H} {v0 : Nat} {v1 : Int64} {v3 : Int64} {v5 : Int64} (W : cI K κ b h) (t0 : κ v0 = some (1, 0)) : wq (vc lim (d + 2) m_Finder_settle [.inr (.inr (some v0)), .inr (.inl v1), .inr (.inl v3), .inr (.inl v5)] h) (rV fun h' => cI K κ b h' ∧ fk [1] κ h h') := by
  refine wq_eq e_Finder_settle ?_
  obtain ⟨i_1, l_1, n_1, bA_1, bB_1, bC_1, bD_1, e_1⟩ := o1 W t0
  refine wq_gI e_1 rfl ?_
  refine wq_gI e_1 rfl ?_
  refine wk_at W t0 rfl (fun _ => ?_)
  refine wq_cV (s_Datum_hold W t0) ?_
  rintro h2 ⟨W3, g4⟩
  have G5 := fk_c (ws := [1]) fk_0 g4 rfl
  exact wq_some (rV_i ⟨W3, G5⟩)
theorem s_Finder_one {d : Nat} {h : ah_H} {v0 : Int32} {v1 : Nat} (W : cI K κ b h) (t1 : κ v1 = some (1, 0)) : wq (vc lim (d + 3) m_Finder_one [.inl v0, .inr (.inr (some v1))] h) (rI fun x h' => cI K κ b h' ∧ fk [1] κ h h' ∧ True) := by
  refine wq_eq e_Finder_one ?_
  obtain ⟨i_1, l_1, n_1, bA_1, bB_1, bC_1, bD_1, e_1⟩ := o1 W t1
  refine wq_gI e_1 rfl ?_
  refine wq_if _ (fun c2 => ?_) (fun c2 => ?_)
  · refine wq_if _ (fun c3 => ?_) (fun c3 => ?_)
    · refine wq_gJ e_1 rfl ?_
      refine wq_if _ (fun c4 => ?_) (fun c4 => ?_)
      · refine wk_at W t1 rfl (fun _ => ?_)
        refine wq_cV (s_Datum_beNumber W t1) ?_
        rintro h5 ⟨W6, g7⟩
        have G8 := fk_c (ws := [1]) fk_0 g7 rfl
        exact wq_some (rI_i ⟨W6, G8, trivial⟩)
      · refine wk_at W t1 rfl (fun _ => ?_)
        refine wq_cV (s_Datum_beNumber W t1) ?_
        rintro h9 ⟨W10, g11⟩
        have G12 := fk_c (ws := [1]) fk_0 g11 rfl
        exact wq_some (rI_i ⟨W10, G12, trivial⟩)
    · refine wq_if _ (fun c13 => ?_) (fun c13 => ?_)
      · refine wq_gJ e_1 rfl ?_
        refine wk_at W t1 rfl (fun _ => ?_)
        refine wq_cV (s_Datum_beNumber W t1) ?_
        rintro h14 ⟨W15, g16⟩
        have G17 := fk_c (ws := [1]) fk_0 g16 rfl
        exact wq_some (rI_i ⟨W15, G17, trivial⟩)
      · refine wq_if _ (fun c18 => ?_) (fun c18 => ?_)
        · refine wq_gJ e_1 rfl ?_
          refine wq_if _ (fun c19 => ?_) (fun c19 => ?_)
          · refine wq_gJ e_1 rfl ?_
            refine wk_at W t1 rfl (fun _ => ?_)
            refine wq_cV (s_Datum_beNumber W t1) ?_
            rintro h20 ⟨W21, g22⟩
            have G23 := fk_c (ws := [1]) fk_0 g22 rfl
            exact wq_some (rI_i ⟨W21, G23, trivial⟩)
          · exact wq_some (rI_i ⟨W, fk_0, trivial⟩)
        · exact wq_some (rI_i ⟨W, fk_0, trivial⟩)
  · refine wq_if _ (fun c24 => ?_) (fun c24 => ?_)
    · refine wk_at W t1 rfl (fun _ => ?_)
      refine wq_cJ (s_Datum_ones W t1) ?_
      rintro j27 h25 ⟨rfl, p28⟩
      refine wk_at W t1 rfl (fun _ => ?_)
      refine wq_cJ (s_Datum_zeros W t1) ?_
      rintro j31 h29 ⟨rfl, p32⟩
      refine wk_at W t1 rfl (fun _ => ?_)
      refine wq_cJ (s_Datum_unset W t1) ?_
      rintro j35 h33 ⟨rfl, p36⟩
      refine wq_cV (s_Finder_settle W t1) ?_
      rintro h37 ⟨W38, g39⟩
      have G40 := fk_c (ws := [1]) fk_0 g39 rfl
      exact wq_some (rI_i ⟨W38, G40, trivial⟩)
    · exact wq_some (rI_i ⟨W, fk_0, trivial⟩)
theorem s_Finder_isTurned {d : Nat} {h : ah_H} {v0 : Int32} (W : cI K κ b h)  : wq (vc lim (d + 1) m_Finder_isTurned [.inl v0] h) (rI fun x h' => h' = h ∧ (x = 0 ∨ x = 1)) := by
  refine wq_eq e_Finder_isTurned ?_
  refine wq_if _ (fun c1 => ?_) (fun c1 => ?_)
  · exact wq_t (Or.inr rfl) (wq_some (rI_i ⟨rfl, (Or.inr rfl)⟩))
  · refine wq_if _ (fun c2 => ?_) (fun c2 => ?_)
    · exact wq_t (Or.inr rfl) (wq_some (rI_i ⟨rfl, (Or.inr rfl)⟩))
    · refine wq_if _ (fun c3 => ?_) (fun c3 => ?_)
      · exact wq_t (Or.inr rfl) (wq_some (rI_i ⟨rfl, (Or.inr rfl)⟩))
      · exact wq_t (Or.inl rfl) (wq_some (rI_i ⟨rfl, (Or.inl rfl)⟩))
theorem j_153_105 {d : Nat} {h h1 : ah_H} {v0 : Int32} {v1 : Nat} {s0 : Int32} (tv1 : κ v1 = some (1, 0)) (W : cI K κ b h1) (G : fk [1] κ h h1) : wq (ah_val lim ah_P (d + 1) 153 105 [some (.inl v0), some (.inr (.inr (some v1))), none, none, none, none] [.inl s0] h1) (rI fun x h' => cI K κ b h' ∧ fk [1] κ h h' ∧ True) := by
  refine wq_eq q_153_105 ?_
  refine wq_cI (s_Finder_isTurned W) ?_
  rintro y3 h1 ⟨rfl, p4⟩
  refine wq_if _ (fun c5 => ?_) (fun c5 => ?_)
  · refine wk_at W tv1 rfl (fun _ => ?_)
    refine wq_cV (s_Datum_beNumber W tv1) ?_
    rintro h6 ⟨W7, g8⟩
    have G9 := fk_c (ws := [1]) G g8 rfl
    exact wq_some (rI_i ⟨W7, G9, trivial⟩)
  · refine wk_at W tv1 rfl (fun _ => ?_)
    refine wq_cV (s_Datum_beNumber W tv1) ?_
    rintro h10 ⟨W11, g12⟩
    have G13 := fk_c (ws := [1]) G g12 rfl
    exact wq_some (rI_i ⟨W11, G13, trivial⟩)
theorem j_153_39 {d : Nat} {h h1 : ah_H} {v0 : Int32} {v1 : Nat} {v3 : Int32} {s0 : Int32} (tv1 : κ v1 = some (1, 0)) (W : cI K κ b h1) (G : fk [1] κ h h1) : wq (ah_val lim ah_P (d + 1) 153 39 [some (.inl v0), some (.inr (.inr (some v1))), none, some (.inl v3), none, none] [.inl s0] h1) (rI fun x h' => cI K κ b h' ∧ fk [1] κ h h' ∧ True) := by
  refine wq_eq q_153_39 ?_
  refine wq_if _ (fun c1 => ?_) (fun c1 => ?_)
  · refine wq_if _ (fun c2 => ?_) (fun c2 => ?_)
    · exact j_153_105 tv1 W G
    · refine wq_if _ (fun c3 => ?_) (fun c3 => ?_)
      · exact j_153_105 tv1 W G
      · exact j_153_105 tv1 W G
  · refine wq_if _ (fun c4 => ?_) (fun c4 => ?_)
    · refine wq_if _ (fun c5 => ?_) (fun c5 => ?_)
      · exact j_153_105 tv1 W G
      · refine wq_if _ (fun c6 => ?_) (fun c6 => ?_)
        · exact j_153_105 tv1 W G
        · exact j_153_105 tv1 W G
    · refine wq_if _ (fun c7 => ?_) (fun c7 => ?_)
      · refine wq_if _ (fun c8 => ?_) (fun c8 => ?_)
        · refine wq_if _ (fun c9 => ?_) (fun c9 => ?_)
          · exact j_153_105 tv1 W G
          · exact j_153_105 tv1 W G
        · exact j_153_105 tv1 W G
      · refine wq_if _ (fun c10 => ?_) (fun c10 => ?_)
        · refine wq_if _ (fun c11 => ?_) (fun c11 => ?_)
          · refine wq_if _ (fun c12 => ?_) (fun c12 => ?_)
            · exact j_153_105 tv1 W G
            · exact j_153_105 tv1 W G
          · exact j_153_105 tv1 W G
        · refine wq_if _ (fun c13 => ?_) (fun c13 => ?_)
          · exact j_153_105 tv1 W G
          · exact j_153_105 tv1 W G
theorem s_Finder_truths {d : Nat} {h : ah_H} {v0 : Int32} {v1 : Nat} {v2 : Nat} (W : cI K κ b h) (t1 : κ v1 = some (1, 0)) (t2 : κ v2 = some (1, 0)) : wq (vc lim (d + 2) m_Finder_truths [.inl v0, .inr (.inr (some v1)), .inr (.inr (some v2))] h) (rI fun x h' => cI K κ b h' ∧ fk [1] κ h h' ∧ True) := by
  refine wq_eq e_Finder_truths ?_
  obtain ⟨i_1, l_1, n_1, bA_1, bB_1, bC_1, bD_1, e_1⟩ := o1 W t2
  refine wq_gI e_1 rfl ?_
  refine wq_if _ (fun c2 => ?_) (fun c2 => ?_)
  · obtain ⟨i_3, l_3, n_3, bA_3, bB_3, bC_3, bD_3, e_3⟩ := o1 W t1
    refine wq_gJ e_3 rfl ?_
    refine wq_if _ (fun c4 => ?_) (fun c4 => ?_)
    · refine wq_gJ e_1 rfl ?_
      refine wq_if _ (fun c5 => ?_) (fun c5 => ?_)
      · exact j_153_39 t1 W fk_0
      · exact j_153_39 t1 W fk_0
    · refine wq_gJ e_1 rfl ?_
      refine wq_if _ (fun c6 => ?_) (fun c6 => ?_)
      · exact j_153_39 t1 W fk_0
      · exact j_153_39 t1 W fk_0
  · exact wq_some (rI_i ⟨W, fk_0, trivial⟩)
theorem s_Finder_logics {d : Nat} {h : ah_H} {v0 : Int32} {v1 : Nat} {v2 : Nat} (W : cI K κ b h) (t1 : κ v1 = some (1, 0)) (t2 : κ v2 = some (1, 0)) : wq (vc lim (d + 2) m_Finder_logics [.inl v0, .inr (.inr (some v1)), .inr (.inr (some v2))] h) (rI fun x h' => cI K κ b h' ∧ fk [1] κ h h' ∧ True) := by
  refine wq_eq e_Finder_logics ?_
  refine wk_at W t1 rfl (fun _ => ?_)
  refine wq_cI (s_Datum_unlike W t1 t2) ?_
  rintro y3 h1 ⟨rfl, p4⟩
  refine wq_if _ (fun c5 => ?_) (fun c5 => ?_)
  · refine wk_at W t1 rfl (fun _ => ?_)
    refine wq_cJ (s_Datum_unset W t1) ?_
    rintro j8 h6 ⟨rfl, p9⟩
    refine wk_at W t2 rfl (fun _ => ?_)
    refine wq_cJ (s_Datum_unset W t2) ?_
    rintro j12 h10 ⟨rfl, p13⟩
    refine wq_if _ (fun c14 => ?_) (fun c14 => ?_)
    · refine wk_at W t1 rfl (fun _ => ?_)
      refine wq_cJ (s_Datum_zeros W t1) ?_
      rintro j17 h15 ⟨rfl, p18⟩
      refine wk_at W t2 rfl (fun _ => ?_)
      refine wq_cJ (s_Datum_zeros W t2) ?_
      rintro j21 h19 ⟨rfl, p22⟩
      refine wk_at W t1 rfl (fun _ => ?_)
      refine wq_cJ (s_Datum_ones W t1) ?_
      rintro j25 h23 ⟨rfl, p26⟩
      refine wk_at W t2 rfl (fun _ => ?_)
      refine wq_cJ (s_Datum_ones W t2) ?_
      rintro j29 h27 ⟨rfl, p30⟩
      refine wq_eq q_155_135 ?_
      refine wq_cI (s_Finder_isTurned W) ?_
      rintro y33 h31 ⟨rfl, p34⟩
      obtain ⟨i_35, l_35, n_35, bA_35, bB_35, bC_35, bD_35, e_35⟩ := o1 W t1
      refine wq_gI e_35 rfl ?_
      refine wq_gI e_35 rfl ?_
      refine wq_if _ (fun c36 => ?_) (fun c36 => ?_)
      · refine wk_at W t1 rfl (fun _ => ?_)
        refine wq_cV (s_Datum_hold W t1) ?_
        rintro h37 ⟨W38, g39⟩
        have G40 := fk_c (ws := [1]) fk_0 g39 rfl
        exact wq_some (rI_i ⟨W38, G40, trivial⟩)
      · refine wk_at W t1 rfl (fun _ => ?_)
        refine wq_cV (s_Datum_hold W t1) ?_
        rintro h41 ⟨W42, g43⟩
        have G44 := fk_c (ws := [1]) fk_0 g43 rfl
        exact wq_some (rI_i ⟨W42, G44, trivial⟩)
    · refine wq_if _ (fun c45 => ?_) (fun c45 => ?_)
      · refine wk_at W t1 rfl (fun _ => ?_)
        refine wq_cJ (s_Datum_zeros W t1) ?_
        rintro j48 h46 ⟨rfl, p49⟩
        refine wk_at W t2 rfl (fun _ => ?_)
        refine wq_cJ (s_Datum_zeros W t2) ?_
        rintro j52 h50 ⟨rfl, p53⟩
        refine wk_at W t1 rfl (fun _ => ?_)
        refine wq_cJ (s_Datum_ones W t1) ?_
        rintro j56 h54 ⟨rfl, p57⟩
        refine wk_at W t2 rfl (fun _ => ?_)
        refine wq_cJ (s_Datum_ones W t2) ?_
        rintro j60 h58 ⟨rfl, p61⟩
        refine wq_eq q_155_135 ?_
        refine wq_cI (s_Finder_isTurned W) ?_
        rintro y64 h62 ⟨rfl, p65⟩
        obtain ⟨i_66, l_66, n_66, bA_66, bB_66, bC_66, bD_66, e_66⟩ := o1 W t1
        refine wq_gI e_66 rfl ?_
        refine wq_gI e_66 rfl ?_
        refine wq_if _ (fun c67 => ?_) (fun c67 => ?_)
        · refine wk_at W t1 rfl (fun _ => ?_)
          refine wq_cV (s_Datum_hold W t1) ?_
          rintro h68 ⟨W69, g70⟩
          have G71 := fk_c (ws := [1]) fk_0 g70 rfl
          exact wq_some (rI_i ⟨W69, G71, trivial⟩)
        · refine wk_at W t1 rfl (fun _ => ?_)
          refine wq_cV (s_Datum_hold W t1) ?_
          rintro h72 ⟨W73, g74⟩
          have G75 := fk_c (ws := [1]) fk_0 g74 rfl
          exact wq_some (rI_i ⟨W73, G75, trivial⟩)
      · refine wq_if _ (fun c76 => ?_) (fun c76 => ?_)
        · refine wk_at W t1 rfl (fun _ => ?_)
          refine wq_cJ (s_Datum_zeros W t1) ?_
          rintro j79 h77 ⟨rfl, p80⟩
          refine wk_at W t2 rfl (fun _ => ?_)
          refine wq_cJ (s_Datum_zeros W t2) ?_
          rintro j83 h81 ⟨rfl, p84⟩
          refine wk_at W t1 rfl (fun _ => ?_)
          refine wq_cJ (s_Datum_ones W t1) ?_
          rintro j87 h85 ⟨rfl, p88⟩
          refine wk_at W t2 rfl (fun _ => ?_)
          refine wq_cJ (s_Datum_ones W t2) ?_
          rintro j91 h89 ⟨rfl, p92⟩
          refine wq_eq q_155_135 ?_
          refine wq_cI (s_Finder_isTurned W) ?_
          rintro y95 h93 ⟨rfl, p96⟩
          obtain ⟨i_97, l_97, n_97, bA_97, bB_97, bC_97, bD_97, e_97⟩ := o1 W t1
          refine wq_gI e_97 rfl ?_
          refine wq_gI e_97 rfl ?_
          refine wq_if _ (fun c98 => ?_) (fun c98 => ?_)
          · refine wk_at W t1 rfl (fun _ => ?_)
            refine wq_cV (s_Datum_hold W t1) ?_
            rintro h99 ⟨W100, g101⟩
            have G102 := fk_c (ws := [1]) fk_0 g101 rfl
            exact wq_some (rI_i ⟨W100, G102, trivial⟩)
          · refine wk_at W t1 rfl (fun _ => ?_)
            refine wq_cV (s_Datum_hold W t1) ?_
            rintro h103 ⟨W104, g105⟩
            have G106 := fk_c (ws := [1]) fk_0 g105 rfl
            exact wq_some (rI_i ⟨W104, G106, trivial⟩)
        · refine wq_if _ (fun c107 => ?_) (fun c107 => ?_)
          · refine wk_at W t1 rfl (fun _ => ?_)
            refine wq_cJ (s_Datum_zeros W t1) ?_
            rintro j110 h108 ⟨rfl, p111⟩
            refine wk_at W t2 rfl (fun _ => ?_)
            refine wq_cJ (s_Datum_zeros W t2) ?_
            rintro j114 h112 ⟨rfl, p115⟩
            refine wk_at W t1 rfl (fun _ => ?_)
            refine wq_cJ (s_Datum_ones W t1) ?_
            rintro j118 h116 ⟨rfl, p119⟩
            refine wk_at W t2 rfl (fun _ => ?_)
            refine wq_cJ (s_Datum_ones W t2) ?_
            rintro j122 h120 ⟨rfl, p123⟩
            refine wq_eq q_155_135 ?_
            refine wq_cI (s_Finder_isTurned W) ?_
            rintro y126 h124 ⟨rfl, p127⟩
            obtain ⟨i_128, l_128, n_128, bA_128, bB_128, bC_128, bD_128, e_128⟩ := o1 W t1
            refine wq_gI e_128 rfl ?_
            refine wq_gI e_128 rfl ?_
            refine wq_if _ (fun c129 => ?_) (fun c129 => ?_)
            · refine wk_at W t1 rfl (fun _ => ?_)
              refine wq_cV (s_Datum_hold W t1) ?_
              rintro h130 ⟨W131, g132⟩
              have G133 := fk_c (ws := [1]) fk_0 g132 rfl
              exact wq_some (rI_i ⟨W131, G133, trivial⟩)
            · refine wk_at W t1 rfl (fun _ => ?_)
              refine wq_cV (s_Datum_hold W t1) ?_
              rintro h134 ⟨W135, g136⟩
              have G137 := fk_c (ws := [1]) fk_0 g136 rfl
              exact wq_some (rI_i ⟨W135, G137, trivial⟩)
          · refine wk_at W t1 rfl (fun _ => ?_)
            refine wq_cJ (s_Datum_zeros W t1) ?_
            rintro j140 h138 ⟨rfl, p141⟩
            refine wk_at W t2 rfl (fun _ => ?_)
            refine wq_cJ (s_Datum_zeros W t2) ?_
            rintro j144 h142 ⟨rfl, p145⟩
            refine wk_at W t1 rfl (fun _ => ?_)
            refine wq_cJ (s_Datum_ones W t1) ?_
            rintro j148 h146 ⟨rfl, p149⟩
            refine wk_at W t2 rfl (fun _ => ?_)
            refine wq_cJ (s_Datum_ones W t2) ?_
            rintro j152 h150 ⟨rfl, p153⟩
            refine wk_at W t1 rfl (fun _ => ?_)
            refine wq_cJ (s_Datum_zeros W t1) ?_
            rintro j156 h154 ⟨rfl, p157⟩
            refine wk_at W t2 rfl (fun _ => ?_)
            refine wq_cJ (s_Datum_ones W t2) ?_
            rintro j160 h158 ⟨rfl, p161⟩
            refine wk_at W t1 rfl (fun _ => ?_)
            refine wq_cJ (s_Datum_ones W t1) ?_
            rintro j164 h162 ⟨rfl, p165⟩
            refine wk_at W t2 rfl (fun _ => ?_)
            refine wq_cJ (s_Datum_zeros W t2) ?_
            rintro j168 h166 ⟨rfl, p169⟩
            refine wq_eq q_155_135 ?_
            refine wq_cI (s_Finder_isTurned W) ?_
            rintro y172 h170 ⟨rfl, p173⟩
            obtain ⟨i_174, l_174, n_174, bA_174, bB_174, bC_174, bD_174, e_174⟩ := o1 W t1
            refine wq_gI e_174 rfl ?_
            refine wq_gI e_174 rfl ?_
            refine wq_if _ (fun c175 => ?_) (fun c175 => ?_)
            · refine wk_at W t1 rfl (fun _ => ?_)
              refine wq_cV (s_Datum_hold W t1) ?_
              rintro h176 ⟨W177, g178⟩
              have G179 := fk_c (ws := [1]) fk_0 g178 rfl
              exact wq_some (rI_i ⟨W177, G179, trivial⟩)
            · refine wk_at W t1 rfl (fun _ => ?_)
              refine wq_cV (s_Datum_hold W t1) ?_
              rintro h180 ⟨W181, g182⟩
              have G183 := fk_c (ws := [1]) fk_0 g182 rfl
              exact wq_some (rI_i ⟨W181, G183, trivial⟩)
  · refine wk_at W t1 rfl (fun _ => ?_)
    refine wq_cI (s_Datum_unlike W t1 t2) ?_
    rintro y186 h184 ⟨rfl, p187⟩
    exact wq_some (rI_i ⟨W, fk_0, trivial⟩)
theorem s_Finder_same {d : Nat} {h : ah_H} {v0 : Int32} {v1 : Nat} {v2 : Nat} (W : cI K κ b h) (z0 : v0 = 0 ∨ v0 = 1) (t1 : κ v1 = some (1, 0)) (t2 : κ v2 = some (1, 0)) : wq (vc lim (d + 2) m_Finder_same [.inl v0, .inr (.inr (some v1)), .inr (.inr (some v2))] h) (rI fun x h' => cI K κ b h' ∧ fk [1] κ h h' ∧ True) := by
  refine wq_eq e_Finder_same ?_
  refine wk_at W t1 rfl (fun _ => ?_)
  refine wq_cI (s_Datum_unlike W t1 t2) ?_
  rintro y3 h1 ⟨rfl, p4⟩
  refine wq_if _ (fun c5 => ?_) (fun c5 => ?_)
  · refine wk_at W t1 rfl (fun _ => ?_)
    refine wq_cI (s_Datum_isSame W t1 t2) ?_
    rintro y8 h6 ⟨rfl, p9⟩
    refine wq_if _ (fun c10 => ?_) (fun c10 => ?_)
    · refine wk_at W t1 rfl (fun _ => ?_)
      refine wq_cV (s_Datum_beNumber W t1) ?_
      rintro h11 ⟨W12, g13⟩
      have G14 := fk_c (ws := [1]) fk_0 g13 rfl
      exact wq_some (rI_i ⟨W12, G14, trivial⟩)
    · refine wk_at W t1 rfl (fun _ => ?_)
      refine wq_cV (s_Datum_beNumber W t1) ?_
      rintro h15 ⟨W16, g17⟩
      have G18 := fk_c (ws := [1]) fk_0 g17 rfl
      exact wq_some (rI_i ⟨W16, G18, trivial⟩)
  · exact wq_some (rI_i ⟨W, fk_0, trivial⟩)
theorem j_157_174 {d : Nat} {h h1 : ah_H} {v1 : Nat} {v7 : Int32} {v8 : Int32} {s0 : Int32} (tv1 : κ v1 = some (1, 0)) (W : cI K κ b h1) (G : fk [1] κ h h1) : wq (ah_val lim ah_P (d + 1) 157 174 [none, some (.inr (.inr (some v1))), none, none, none, none, none, some (.inl v7), some (.inl v8), none] [.inl s0] h1) (rI fun x h' => cI K κ b h' ∧ fk [1] κ h h' ∧ True) := by
  refine wq_eq q_157_174 ?_
  refine wq_if _ (fun c1 => ?_) (fun c1 => ?_)
  · refine wk_at W tv1 rfl (fun _ => ?_)
    refine wq_cV (s_Datum_beNumber W tv1) ?_
    rintro h2 ⟨W3, g4⟩
    have G5 := fk_c (ws := [1]) G g4 rfl
    exact wq_some (rI_i ⟨W3, G5, trivial⟩)
  · refine wq_if _ (fun c6 => ?_) (fun c6 => ?_)
    · refine wq_if _ (fun c7 => ?_) (fun c7 => ?_)
      · refine wk_at W tv1 rfl (fun _ => ?_)
        refine wq_cV (s_Datum_beNumber W tv1) ?_
        rintro h8 ⟨W9, g10⟩
        have G11 := fk_c (ws := [1]) G g10 rfl
        exact wq_some (rI_i ⟨W9, G11, trivial⟩)
      · refine wk_at W tv1 rfl (fun _ => ?_)
        refine wq_cV (s_Datum_beNumber W tv1) ?_
        rintro h12 ⟨W13, g14⟩
        have G15 := fk_c (ws := [1]) G g14 rfl
        exact wq_some (rI_i ⟨W13, G15, trivial⟩)
    · refine wk_at W tv1 rfl (fun _ => ?_)
      refine wq_cV (s_Datum_beNumber W tv1) ?_
      rintro h16 ⟨W17, g18⟩
      have G19 := fk_c (ws := [1]) G g18 rfl
      exact wq_some (rI_i ⟨W17, G19, trivial⟩)
theorem j_157_141 {d : Nat} {h h1 : ah_H} {v0 : Int32} {v1 : Nat} {v3 : Int64} {v5 : Int64} {v7 : Int32} {s0 : Int32} (tv1 : κ v1 = some (1, 0)) (W : cI K κ b h1) (G : fk [1] κ h h1) : wq (ah_val lim ah_P (d + 1) 157 141 [some (.inl v0), some (.inr (.inr (some v1))), none, some (.inr (.inl v3)), none, some (.inr (.inl v5)), none, some (.inl v7), none, none] [.inl s0] h1) (rI fun x h' => cI K κ b h' ∧ fk [1] κ h h' ∧ True) := by
  refine wq_eq q_157_141 ?_
  refine wq_if _ (fun c1 => ?_) (fun c1 => ?_)
  · refine wq_if _ (fun c2 => ?_) (fun c2 => ?_)
    · refine wq_if _ (fun c3 => ?_) (fun c3 => ?_)
      · refine wq_if _ (fun c4 => ?_) (fun c4 => ?_)
        · exact j_157_174 tv1 W G
        · exact j_157_174 tv1 W G
      · exact j_157_174 tv1 W G
    · exact j_157_174 tv1 W G
  · refine wq_if _ (fun c5 => ?_) (fun c5 => ?_)
    · refine wq_if _ (fun c6 => ?_) (fun c6 => ?_)
      · exact j_157_174 tv1 W G
      · exact j_157_174 tv1 W G
    · exact j_157_174 tv1 W G
theorem j_157_108 {d : Nat} {h h1 : ah_H} {v0 : Int32} {v1 : Nat} {v3 : Int64} {v5 : Int64} {s0 : Int32} (tv1 : κ v1 = some (1, 0)) (W : cI K κ b h1) (G : fk [1] κ h h1) : wq (ah_val lim ah_P (d + 1) 157 108 [some (.inl v0), some (.inr (.inr (some v1))), none, some (.inr (.inl v3)), none, some (.inr (.inl v5)), none, none, none, none] [.inl s0] h1) (rI fun x h' => cI K κ b h' ∧ fk [1] κ h h' ∧ True) := by
  refine wq_eq q_157_108 ?_
  refine wq_if _ (fun c1 => ?_) (fun c1 => ?_)
  · refine wq_if _ (fun c2 => ?_) (fun c2 => ?_)
    · exact j_157_141 tv1 W G
    · refine wq_if _ (fun c3 => ?_) (fun c3 => ?_)
      · refine wq_if _ (fun c4 => ?_) (fun c4 => ?_)
        · exact j_157_141 tv1 W G
        · exact j_157_141 tv1 W G
      · exact j_157_141 tv1 W G
  · refine wq_if _ (fun c5 => ?_) (fun c5 => ?_)
    · refine wq_if _ (fun c6 => ?_) (fun c6 => ?_)
      · exact j_157_141 tv1 W G
      · exact j_157_141 tv1 W G
    · exact j_157_141 tv1 W G
theorem j_157_79 {d : Nat} {h h1 : ah_H} {v0 : Int32} {v1 : Nat} {v2 : Nat} {v3 : Int64} {s0 : Int64} (tv1 : κ v1 = some (1, 0)) (tv2 : κ v2 = some (1, 0)) (W : cI K κ b h1) (G : fk [1] κ h h1) : wq (ah_val lim ah_P (d + 1) 157 79 [some (.inl v0), some (.inr (.inr (some v1))), some (.inr (.inr (some v2))), some (.inr (.inl v3)), none, none, none, none, none, none] [.inr (.inl s0)] h1) (rI fun x h' => cI K κ b h' ∧ fk [1] κ h h' ∧ True) := by
  refine wq_eq q_157_79 ?_
  obtain ⟨i_1, l_1, n_1, bA_1, bB_1, bC_1, bD_1, e_1⟩ := o1 W tv1
  refine wq_gI e_1 rfl ?_
  refine wq_if _ (fun c2 => ?_) (fun c2 => ?_)
  · exact j_157_108 tv1 W G
  · refine wk_at W tv1 rfl (fun _ => ?_)
    refine wq_cI (s_Datum_isClear W tv1) ?_
    rintro y5 h3 ⟨rfl, p6⟩
    refine wq_if _ (fun c7 => ?_) (fun c7 => ?_)
    · exact j_157_108 tv1 W G
    · refine wk_at W tv2 rfl (fun _ => ?_)
      refine wq_cI (s_Datum_isClear W tv2) ?_
      rintro y10 h8 ⟨rfl, p11⟩
      refine wq_if _ (fun c12 => ?_) (fun c12 => ?_)
      · exact j_157_108 tv1 W G
      · exact j_157_108 tv1 W G
theorem s_Finder_order {d : Nat} {h : ah_H} {v0 : Int32} {v1 : Nat} {v2 : Nat} (W : cI K κ b h) (t1 : κ v1 = some (1, 0)) (t2 : κ v2 = some (1, 0)) : wq (vc lim (d + 2) m_Finder_order [.inl v0, .inr (.inr (some v1)), .inr (.inr (some v2))] h) (rI fun x h' => cI K κ b h' ∧ fk [1] κ h h' ∧ True) := by
  refine wq_eq e_Finder_order ?_
  obtain ⟨i_1, l_1, n_1, bA_1, bB_1, bC_1, bD_1, e_1⟩ := o1 W t1
  refine wq_gI e_1 rfl ?_
  refine wq_if _ (fun c2 => ?_) (fun c2 => ?_)
  · refine wq_gI e_1 rfl ?_
    refine wq_t c2 ?_
    exact wq_some (rI_i ⟨W, fk_0, trivial⟩)
  · refine wk_at W t1 rfl (fun _ => ?_)
    refine wq_cI (s_Datum_unlike W t1 t2) ?_
    rintro y5 h3 ⟨rfl, p6⟩
    refine wq_if _ (fun c7 => ?_) (fun c7 => ?_)
    · refine wq_gI e_1 rfl ?_
      refine wq_if _ (fun c8 => ?_) (fun c8 => ?_)
      · refine wq_gJ e_1 rfl ?_
        refine wq_gI e_1 rfl ?_
        refine wq_if _ (fun c9 => ?_) (fun c9 => ?_)
        · obtain ⟨i_10, l_10, n_10, bA_10, bB_10, bC_10, bD_10, e_10⟩ := o1 W t2
          refine wq_gJ e_10 rfl ?_
          exact j_157_79 t1 t2 W fk_0
        · refine wk_at W t2 rfl (fun _ => ?_)
          refine wq_cJ (s_Datum_ones W t2) ?_
          rintro j13 h11 ⟨rfl, p14⟩
          exact j_157_79 t1 t2 W fk_0
      · refine wk_at W t1 rfl (fun _ => ?_)
        refine wq_cJ (s_Datum_ones W t1) ?_
        rintro j17 h15 ⟨rfl, p18⟩
        refine wq_gI e_1 rfl ?_
        refine wq_if _ (fun c19 => ?_) (fun c19 => ?_)
        · obtain ⟨i_20, l_20, n_20, bA_20, bB_20, bC_20, bD_20, e_20⟩ := o1 W t2
          refine wq_gJ e_20 rfl ?_
          exact j_157_79 t1 t2 W fk_0
        · refine wk_at W t2 rfl (fun _ => ?_)
          refine wq_cJ (s_Datum_ones W t2) ?_
          rintro j23 h21 ⟨rfl, p24⟩
          exact j_157_79 t1 t2 W fk_0
    · refine wq_gI e_1 rfl ?_
      refine wq_f c2 ?_
      refine wk_at W t1 rfl (fun _ => ?_)
      refine wq_cI (s_Datum_unlike W t1 t2) ?_
      rintro y27 h25 ⟨rfl, p28⟩
      exact wq_some (rI_i ⟨W, fk_0, trivial⟩)
theorem j_158_147 {d : Nat} {h h1 : ah_H} {v0 : Int32} {v1 : Nat} {v3 : Int32} {v4 : Int64} {v6 : Int64} (tv1 : κ v1 = some (1, 0)) (W : cI K κ b h1) (G : fk [1] κ h h1) : wq (ah_val lim ah_P (d + 1) 158 147 [some (.inl v0), some (.inr (.inr (some v1))), none, some (.inl v3), some (.inr (.inl v4)), none, some (.inr (.inl v6)), none] [] h1) (rI fun x h' => cI K κ b h' ∧ fk [1] κ h h' ∧ True) := by
  refine wq_eq q_158_147 ?_
  refine wq_if _ (fun c1 => ?_) (fun c1 => ?_)
  · refine wk_at W tv1 rfl (fun _ => ?_)
    refine wq_cV (s_Datum_hold W tv1) ?_
    rintro h2 ⟨W3, g4⟩
    have G5 := fk_c (ws := [1]) G g4 rfl
    exact wq_some (rI_i ⟨W3, G5, trivial⟩)
  · refine wk_at W tv1 rfl (fun _ => ?_)
    refine wq_cV (s_Datum_hold W tv1) ?_
    rintro h6 ⟨W7, g8⟩
    have G9 := fk_c (ws := [1]) G g8 rfl
    exact wq_some (rI_i ⟨W7, G9, trivial⟩)
theorem j_158_117 {d : Nat} {h h1 : ah_H} {v0 : Int32} {v1 : Nat} {v2 : Nat} {v3 : Int32} {v4 : Int64} {v6 : Int64} (tv1 : κ v1 = some (1, 0)) (tv2 : κ v2 = some (1, 0)) (W : cI K κ b h1) (G : fk [1] κ h h1) : wq (ah_val lim ah_P (d + 1) 158 117 [some (.inl v0), some (.inr (.inr (some v1))), some (.inr (.inr (some v2))), some (.inl v3), some (.inr (.inl v4)), none, some (.inr (.inl v6)), none] [] h1) (rI fun x h' => cI K κ b h' ∧ fk [1] κ h h' ∧ True) := by
  refine wq_eq q_158_117 ?_
  obtain ⟨i_1, l_1, n_1, bA_1, bB_1, bC_1, bD_1, e_1⟩ := o1 W tv2
  refine wq_gI e_1 rfl ?_
  refine wq_if _ (fun c2 => ?_) (fun c2 => ?_)
  · refine wk_at W tv2 rfl (fun _ => ?_)
    refine wq_cI (s_Datum_isClear W tv2) ?_
    rintro y5 h3 ⟨rfl, p6⟩
    refine wq_if _ (fun c7 => ?_) (fun c7 => ?_)
    · refine wk_at W tv1 rfl (fun _ => ?_)
      refine wq_cV (s_Datum_hold W tv1) ?_
      rintro h8 ⟨W9, g10⟩
      have G11 := fk_c (ws := [1]) G g10 rfl
      exact wq_some (rI_i ⟨W9, G11, trivial⟩)
    · exact j_158_147 tv1 W G
  · exact j_158_147 tv1 W G
theorem j_158_100 {d : Nat} {h h1 : ah_H} {v0 : Int32} {v1 : Nat} {v2 : Nat} {v3 : Int32} {v4 : Int64} {s0 : Int64} (tv1 : κ v1 = some (1, 0)) (tv2 : κ v2 = some (1, 0)) (W : cI K κ b h1) (G : fk [1] κ h h1) : wq (ah_val lim ah_P (d + 1) 158 100 [some (.inl v0), some (.inr (.inr (some v1))), some (.inr (.inr (some v2))), some (.inl v3), some (.inr (.inl v4)), none, none, none] [.inr (.inl s0)] h1) (rI fun x h' => cI K κ b h' ∧ fk [1] κ h h' ∧ True) := by
  refine wq_eq q_158_100 ?_
  obtain ⟨i_1, l_1, n_1, bA_1, bB_1, bC_1, bD_1, e_1⟩ := o1 W tv1
  refine wq_gI e_1 rfl ?_
  refine wq_if _ (fun c2 => ?_) (fun c2 => ?_)
  · refine wk_at W tv1 rfl (fun _ => ?_)
    refine wq_cI (s_Datum_isClear W tv1) ?_
    rintro y5 h3 ⟨rfl, p6⟩
    refine wq_if _ (fun c7 => ?_) (fun c7 => ?_)
    · refine wk_at W tv1 rfl (fun _ => ?_)
      refine wq_cV (s_Datum_hold W tv1) ?_
      rintro h8 ⟨W9, g10⟩
      have G11 := fk_c (ws := [1]) G g10 rfl
      exact wq_some (rI_i ⟨W9, G11, trivial⟩)
    · exact j_158_117 tv1 tv2 W G
  · exact j_158_117 tv1 tv2 W G
theorem j_158_59 {d : Nat} {h h1 : ah_H} {v0 : Int32} {v1 : Nat} {v2 : Nat} {s0 : Int32} (tv1 : κ v1 = some (1, 0)) (tv2 : κ v2 = some (1, 0)) (W : cI K κ b h1) (G : fk [1] κ h h1) : wq (ah_val lim ah_P (d + 1) 158 59 [some (.inl v0), some (.inr (.inr (some v1))), some (.inr (.inr (some v2))), none, none, none, none, none] [.inl s0] h1) (rI fun x h' => cI K κ b h' ∧ fk [1] κ h h' ∧ True) := by
  refine wq_eq q_158_59 ?_
  obtain ⟨i_1, l_1, n_1, bA_1, bB_1, bC_1, bD_1, e_1⟩ := o1 W tv1
  refine wq_gI e_1 rfl ?_
  refine wq_if _ (fun c2 => ?_) (fun c2 => ?_)
  · refine wk_at W tv1 rfl (fun _ => ?_)
    refine wq_cJ (s_Datum_ones W tv1) ?_
    rintro j5 h3 ⟨rfl, p6⟩
    obtain ⟨i_7, l_7, n_7, bA_7, bB_7, bC_7, bD_7, e_7⟩ := o1 W tv2
    refine wq_gI e_7 rfl ?_
    refine wq_if _ (fun c8 => ?_) (fun c8 => ?_)
    · refine wk_at W tv2 rfl (fun _ => ?_)
      refine wq_cJ (s_Datum_ones W tv2) ?_
      rintro j11 h9 ⟨rfl, p12⟩
      exact j_158_100 tv1 tv2 W G
    · refine wq_gJ e_7 rfl ?_
      exact j_158_100 tv1 tv2 W G
  · refine wq_gJ e_1 rfl ?_
    obtain ⟨i_13, l_13, n_13, bA_13, bB_13, bC_13, bD_13, e_13⟩ := o1 W tv2
    refine wq_gI e_13 rfl ?_
    refine wq_if _ (fun c14 => ?_) (fun c14 => ?_)
    · refine wk_at W tv2 rfl (fun _ => ?_)
      refine wq_cJ (s_Datum_ones W tv2) ?_
      rintro j17 h15 ⟨rfl, p18⟩
      exact j_158_100 tv1 tv2 W G
    · refine wq_gJ e_13 rfl ?_
      exact j_158_100 tv1 tv2 W G
theorem s_Finder_rows {d : Nat} {h : ah_H} {v0 : Int32} {v1 : Nat} {v2 : Nat} (W : cI K κ b h) (t1 : κ v1 = some (1, 0)) (t2 : κ v2 = some (1, 0)) : wq (vc lim (d + 2) m_Finder_rows [.inl v0, .inr (.inr (some v1)), .inr (.inr (some v2))] h) (rI fun x h' => cI K κ b h' ∧ fk [1] κ h h' ∧ True) := by
  refine wq_eq e_Finder_rows ?_
  obtain ⟨i_1, l_1, n_1, bA_1, bB_1, bC_1, bD_1, e_1⟩ := o1 W t1
  refine wq_gI e_1 rfl ?_
  refine wq_if _ (fun c2 => ?_) (fun c2 => ?_)
  · exact wq_some (rI_i ⟨W, fk_0, trivial⟩)
  · obtain ⟨i_3, l_3, n_3, bA_3, bB_3, bC_3, bD_3, e_3⟩ := o1 W t2
    refine wq_gI e_3 rfl ?_
    refine wq_if _ (fun c4 => ?_) (fun c4 => ?_)
    · exact wq_some (rI_i ⟨W, fk_0, trivial⟩)
    · refine wq_gI e_1 rfl ?_
      refine wq_gI e_3 rfl ?_
      refine wq_if _ (fun c5 => ?_) (fun c5 => ?_)
      · refine wq_gI e_1 rfl ?_
        refine wq_gI e_3 rfl ?_
        refine wq_if _ (fun c6 => ?_) (fun c6 => ?_)
        · refine wq_gI e_1 rfl ?_
          refine wq_if _ (fun c7 => ?_) (fun c7 => ?_)
          · refine wq_gI e_1 rfl ?_
            exact j_158_59 t1 t2 W fk_0
          · refine wq_gI e_3 rfl ?_
            exact j_158_59 t1 t2 W fk_0
        · exact wq_some (rI_i ⟨W, fk_0, trivial⟩)
      · refine wq_gI e_1 rfl ?_
        refine wq_if _ (fun c8 => ?_) (fun c8 => ?_)
        · refine wq_gI e_1 rfl ?_
          exact j_158_59 t1 t2 W fk_0
        · refine wq_gI e_3 rfl ?_
          exact j_158_59 t1 t2 W fk_0
theorem s_Finder_joined {d : Nat} {h : ah_H} {v0 : Nat} {v1 : Nat} (W : cI K κ b h) (t0 : κ v0 = some (1, 0)) (t1 : κ v1 = some (1, 0)) : wq (vc lim (d + 2) m_Finder_joined [.inr (.inr (some v0)), .inr (.inr (some v1))] h) (rI fun x h' => cI K κ b h' ∧ fk [1] κ h h' ∧ True) := by
  refine wq_eq e_Finder_joined ?_
  obtain ⟨i_1, l_1, n_1, bA_1, bB_1, bC_1, bD_1, e_1⟩ := o1 W t0
  refine wq_gI e_1 rfl ?_
  refine wq_if _ (fun c2 => ?_) (fun c2 => ?_)
  · exact wq_some (rI_i ⟨W, fk_0, trivial⟩)
  · obtain ⟨i_3, l_3, n_3, bA_3, bB_3, bC_3, bD_3, e_3⟩ := o1 W t1
    refine wq_gI e_3 rfl ?_
    refine wq_if _ (fun c4 => ?_) (fun c4 => ?_)
    · exact wq_some (rI_i ⟨W, fk_0, trivial⟩)
    · refine wq_gI e_1 rfl ?_
      refine wq_gI e_3 rfl ?_
      refine wq_if _ (fun c5 => ?_) (fun c5 => ?_)
      · refine wq_gI e_3 rfl ?_
        refine wq_gI e_1 rfl ?_
        refine wq_gJ e_1 rfl ?_
        refine wq_gJ e_3 rfl ?_
        refine wq_gJ e_1 rfl ?_
        refine wq_gJ e_3 rfl ?_
        refine wq_gJ e_1 rfl ?_
        refine wq_gJ e_3 rfl ?_
        refine wq_gJ e_1 rfl ?_
        refine wq_gJ e_3 rfl ?_
        refine wk_at W t0 rfl (fun _ => ?_)
        refine wq_cV (s_Datum_hold W t0) ?_
        rintro h6 ⟨W7, g8⟩
        have G9 := fk_c (ws := [1]) fk_0 g8 rfl
        exact wq_some (rI_i ⟨W7, G9, trivial⟩)
      · exact wq_some (rI_i ⟨W, fk_0, trivial⟩)
theorem s_Finder_shifted {d : Nat} {h : ah_H} {v0 : Int32} {v1 : Nat} {v2 : Nat} (W : cI K κ b h) (t1 : κ v1 = some (1, 0)) (t2 : κ v2 = some (1, 0)) : wq (vc lim (d + 2) m_Finder_shifted [.inl v0, .inr (.inr (some v1)), .inr (.inr (some v2))] h) (rI fun x h' => cI K κ b h' ∧ fk [1] κ h h' ∧ True) := by
  refine wq_eq e_Finder_shifted ?_
  obtain ⟨i_1, l_1, n_1, bA_1, bB_1, bC_1, bD_1, e_1⟩ := o1 W t1
  refine wq_gI e_1 rfl ?_
  refine wq_if _ (fun c2 => ?_) (fun c2 => ?_)
  · obtain ⟨i_3, l_3, n_3, bA_3, bB_3, bC_3, bD_3, e_3⟩ := o1 W t2
    refine wq_gI e_3 rfl ?_
    refine wq_if _ (fun c4 => ?_) (fun c4 => ?_)
    · refine wq_if _ (fun c5 => ?_) (fun c5 => ?_)
      · refine wq_gJ e_3 rfl ?_
        refine wq_eq q_160_36 ?_
        refine wq_gI e_1 rfl ?_
        refine wq_gI e_1 rfl ?_
        refine wq_if _ (fun c6 => ?_) (fun c6 => ?_)
        · refine wk_at W t1 rfl (fun _ => ?_)
          refine wq_cV (s_Datum_hold W t1) ?_
          rintro h7 ⟨W8, g9⟩
          have G10 := fk_c (ws := [1]) fk_0 g9 rfl
          exact wq_some (rI_i ⟨W8, G10, trivial⟩)
        · refine wq_if _ (fun c11 => ?_) (fun c11 => ?_)
          · refine wq_gI e_1 rfl ?_
            refine wq_gI e_1 rfl ?_
            refine wq_gJ e_1 rfl ?_
            refine wq_gJ e_1 rfl ?_
            refine wq_gJ e_1 rfl ?_
            refine wq_gJ e_1 rfl ?_
            refine wk_at W t1 rfl (fun _ => ?_)
            refine wq_cV (s_Datum_hold W t1) ?_
            rintro h12 ⟨W13, g14⟩
            have G15 := fk_c (ws := [1]) fk_0 g14 rfl
            exact wq_some (rI_i ⟨W13, G15, trivial⟩)
          · refine wq_gI e_1 rfl ?_
            refine wq_gJ e_1 rfl ?_
            refine wq_gJ e_1 rfl ?_
            refine wq_gJ e_1 rfl ?_
            refine wq_gJ e_1 rfl ?_
            refine wk_at W t1 rfl (fun _ => ?_)
            refine wq_cV (s_Datum_hold W t1) ?_
            rintro h16 ⟨W17, g18⟩
            have G19 := fk_c (ws := [1]) fk_0 g18 rfl
            exact wq_some (rI_i ⟨W17, G19, trivial⟩)
      · refine wq_gJ e_3 rfl ?_
        refine wq_eq q_160_36 ?_
        refine wq_gI e_1 rfl ?_
        refine wq_gI e_1 rfl ?_
        refine wq_if _ (fun c20 => ?_) (fun c20 => ?_)
        · refine wk_at W t1 rfl (fun _ => ?_)
          refine wq_cV (s_Datum_hold W t1) ?_
          rintro h21 ⟨W22, g23⟩
          have G24 := fk_c (ws := [1]) fk_0 g23 rfl
          exact wq_some (rI_i ⟨W22, G24, trivial⟩)
        · refine wq_if _ (fun c25 => ?_) (fun c25 => ?_)
          · refine wq_gI e_1 rfl ?_
            refine wq_gI e_1 rfl ?_
            refine wq_gJ e_1 rfl ?_
            refine wq_gJ e_1 rfl ?_
            refine wq_gJ e_1 rfl ?_
            refine wq_gJ e_1 rfl ?_
            refine wk_at W t1 rfl (fun _ => ?_)
            refine wq_cV (s_Datum_hold W t1) ?_
            rintro h26 ⟨W27, g28⟩
            have G29 := fk_c (ws := [1]) fk_0 g28 rfl
            exact wq_some (rI_i ⟨W27, G29, trivial⟩)
          · refine wq_gI e_1 rfl ?_
            refine wq_gJ e_1 rfl ?_
            refine wq_gJ e_1 rfl ?_
            refine wq_gJ e_1 rfl ?_
            refine wq_gJ e_1 rfl ?_
            refine wk_at W t1 rfl (fun _ => ?_)
            refine wq_cV (s_Datum_hold W t1) ?_
            rintro h30 ⟨W31, g32⟩
            have G33 := fk_c (ws := [1]) fk_0 g32 rfl
            exact wq_some (rI_i ⟨W31, G33, trivial⟩)
    · exact wq_some (rI_i ⟨W, fk_0, trivial⟩)
  · exact wq_some (rI_i ⟨W, fk_0, trivial⟩)
theorem nz_J {j : Int64} (c : ¬ (lg_cmp j (0 : Int64)) = 0) : ¬ j = 0 := by
  intro e
  subst e
  exact c (by decide)
theorem s_Math_floorMod {d : Nat} {h : ah_H} {v0 v2 : Int64} (_ : cI K κ b h) (hn : ¬ v2 = 0) : wq (vc lim (d + 1) m_Math_floorMod [.inr (.inl v0), .inr (.inl v2)] h) (rJ fun x h' => h' = h ∧ True) := by
  refine wq_eq e_Math_floorMod (wq_f hn ?_)
  refine wq_if _ (fun _ => ?_) (fun _ => ?_)
  · refine wq_if _ (fun _ => ?_) (fun _ => ?_)
    · exact wq_some (rJ_i ⟨rfl, trivial⟩)
    · exact wq_some (rJ_i ⟨rfl, trivial⟩)
  · exact wq_some (rJ_i ⟨rfl, trivial⟩)
theorem s_Finder_numbers {d : Nat} {h : ah_H} {v0 : Int32} {v1 : Nat} {v2 : Nat} (W : cI K κ b h) (t1 : κ v1 = some (1, 0)) (t2 : κ v2 = some (1, 0)) : wq (vc lim (d + 2) m_Finder_numbers [.inl v0, .inr (.inr (some v1)), .inr (.inr (some v2))] h) (rI fun x h' => cI K κ b h' ∧ fk [1] κ h h' ∧ True) := by
  refine wq_eq e_Finder_numbers ?_
  obtain ⟨i_1, l_1, n_1, bA_1, bB_1, bC_1, bD_1, e_1⟩ := o1 W t1
  refine wq_gI e_1 rfl ?_
  refine wq_if _ (fun c2 => ?_) (fun c2 => ?_)
  · obtain ⟨i_3, l_3, n_3, bA_3, bB_3, bC_3, bD_3, e_3⟩ := o1 W t2
    refine wq_gI e_3 rfl ?_
    refine wq_if _ (fun c4 => ?_) (fun c4 => ?_)
    · refine wq_if _ (fun c5 => ?_) (fun c5 => ?_)
      · refine wq_gJ e_1 rfl ?_
        refine wq_gJ e_3 rfl ?_
        refine wq_eq q_161_135 ?_
        refine wq_if _ (fun c6 => ?_) (fun c6 => ?_)
        · exact wq_some (rI_i ⟨W, fk_0, trivial⟩)
        · refine wq_if _ (fun c7 => ?_) (fun c7 => ?_)
          · refine wk_at W t1 rfl (fun _ => ?_)
            refine wq_cV (s_Datum_beNumber W t1) ?_
            rintro h8 ⟨W9, g10⟩
            have G11 := fk_c (ws := [1]) fk_0 g10 rfl
            exact wq_some (rI_i ⟨W9, G11, trivial⟩)
          · exact wq_some (rI_i ⟨W, fk_0, trivial⟩)
      · refine wq_if _ (fun c12 => ?_) (fun c12 => ?_)
        · refine wq_gJ e_1 rfl ?_
          refine wq_gJ e_3 rfl ?_
          refine wq_eq q_161_135 ?_
          refine wq_if _ (fun c13 => ?_) (fun c13 => ?_)
          · exact wq_some (rI_i ⟨W, fk_0, trivial⟩)
          · refine wq_if _ (fun c14 => ?_) (fun c14 => ?_)
            · refine wk_at W t1 rfl (fun _ => ?_)
              refine wq_cV (s_Datum_beNumber W t1) ?_
              rintro h15 ⟨W16, g17⟩
              have G18 := fk_c (ws := [1]) fk_0 g17 rfl
              exact wq_some (rI_i ⟨W16, G18, trivial⟩)
            · exact wq_some (rI_i ⟨W, fk_0, trivial⟩)
        · refine wq_if _ (fun c19 => ?_) (fun c19 => ?_)
          · refine wq_gJ e_1 rfl ?_
            refine wq_gJ e_3 rfl ?_
            refine wq_eq q_161_135 ?_
            refine wq_if _ (fun c20 => ?_) (fun c20 => ?_)
            · exact wq_some (rI_i ⟨W, fk_0, trivial⟩)
            · refine wq_if _ (fun c21 => ?_) (fun c21 => ?_)
              · refine wk_at W t1 rfl (fun _ => ?_)
                refine wq_cV (s_Datum_beNumber W t1) ?_
                rintro h22 ⟨W23, g24⟩
                have G25 := fk_c (ws := [1]) fk_0 g24 rfl
                exact wq_some (rI_i ⟨W23, G25, trivial⟩)
              · exact wq_some (rI_i ⟨W, fk_0, trivial⟩)
          · refine wq_gJ e_3 rfl ?_
            refine wq_if _ (fun c26 => ?_) (fun c26 => ?_)
            · exact wq_some (rI_i ⟨W, fk_0, trivial⟩)
            · refine wq_if _ (fun c27 => ?_) (fun c27 => ?_)
              · refine wq_gJ e_1 rfl ?_
                refine wq_gJ e_3 rfl ?_
                refine wq_f (nz_J c26) ?_
                refine wq_eq q_161_135 ?_
                refine wq_if _ (fun c28 => ?_) (fun c28 => ?_)
                · exact wq_some (rI_i ⟨W, fk_0, trivial⟩)
                · refine wq_if _ (fun c29 => ?_) (fun c29 => ?_)
                  · refine wk_at W t1 rfl (fun _ => ?_)
                    refine wq_cV (s_Datum_beNumber W t1) ?_
                    rintro h30 ⟨W31, g32⟩
                    have G33 := fk_c (ws := [1]) fk_0 g32 rfl
                    exact wq_some (rI_i ⟨W31, G33, trivial⟩)
                  · exact wq_some (rI_i ⟨W, fk_0, trivial⟩)
              · refine wq_if _ (fun c34 => ?_) (fun c34 => ?_)
                · refine wq_gJ e_1 rfl ?_
                  refine wq_gJ e_3 rfl ?_
                  refine wq_cJ (s_Math_floorMod W (nz_J c26)) ?_
                  rintro j37 h35 ⟨rfl, p38⟩
                  refine wq_eq q_161_135 ?_
                  refine wq_if _ (fun c39 => ?_) (fun c39 => ?_)
                  · exact wq_some (rI_i ⟨W, fk_0, trivial⟩)
                  · refine wq_if _ (fun c40 => ?_) (fun c40 => ?_)
                    · refine wk_at W t1 rfl (fun _ => ?_)
                      refine wq_cV (s_Datum_beNumber W t1) ?_
                      rintro h41 ⟨W42, g43⟩
                      have G44 := fk_c (ws := [1]) fk_0 g43 rfl
                      exact wq_some (rI_i ⟨W42, G44, trivial⟩)
                    · exact wq_some (rI_i ⟨W, fk_0, trivial⟩)
                · refine wq_gJ e_1 rfl ?_
                  refine wq_gJ e_3 rfl ?_
                  refine wq_f (nz_J c26) ?_
                  refine wq_eq q_161_135 ?_
                  refine wq_if _ (fun c45 => ?_) (fun c45 => ?_)
                  · exact wq_some (rI_i ⟨W, fk_0, trivial⟩)
                  · refine wq_if _ (fun c46 => ?_) (fun c46 => ?_)
                    · refine wk_at W t1 rfl (fun _ => ?_)
                      refine wq_cV (s_Datum_beNumber W t1) ?_
                      rintro h47 ⟨W48, g49⟩
                      have G50 := fk_c (ws := [1]) fk_0 g49 rfl
                      exact wq_some (rI_i ⟨W48, G50, trivial⟩)
                    · exact wq_some (rI_i ⟨W, fk_0, trivial⟩)
    · exact wq_some (rI_i ⟨W, fk_0, trivial⟩)
  · exact wq_some (rI_i ⟨W, fk_0, trivial⟩)
theorem s_Finder_two {d : Nat} {h : ah_H} {v0 : Int32} {v1 : Nat} {v2 : Nat} (W : cI K κ b h) (t1 : κ v1 = some (1, 0)) (t2 : κ v2 = some (1, 0)) : wq (vc lim (d + 3) m_Finder_two [.inl v0, .inr (.inr (some v1)), .inr (.inr (some v2))] h) (rI fun x h' => cI K κ b h' ∧ fk [1] κ h h' ∧ True) := by
  refine wq_eq e_Finder_two ?_
  refine wq_if _ (fun c1 => ?_) (fun c1 => ?_)
  · refine wq_eq q_152_100 ?_
    obtain ⟨i_2, l_2, n_2, bA_2, bB_2, bC_2, bD_2, e_2⟩ := o1 W t1
    refine wq_gI e_2 rfl ?_
    refine wq_if _ (fun c3 => ?_) (fun c3 => ?_)
    · refine wq_cI (s_Finder_truths W t1 t2) ?_
      rintro y7 h4 ⟨W5, g6, p8⟩
      have G9 := fk_c (ws := [1]) fk_0 g6 rfl
      exact wq_some (rI_i ⟨W5, G9, trivial⟩)
    · refine wq_cI (s_Finder_logics W t1 t2) ?_
      rintro y13 h10 ⟨W11, g12, p14⟩
      have G15 := fk_c (ws := [1]) fk_0 g12 rfl
      exact wq_some (rI_i ⟨W11, G15, trivial⟩)
  refine wq_if _ (fun c16 => ?_) (fun c16 => ?_)
  · refine wq_eq q_152_100 ?_
    obtain ⟨i_17, l_17, n_17, bA_17, bB_17, bC_17, bD_17, e_17⟩ := o1 W t1
    refine wq_gI e_17 rfl ?_
    refine wq_if _ (fun c18 => ?_) (fun c18 => ?_)
    · refine wq_cI (s_Finder_truths W t1 t2) ?_
      rintro y22 h19 ⟨W20, g21, p23⟩
      have G24 := fk_c (ws := [1]) fk_0 g21 rfl
      exact wq_some (rI_i ⟨W20, G24, trivial⟩)
    · refine wq_cI (s_Finder_logics W t1 t2) ?_
      rintro y28 h25 ⟨W26, g27, p29⟩
      have G30 := fk_c (ws := [1]) fk_0 g27 rfl
      exact wq_some (rI_i ⟨W26, G30, trivial⟩)
  refine wq_if _ (fun c31 => ?_) (fun c31 => ?_)
  · refine wq_eq q_152_100 ?_
    obtain ⟨i_32, l_32, n_32, bA_32, bB_32, bC_32, bD_32, e_32⟩ := o1 W t1
    refine wq_gI e_32 rfl ?_
    refine wq_if _ (fun c33 => ?_) (fun c33 => ?_)
    · refine wq_cI (s_Finder_truths W t1 t2) ?_
      rintro y37 h34 ⟨W35, g36, p38⟩
      have G39 := fk_c (ws := [1]) fk_0 g36 rfl
      exact wq_some (rI_i ⟨W35, G39, trivial⟩)
    · refine wq_cI (s_Finder_logics W t1 t2) ?_
      rintro y43 h40 ⟨W41, g42, p44⟩
      have G45 := fk_c (ws := [1]) fk_0 g42 rfl
      exact wq_some (rI_i ⟨W41, G45, trivial⟩)
  refine wq_if _ (fun c46 => ?_) (fun c46 => ?_)
  · refine wq_eq q_152_100 ?_
    obtain ⟨i_47, l_47, n_47, bA_47, bB_47, bC_47, bD_47, e_47⟩ := o1 W t1
    refine wq_gI e_47 rfl ?_
    refine wq_if _ (fun c48 => ?_) (fun c48 => ?_)
    · refine wq_cI (s_Finder_truths W t1 t2) ?_
      rintro y52 h49 ⟨W50, g51, p53⟩
      have G54 := fk_c (ws := [1]) fk_0 g51 rfl
      exact wq_some (rI_i ⟨W50, G54, trivial⟩)
    · refine wq_cI (s_Finder_logics W t1 t2) ?_
      rintro y58 h55 ⟨W56, g57, p59⟩
      have G60 := fk_c (ws := [1]) fk_0 g57 rfl
      exact wq_some (rI_i ⟨W56, G60, trivial⟩)
  refine wq_if _ (fun c61 => ?_) (fun c61 => ?_)
  · refine wq_eq q_152_100 ?_
    obtain ⟨i_62, l_62, n_62, bA_62, bB_62, bC_62, bD_62, e_62⟩ := o1 W t1
    refine wq_gI e_62 rfl ?_
    refine wq_if _ (fun c63 => ?_) (fun c63 => ?_)
    · refine wq_cI (s_Finder_truths W t1 t2) ?_
      rintro y67 h64 ⟨W65, g66, p68⟩
      have G69 := fk_c (ws := [1]) fk_0 g66 rfl
      exact wq_some (rI_i ⟨W65, G69, trivial⟩)
    · refine wq_cI (s_Finder_logics W t1 t2) ?_
      rintro y73 h70 ⟨W71, g72, p74⟩
      have G75 := fk_c (ws := [1]) fk_0 g72 rfl
      exact wq_some (rI_i ⟨W71, G75, trivial⟩)
  refine wq_if _ (fun c76 => ?_) (fun c76 => ?_)
  · refine wq_eq q_152_100 ?_
    obtain ⟨i_77, l_77, n_77, bA_77, bB_77, bC_77, bD_77, e_77⟩ := o1 W t1
    refine wq_gI e_77 rfl ?_
    refine wq_if _ (fun c78 => ?_) (fun c78 => ?_)
    · refine wq_cI (s_Finder_truths W t1 t2) ?_
      rintro y82 h79 ⟨W80, g81, p83⟩
      have G84 := fk_c (ws := [1]) fk_0 g81 rfl
      exact wq_some (rI_i ⟨W80, G84, trivial⟩)
    · refine wq_cI (s_Finder_logics W t1 t2) ?_
      rintro y88 h85 ⟨W86, g87, p89⟩
      have G90 := fk_c (ws := [1]) fk_0 g87 rfl
      exact wq_some (rI_i ⟨W86, G90, trivial⟩)
  refine wq_if _ (fun c91 => ?_) (fun c91 => ?_)
  · refine wq_if _ (fun c92 => ?_) (fun c92 => ?_)
    · refine wq_cI (s_Finder_same W (Or.inr rfl) t1 t2) ?_
      rintro y96 h93 ⟨W94, g95, p97⟩
      have G98 := fk_c (ws := [1]) fk_0 g95 rfl
      exact wq_some (rI_i ⟨W94, G98, trivial⟩)
    · refine wq_cI (s_Finder_same W (Or.inl rfl) t1 t2) ?_
      rintro y102 h99 ⟨W100, g101, p103⟩
      have G104 := fk_c (ws := [1]) fk_0 g101 rfl
      exact wq_some (rI_i ⟨W100, G104, trivial⟩)
  refine wq_if _ (fun c105 => ?_) (fun c105 => ?_)
  · refine wq_if _ (fun c106 => ?_) (fun c106 => ?_)
    · refine wq_cI (s_Finder_same W (Or.inr rfl) t1 t2) ?_
      rintro y110 h107 ⟨W108, g109, p111⟩
      have G112 := fk_c (ws := [1]) fk_0 g109 rfl
      exact wq_some (rI_i ⟨W108, G112, trivial⟩)
    · refine wq_cI (s_Finder_same W (Or.inl rfl) t1 t2) ?_
      rintro y116 h113 ⟨W114, g115, p117⟩
      have G118 := fk_c (ws := [1]) fk_0 g115 rfl
      exact wq_some (rI_i ⟨W114, G118, trivial⟩)
  refine wq_if _ (fun c119 => ?_) (fun c119 => ?_)
  · refine wq_eq q_152_141 ?_
    refine wq_cI (s_Finder_order W t1 t2) ?_
    rintro y123 h120 ⟨W121, g122, p124⟩
    have G125 := fk_c (ws := [1]) fk_0 g122 rfl
    exact wq_some (rI_i ⟨W121, G125, trivial⟩)
  refine wq_if _ (fun c126 => ?_) (fun c126 => ?_)
  · refine wq_eq q_152_141 ?_
    refine wq_cI (s_Finder_order W t1 t2) ?_
    rintro y130 h127 ⟨W128, g129, p131⟩
    have G132 := fk_c (ws := [1]) fk_0 g129 rfl
    exact wq_some (rI_i ⟨W128, G132, trivial⟩)
  refine wq_if _ (fun c133 => ?_) (fun c133 => ?_)
  · refine wq_eq q_152_141 ?_
    refine wq_cI (s_Finder_order W t1 t2) ?_
    rintro y137 h134 ⟨W135, g136, p138⟩
    have G139 := fk_c (ws := [1]) fk_0 g136 rfl
    exact wq_some (rI_i ⟨W135, G139, trivial⟩)
  refine wq_if _ (fun c140 => ?_) (fun c140 => ?_)
  · refine wq_eq q_152_141 ?_
    refine wq_cI (s_Finder_order W t1 t2) ?_
    rintro y144 h141 ⟨W142, g143, p145⟩
    have G146 := fk_c (ws := [1]) fk_0 g143 rfl
    exact wq_some (rI_i ⟨W142, G146, trivial⟩)
  refine wq_if _ (fun c147 => ?_) (fun c147 => ?_)
  · refine wq_eq q_152_148 ?_
    obtain ⟨i_148, l_148, n_148, bA_148, bB_148, bC_148, bD_148, e_148⟩ := o1 W t1
    refine wq_gI e_148 rfl ?_
    refine wq_if _ (fun c149 => ?_) (fun c149 => ?_)
    · obtain ⟨i_150, l_150, n_150, bA_150, bB_150, bC_150, bD_150, e_150⟩ := o1 W t2
      refine wq_gI e_150 rfl ?_
      refine wq_if _ (fun c151 => ?_) (fun c151 => ?_)
      · refine wq_cI (s_Finder_numbers W t1 t2) ?_
        rintro y155 h152 ⟨W153, g154, p156⟩
        have G157 := fk_c (ws := [1]) fk_0 g154 rfl
        exact wq_some (rI_i ⟨W153, G157, trivial⟩)
      · refine wq_cI (s_Finder_rows W t1 t2) ?_
        rintro y161 h158 ⟨W159, g160, p162⟩
        have G163 := fk_c (ws := [1]) fk_0 g160 rfl
        exact wq_some (rI_i ⟨W159, G163, trivial⟩)
    · refine wq_cI (s_Finder_rows W t1 t2) ?_
      rintro y167 h164 ⟨W165, g166, p168⟩
      have G169 := fk_c (ws := [1]) fk_0 g166 rfl
      exact wq_some (rI_i ⟨W165, G169, trivial⟩)
  refine wq_if _ (fun c170 => ?_) (fun c170 => ?_)
  · refine wq_eq q_152_148 ?_
    obtain ⟨i_171, l_171, n_171, bA_171, bB_171, bC_171, bD_171, e_171⟩ := o1 W t1
    refine wq_gI e_171 rfl ?_
    refine wq_if _ (fun c172 => ?_) (fun c172 => ?_)
    · obtain ⟨i_173, l_173, n_173, bA_173, bB_173, bC_173, bD_173, e_173⟩ := o1 W t2
      refine wq_gI e_173 rfl ?_
      refine wq_if _ (fun c174 => ?_) (fun c174 => ?_)
      · refine wq_cI (s_Finder_numbers W t1 t2) ?_
        rintro y178 h175 ⟨W176, g177, p179⟩
        have G180 := fk_c (ws := [1]) fk_0 g177 rfl
        exact wq_some (rI_i ⟨W176, G180, trivial⟩)
      · refine wq_cI (s_Finder_rows W t1 t2) ?_
        rintro y184 h181 ⟨W182, g183, p185⟩
        have G186 := fk_c (ws := [1]) fk_0 g183 rfl
        exact wq_some (rI_i ⟨W182, G186, trivial⟩)
    · refine wq_cI (s_Finder_rows W t1 t2) ?_
      rintro y190 h187 ⟨W188, g189, p191⟩
      have G192 := fk_c (ws := [1]) fk_0 g189 rfl
      exact wq_some (rI_i ⟨W188, G192, trivial⟩)
  refine wq_if _ (fun c193 => ?_) (fun c193 => ?_)
  · refine wq_cI (s_Finder_joined W t1 t2) ?_
    rintro y197 h194 ⟨W195, g196, p198⟩
    have G199 := fk_c (ws := [1]) fk_0 g196 rfl
    exact wq_some (rI_i ⟨W195, G199, trivial⟩)
  refine wq_if _ (fun c200 => ?_) (fun c200 => ?_)
  · refine wq_eq q_152_193 ?_
    refine wq_cI (s_Finder_numbers W t1 t2) ?_
    rintro y204 h201 ⟨W202, g203, p205⟩
    have G206 := fk_c (ws := [1]) fk_0 g203 rfl
    exact wq_some (rI_i ⟨W202, G206, trivial⟩)
  refine wq_if _ (fun c207 => ?_) (fun c207 => ?_)
  · refine wq_eq q_152_193 ?_
    refine wq_cI (s_Finder_numbers W t1 t2) ?_
    rintro y211 h208 ⟨W209, g210, p212⟩
    have G213 := fk_c (ws := [1]) fk_0 g210 rfl
    exact wq_some (rI_i ⟨W209, G213, trivial⟩)
  refine wq_if _ (fun c214 => ?_) (fun c214 => ?_)
  · refine wq_eq q_152_193 ?_
    refine wq_cI (s_Finder_numbers W t1 t2) ?_
    rintro y218 h215 ⟨W216, g217, p219⟩
    have G220 := fk_c (ws := [1]) fk_0 g217 rfl
    exact wq_some (rI_i ⟨W216, G220, trivial⟩)
  refine wq_if _ (fun c221 => ?_) (fun c221 => ?_)
  · refine wq_eq q_152_193 ?_
    refine wq_cI (s_Finder_numbers W t1 t2) ?_
    rintro y225 h222 ⟨W223, g224, p226⟩
    have G227 := fk_c (ws := [1]) fk_0 g224 rfl
    exact wq_some (rI_i ⟨W223, G227, trivial⟩)
  refine wq_if _ (fun c228 => ?_) (fun c228 => ?_)
  · refine wq_cI (s_Finder_shifted W t1 t2) ?_
    rintro y232 h229 ⟨W230, g231, p233⟩
    have G234 := fk_c (ws := [1]) fk_0 g231 rfl
    exact wq_some (rI_i ⟨W230, G234, trivial⟩)
  refine wq_if _ (fun c235 => ?_) (fun c235 => ?_)
  · refine wq_cI (s_Finder_shifted W t1 t2) ?_
    rintro y239 h236 ⟨W237, g238, p240⟩
    have G241 := fk_c (ws := [1]) fk_0 g238 rfl
    exact wq_some (rI_i ⟨W237, G241, trivial⟩)
  refine wq_eq q_152_193 ?_
  refine wq_cI (s_Finder_numbers W t1 t2) ?_
  rintro y245 h242 ⟨W243, g244, p246⟩
  have G247 := fk_c (ws := [1]) fk_0 g244 rfl
  exact wq_some (rI_i ⟨W243, G247, trivial⟩)
theorem l_137_17 {d : Nat} {h : ah_H} {v0 : Nat} {n1 : Nat} {v1 : Nat} {n3 : Nat} {v3 : Nat} (t0 : κ v0 = some (2, 0)) (t1 : κ v1 = some (10, n1)) (t3 : κ v3 = some (5, n3)) : ∀ (m : Nat) (h1 : ah_H) (v2 : Int32) (v4 : Int32), (2147483647 - v4.toInt).toNat < m → cI K κ b h1 → fk [1, 2, 10] κ h h1 → wq (ah_val lim ah_P (d + 3) 137 17 [some (.inr (.inr (some v0))), some (.inr (.inr (some v1))), some (.inl v2), some (.inr (.inr (some v3))), some (.inl v4), none, none] [] h1) (rI fun x h' => cI K κ b h' ∧ fk [1, 2, 10] κ h h' ∧ (x = 0 ∨ x = 1)) := by
  intro m
  induction m with
  | zero => intros; omega
  | succ m ih =>
      intro h1 v2 v4 hm W G
      refine wq_eq q_137_17 ?_
      refine wq_if _ (fun c1 => ?_) (fun c1 => ?_)
      · obtain ⟨aA_2, aB_2, aC_2, aD_2, aE_2, aF_2, aG_2, aH_2, c_2, kt_2, e_2, taA_2, taB_2, taC_2, taD_2, taE_2, taF_2, taG_2, taH_2, b0_2, b1_2, b2_2, b3_2, b4_2⟩ := o5 W t3
        refine wq_gI e_2 rfl ?_
        refine wq_if _ (fun c3 => ?_) (fun c3 => ?_)
        · refine wk_at W t3 rfl (fun _ => ?_)
          refine wq_cI (s_Nodes_givenOf W t3) ?_
          rintro y6 h4 ⟨rfl, p7⟩
          refine wk_at W t3 rfl (fun _ => ?_)
          refine wq_cI (s_Nodes_kindOf W t3) ?_
          rintro y10 h8 ⟨rfl, p11⟩
          refine wq_if _ (fun c12 => ?_) (fun c12 => ?_)
          · refine wk_at W t0 rfl (fun _ => ?_)
            refine wq_cR (s_Finder_push W t0) ?_
            rintro _ h13 ⟨W14, g15, a18, rfl, p17⟩
            have G19 := fk_c (ws := [1, 2, 10]) G g15 rfl
            have e20 := (g15 _ _ _ t3 rfl).trans e_2
            refine wk_at W14 p17 rfl (fun _ => ?_)
            refine wq_cV (s_Datum_beNumber W14 p17) ?_
            rintro h21 ⟨W22, g23⟩
            have G24 := fk_c (ws := [1, 2, 10]) G19 g23 rfl
            have e25 := (g23 _ _ _ t3 rfl).trans e20
            refine wq_eq q_137_383 ?_
            refine wq_t (by decide) ?_
            exact ih _ _ _ (by have := le_i c1; have := lt_i c3; have := congrArg Int32.toInt c12; have : (0 : Int32).toInt = 0 := rfl; have : (1 : Int32).toInt = 1 := rfl; have := bd_i c_2; have := bd_i v2; have := bd_i v4; have := bd_i y10; have := bd_i v4; have := bd_i (1 : Int32); have : (v4 + (1 : Int32)).toInt = v4.toInt + (1 : Int32).toInt := ad_i (by omega) (by omega); omega) W22 G24
          refine wq_if _ (fun c26 => ?_) (fun c26 => ?_)
          · refine wk_at W t0 rfl (fun _ => ?_)
            refine wq_cR (s_Finder_push W t0) ?_
            rintro _ h27 ⟨W28, g29, a32, rfl, p31⟩
            have G33 := fk_c (ws := [1, 2, 10]) G g29 rfl
            have e34 := (g29 _ _ _ t3 rfl).trans e_2
            refine wk_at W28 p31 rfl (fun _ => ?_)
            refine wq_cV (s_Datum_beNumber W28 p31) ?_
            rintro h35 ⟨W36, g37⟩
            have G38 := fk_c (ws := [1, 2, 10]) G33 g37 rfl
            have e39 := (g37 _ _ _ t3 rfl).trans e34
            refine wq_eq q_137_383 ?_
            refine wq_t (by decide) ?_
            exact ih _ _ _ (by have := le_i c1; have := lt_i c3; have := ne_i c12; have := congrArg Int32.toInt c26; have : (0 : Int32).toInt = 0 := rfl; have : (1 : Int32).toInt = 1 := rfl; have : (2 : Int32).toInt = 2 := rfl; have := bd_i c_2; have := bd_i v2; have := bd_i v4; have := bd_i y10; have := bd_i v4; have := bd_i (1 : Int32); have : (v4 + (1 : Int32)).toInt = v4.toInt + (1 : Int32).toInt := ad_i (by omega) (by omega); omega) W36 G38
          refine wq_if _ (fun c40 => ?_) (fun c40 => ?_)
          · refine wk_at W t3 rfl (fun _ => ?_)
            refine wq_cI (s_Nodes_parentOf W t3) ?_
            rintro y43 h41 ⟨rfl, p44⟩
            refine wk_at W t3 rfl (fun _ => ?_)
            refine wq_cI (s_Nodes_kindOf W t3) ?_
            rintro y47 h45 ⟨rfl, p48⟩
            refine wq_if _ (fun c49 => ?_) (fun c49 => ?_)
            · refine wq_eq q_137_383 ?_
              refine wq_t (by decide) ?_
              exact ih _ _ _ (by have := le_i c1; have := lt_i c3; have := ne_i c12; have := ne_i c26; have := congrArg Int32.toInt c40; have := congrArg Int32.toInt c49; have : (0 : Int32).toInt = 0 := rfl; have : (1 : Int32).toInt = 1 := rfl; have : (2 : Int32).toInt = 2 := rfl; have : (3 : Int32).toInt = 3 := rfl; have : (4 : Int32).toInt = 4 := rfl; have := bd_i c_2; have := bd_i v2; have := bd_i v4; have := bd_i y10; have := bd_i y47; have := bd_i v4; have := bd_i (1 : Int32); have : (v4 + (1 : Int32)).toInt = v4.toInt + (1 : Int32).toInt := ad_i (by omega) (by omega); omega) W G
            · refine wk_at W t0 rfl (fun _ => ?_)
              refine wq_cR (s_Finder_push W t0) ?_
              rintro _ h50 ⟨W51, g52, a55, rfl, p54⟩
              have G56 := fk_c (ws := [1, 2, 10]) G g52 rfl
              have e57 := (g52 _ _ _ t3 rfl).trans e_2
              refine wk_at W51 p54 rfl (fun _ => ?_)
              refine wq_cV (s_Datum_beLogic W51 p54) ?_
              rintro h58 ⟨W59, g60⟩
              have G61 := fk_c (ws := [1, 2, 10]) G56 g60 rfl
              have e62 := (g60 _ _ _ t3 rfl).trans e57
              refine wq_eq q_137_383 ?_
              refine wq_t (by decide) ?_
              exact ih _ _ _ (by have := le_i c1; have := lt_i c3; have := ne_i c12; have := ne_i c26; have := congrArg Int32.toInt c40; have := ne_i c49; have : (0 : Int32).toInt = 0 := rfl; have : (1 : Int32).toInt = 1 := rfl; have : (2 : Int32).toInt = 2 := rfl; have : (3 : Int32).toInt = 3 := rfl; have : (4 : Int32).toInt = 4 := rfl; have := bd_i c_2; have := bd_i v2; have := bd_i v4; have := bd_i y10; have := bd_i y47; have := bd_i v4; have := bd_i (1 : Int32); have : (v4 + (1 : Int32)).toInt = v4.toInt + (1 : Int32).toInt := ad_i (by omega) (by omega); omega) W59 G61
          refine wq_if _ (fun c63 => ?_) (fun c63 => ?_)
          · refine wk_at W t0 rfl (fun _ => ?_)
            refine wq_cV (s_Finder_gather W t0 t3) ?_
            rintro h64 ⟨W65, g66⟩
            have G67 := fk_c (ws := [1, 2, 10]) G g66 rfl
            have e68 := (g66 _ _ _ t3 rfl).trans e_2
            refine wq_eq q_137_383 ?_
            refine wq_t (by decide) ?_
            exact ih _ _ _ (by have := le_i c1; have := lt_i c3; have := ne_i c12; have := ne_i c26; have := ne_i c40; have := congrArg Int32.toInt c63; have : (0 : Int32).toInt = 0 := rfl; have : (1 : Int32).toInt = 1 := rfl; have : (2 : Int32).toInt = 2 := rfl; have : (3 : Int32).toInt = 3 := rfl; have : (4 : Int32).toInt = 4 := rfl; have := bd_i c_2; have := bd_i v2; have := bd_i v4; have := bd_i y10; have := bd_i v4; have := bd_i (1 : Int32); have : (v4 + (1 : Int32)).toInt = v4.toInt + (1 : Int32).toInt := ad_i (by omega) (by omega); omega) W65 G67
          refine wq_if _ (fun c69 => ?_) (fun c69 => ?_)
          · refine wk_at W t0 rfl (fun _ => ?_)
            refine wq_cR (s_Finder_down W t0) ?_
            rintro _ h70 ⟨rfl, a74, rfl, p73⟩
            refine wq_cI (s_Finder_one W p73) ?_
            rintro y78 h75 ⟨W76, g77, p79⟩
            have G80 := fk_c (ws := [1, 2, 10]) G g77 rfl
            have e81 := (g77 _ _ _ t3 rfl).trans e_2
            refine wq_eq q_137_383 ?_
            refine wq_if _ (fun c82 => ?_) (fun c82 => ?_)
            · exact ih _ _ _ (by have := le_i c1; have := lt_i c3; have := ne_i c12; have := ne_i c26; have := ne_i c40; have := ne_i c63; have := congrArg Int32.toInt c69; have := congrArg Int32.toInt c82; have : (0 : Int32).toInt = 0 := rfl; have : (1 : Int32).toInt = 1 := rfl; have : (2 : Int32).toInt = 2 := rfl; have : (20 : Int32).toInt = 20 := rfl; have : (3 : Int32).toInt = 3 := rfl; have : (4 : Int32).toInt = 4 := rfl; have := bd_i c_2; have := bd_i v2; have := bd_i v4; have := bd_i y10; have := bd_i y78; have := bd_i v4; have := bd_i (1 : Int32); have : (v4 + (1 : Int32)).toInt = v4.toInt + (1 : Int32).toInt := ad_i (by omega) (by omega); omega) W76 G80
            · refine wk_at W76 t1 rfl (fun _ => ?_)
              refine wq_cI (s_Unit_fail W76 t1) ?_
              rintro y86 h83 ⟨W84, g85, p87⟩
              have G88 := fk_c (ws := [1, 2, 10]) G80 g85 rfl
              have e89 := (g85 _ _ _ t3 rfl).trans e81
              exact wq_t p87 (wq_some (rI_i ⟨W84, G88, p87⟩))
          refine wq_if _ (fun c90 => ?_) (fun c90 => ?_)
          · refine wk_at W t0 rfl (fun _ => ?_)
            refine wq_cR (s_Finder_down W t0) ?_
            rintro _ h91 ⟨rfl, a95, rfl, p94⟩
            refine wk_at W t0 rfl (fun _ => ?_)
            refine wq_cR (s_Finder_down W t0) ?_
            rintro _ h96 ⟨rfl, a100, rfl, p99⟩
            refine wq_cI (s_Finder_two W p94 p99) ?_
            rintro y104 h101 ⟨W102, g103, p105⟩
            have G106 := fk_c (ws := [1, 2, 10]) G g103 rfl
            have e107 := (g103 _ _ _ t3 rfl).trans e_2
            refine wk_at W102 t0 rfl (fun _ => ?_)
            refine wq_cV (s_Finder_drop W102 t0 (Or.inl rfl)) ?_
            rintro h108 ⟨W109, g110⟩
            have G111 := fk_c (ws := [1, 2, 10]) G106 g110 rfl
            have e112 := (g110 _ _ _ t3 rfl).trans e107
            refine wq_eq q_137_383 ?_
            refine wq_if _ (fun c113 => ?_) (fun c113 => ?_)
            · exact ih _ _ _ (by have := le_i c1; have := lt_i c3; have := ne_i c12; have := ne_i c26; have := ne_i c40; have := ne_i c63; have := ne_i c69; have := congrArg Int32.toInt c90; have := congrArg Int32.toInt c113; have : (0 : Int32).toInt = 0 := rfl; have : (1 : Int32).toInt = 1 := rfl; have : (2 : Int32).toInt = 2 := rfl; have : (20 : Int32).toInt = 20 := rfl; have : (21 : Int32).toInt = 21 := rfl; have : (3 : Int32).toInt = 3 := rfl; have : (4 : Int32).toInt = 4 := rfl; have := bd_i c_2; have := bd_i v2; have := bd_i v4; have := bd_i y10; have := bd_i y104; have := bd_i v4; have := bd_i (1 : Int32); have : (v4 + (1 : Int32)).toInt = v4.toInt + (1 : Int32).toInt := ad_i (by omega) (by omega); omega) W109 G111
            · refine wk_at W109 t1 rfl (fun _ => ?_)
              refine wq_cI (s_Unit_fail W109 t1) ?_
              rintro y117 h114 ⟨W115, g116, p118⟩
              have G119 := fk_c (ws := [1, 2, 10]) G111 g116 rfl
              have e120 := (g116 _ _ _ t3 rfl).trans e112
              exact wq_t p118 (wq_some (rI_i ⟨W115, G119, p118⟩))
          refine wq_if _ (fun c121 => ?_) (fun c121 => ?_)
          · refine wk_at W t0 rfl (fun _ => ?_)
            refine wq_cR (s_Finder_down W t0) ?_
            rintro _ h122 ⟨rfl, a126, rfl, p125⟩
            refine wq_cI (s_Finder_time W p125) ?_
            rintro y130 h127 ⟨W128, g129, p131⟩
            have G132 := fk_c (ws := [1, 2, 10]) G g129 rfl
            have e133 := (g129 _ _ _ t3 rfl).trans e_2
            refine wq_eq q_137_383 ?_
            refine wq_if _ (fun c134 => ?_) (fun c134 => ?_)
            · exact ih _ _ _ (by have := le_i c1; have := lt_i c3; have := ne_i c12; have := ne_i c26; have := ne_i c40; have := ne_i c63; have := ne_i c69; have := ne_i c90; have := congrArg Int32.toInt c121; have := congrArg Int32.toInt c134; have : (0 : Int32).toInt = 0 := rfl; have : (1 : Int32).toInt = 1 := rfl; have : (2 : Int32).toInt = 2 := rfl; have : (20 : Int32).toInt = 20 := rfl; have : (21 : Int32).toInt = 21 := rfl; have : (3 : Int32).toInt = 3 := rfl; have : (32 : Int32).toInt = 32 := rfl; have : (4 : Int32).toInt = 4 := rfl; have := bd_i c_2; have := bd_i v2; have := bd_i v4; have := bd_i y10; have := bd_i y130; have := bd_i v4; have := bd_i (1 : Int32); have : (v4 + (1 : Int32)).toInt = v4.toInt + (1 : Int32).toInt := ad_i (by omega) (by omega); omega) W128 G132
            · refine wk_at W128 t1 rfl (fun _ => ?_)
              refine wq_cI (s_Unit_fail W128 t1) ?_
              rintro y138 h135 ⟨W136, g137, p139⟩
              have G140 := fk_c (ws := [1, 2, 10]) G132 g137 rfl
              have e141 := (g137 _ _ _ t3 rfl).trans e133
              exact wq_t p139 (wq_some (rI_i ⟨W136, G140, p139⟩))
          refine wq_if _ (fun c142 => ?_) (fun c142 => ?_)
          · obtain ⟨sg_143, st_143, tp_143, e_143, tsg_143, tst_143, b0_143, b1_143⟩ := o2 W t0
            refine wq_gR e_143 rfl ?_
            refine wk_at W tsg_143 rfl (fun _ => ?_)
            refine wq_cR (s_Things_pick W tsg_143) ?_
            rintro r146 h144 ⟨rfl, p147⟩
            refine wk_at W t0 rfl (fun _ => ?_)
            refine wq_cV (s_Finder_pushNow W t0 p147) ?_
            rintro h148 ⟨W149, g150⟩
            have G151 := fk_c (ws := [1, 2, 10]) G g150 rfl
            have e152 := (g150 _ _ _ t3 rfl).trans e_2
            refine wq_eq q_137_383 ?_
            refine wq_t (by decide) ?_
            exact ih _ _ _ (by have := le_i c1; have := lt_i c3; have := ne_i c12; have := ne_i c26; have := ne_i c40; have := ne_i c63; have := ne_i c69; have := ne_i c90; have := ne_i c121; have := congrArg Int32.toInt c142; have : (0 : Int32).toInt = 0 := rfl; have : (1 : Int32).toInt = 1 := rfl; have : (2 : Int32).toInt = 2 := rfl; have : (20 : Int32).toInt = 20 := rfl; have : (21 : Int32).toInt = 21 := rfl; have : (3 : Int32).toInt = 3 := rfl; have : (32 : Int32).toInt = 32 := rfl; have : (4 : Int32).toInt = 4 := rfl; have : (80 : Int32).toInt = 80 := rfl; have := bd_i c_2; have := bd_i v2; have := bd_i v4; have := bd_i y10; have := bd_i v4; have := bd_i (1 : Int32); have : (v4 + (1 : Int32)).toInt = v4.toInt + (1 : Int32).toInt := ad_i (by omega) (by omega); omega) W149 G151
          refine wq_if _ (fun c153 => ?_) (fun c153 => ?_)
          · obtain ⟨nd_154, nn_154, vr_154, vn_154, s2_154, s3_154, s4_154, s5_154, s6_154, s7_154, s8_154, w9_154, nx_154, en_154, e_154, tnd_154, tvr_154, tnx_154, ten_154⟩ := o10 W t1
            refine wq_gR e_154 rfl ?_
            refine wk_at W tvr_154 rfl (fun _ => ?_)
            refine wq_cR (s_Things_pick W tvr_154) ?_
            rintro r157 h155 ⟨rfl, p158⟩
            refine wk_at W t0 rfl (fun _ => ?_)
            refine wq_cV (s_Finder_pushNow W t0 p158) ?_
            rintro h159 ⟨W160, g161⟩
            have G162 := fk_c (ws := [1, 2, 10]) G g161 rfl
            have e163 := (g161 _ _ _ t3 rfl).trans e_2
            have e164 := (g161 _ _ _ t1 rfl).trans e_154
            refine wq_eq q_137_383 ?_
            refine wq_t (by decide) ?_
            exact ih _ _ _ (by have := le_i c1; have := lt_i c3; have := ne_i c12; have := ne_i c26; have := ne_i c40; have := ne_i c63; have := ne_i c69; have := ne_i c90; have := ne_i c121; have := ne_i c142; have := congrArg Int32.toInt c153; have : (0 : Int32).toInt = 0 := rfl; have : (1 : Int32).toInt = 1 := rfl; have : (2 : Int32).toInt = 2 := rfl; have : (20 : Int32).toInt = 20 := rfl; have : (21 : Int32).toInt = 21 := rfl; have : (3 : Int32).toInt = 3 := rfl; have : (32 : Int32).toInt = 32 := rfl; have : (4 : Int32).toInt = 4 := rfl; have : (80 : Int32).toInt = 80 := rfl; have : (81 : Int32).toInt = 81 := rfl; have := bd_i c_2; have := bd_i v2; have := bd_i v4; have := bd_i y10; have := bd_i v4; have := bd_i (1 : Int32); have : (v4 + (1 : Int32)).toInt = v4.toInt + (1 : Int32).toInt := ad_i (by omega) (by omega); omega) W160 G162
          refine wq_if _ (fun c165 => ?_) (fun c165 => ?_)
          · refine wk_at W t0 rfl (fun _ => ?_)
            refine wq_cI (s_Finder_element W t0) ?_
            rintro y169 h166 ⟨W167, g168, p170⟩
            have G171 := fk_c (ws := [1, 2, 10]) G g168 rfl
            have e172 := (g168 _ _ _ t3 rfl).trans e_2
            refine wq_eq q_137_383 ?_
            refine wq_if _ (fun c173 => ?_) (fun c173 => ?_)
            · exact ih _ _ _ (by have := le_i c1; have := lt_i c3; have := ne_i c12; have := ne_i c26; have := ne_i c40; have := ne_i c63; have := ne_i c69; have := ne_i c90; have := ne_i c121; have := ne_i c142; have := ne_i c153; have := congrArg Int32.toInt c165; have := congrArg Int32.toInt c173; have : (0 : Int32).toInt = 0 := rfl; have : (1 : Int32).toInt = 1 := rfl; have : (2 : Int32).toInt = 2 := rfl; have : (20 : Int32).toInt = 20 := rfl; have : (21 : Int32).toInt = 21 := rfl; have : (3 : Int32).toInt = 3 := rfl; have : (32 : Int32).toInt = 32 := rfl; have : (4 : Int32).toInt = 4 := rfl; have : (80 : Int32).toInt = 80 := rfl; have : (81 : Int32).toInt = 81 := rfl; have : (82 : Int32).toInt = 82 := rfl; have := bd_i c_2; have := bd_i v2; have := bd_i v4; have := bd_i y10; have := bd_i y169; have := bd_i v4; have := bd_i (1 : Int32); have : (v4 + (1 : Int32)).toInt = v4.toInt + (1 : Int32).toInt := ad_i (by omega) (by omega); omega) W167 G171
            · refine wk_at W167 t1 rfl (fun _ => ?_)
              refine wq_cI (s_Unit_fail W167 t1) ?_
              rintro y177 h174 ⟨W175, g176, p178⟩
              have G179 := fk_c (ws := [1, 2, 10]) G171 g176 rfl
              have e180 := (g176 _ _ _ t3 rfl).trans e172
              exact wq_t p178 (wq_some (rI_i ⟨W175, G179, p178⟩))
          refine wq_if _ (fun c181 => ?_) (fun c181 => ?_)
          · refine wk_at W t0 rfl (fun _ => ?_)
            refine wq_cV (s_Finder_part W t0) ?_
            rintro h182 ⟨W183, g184⟩
            have G185 := fk_c (ws := [1, 2, 10]) G g184 rfl
            have e186 := (g184 _ _ _ t3 rfl).trans e_2
            refine wq_eq q_137_383 ?_
            refine wq_t (by decide) ?_
            exact ih _ _ _ (by have := le_i c1; have := lt_i c3; have := ne_i c12; have := ne_i c26; have := ne_i c40; have := ne_i c63; have := ne_i c69; have := ne_i c90; have := ne_i c121; have := ne_i c142; have := ne_i c153; have := ne_i c165; have := congrArg Int32.toInt c181; have : (0 : Int32).toInt = 0 := rfl; have : (1 : Int32).toInt = 1 := rfl; have : (2 : Int32).toInt = 2 := rfl; have : (20 : Int32).toInt = 20 := rfl; have : (21 : Int32).toInt = 21 := rfl; have : (3 : Int32).toInt = 3 := rfl; have : (32 : Int32).toInt = 32 := rfl; have : (4 : Int32).toInt = 4 := rfl; have : (80 : Int32).toInt = 80 := rfl; have : (81 : Int32).toInt = 81 := rfl; have : (82 : Int32).toInt = 82 := rfl; have : (83 : Int32).toInt = 83 := rfl; have := bd_i c_2; have := bd_i v2; have := bd_i v4; have := bd_i y10; have := bd_i v4; have := bd_i (1 : Int32); have : (v4 + (1 : Int32)).toInt = v4.toInt + (1 : Int32).toInt := ad_i (by omega) (by omega); omega) W183 G185
          refine wq_if _ (fun c187 => ?_) (fun c187 => ?_)
          · obtain ⟨sg_188, st_188, tp_188, e_188, tsg_188, tst_188, b0_188, b1_188⟩ := o2 W t0
            refine wq_gR e_188 rfl ?_
            refine wk_at W t3 rfl (fun _ => ?_)
            refine wq_cI (s_Nodes_kid W t3) ?_
            rintro y191 h189 ⟨rfl, p192⟩
            refine wk_at W t3 rfl (fun _ => ?_)
            refine wq_cI (s_Nodes_givenOf W t3) ?_
            rintro y195 h193 ⟨rfl, p196⟩
            refine wk_at W tsg_188 rfl (fun _ => ?_)
            refine wq_cR (s_Things_pick W tsg_188) ?_
            rintro r199 h197 ⟨rfl, p200⟩
            refine wk_at W t0 rfl (fun _ => ?_)
            refine wq_cI (s_Finder_function W t0 p200) ?_
            rintro y204 h201 ⟨W202, g203, p205⟩
            have G206 := fk_c (ws := [1, 2, 10]) G g203 rfl
            have e207 := (g203 _ _ _ t3 rfl).trans e_2
            refine wq_eq q_137_383 ?_
            refine wq_if _ (fun c208 => ?_) (fun c208 => ?_)
            · exact ih _ _ _ (by have := le_i c1; have := lt_i c3; have := ne_i c12; have := ne_i c26; have := ne_i c40; have := ne_i c63; have := ne_i c69; have := ne_i c90; have := ne_i c121; have := ne_i c142; have := ne_i c153; have := ne_i c165; have := ne_i c181; have := congrArg Int32.toInt c187; have := congrArg Int32.toInt c208; have : (0 : Int32).toInt = 0 := rfl; have : (1 : Int32).toInt = 1 := rfl; have : (2 : Int32).toInt = 2 := rfl; have : (20 : Int32).toInt = 20 := rfl; have : (21 : Int32).toInt = 21 := rfl; have : (3 : Int32).toInt = 3 := rfl; have : (32 : Int32).toInt = 32 := rfl; have : (4 : Int32).toInt = 4 := rfl; have : (80 : Int32).toInt = 80 := rfl; have : (81 : Int32).toInt = 81 := rfl; have : (82 : Int32).toInt = 82 := rfl; have : (83 : Int32).toInt = 83 := rfl; have : (84 : Int32).toInt = 84 := rfl; have := bd_i c_2; have := bd_i v2; have := bd_i v4; have := bd_i y10; have := bd_i y204; have := bd_i v4; have := bd_i (1 : Int32); have : (v4 + (1 : Int32)).toInt = v4.toInt + (1 : Int32).toInt := ad_i (by omega) (by omega); omega) W202 G206
            · refine wk_at W202 t1 rfl (fun _ => ?_)
              refine wq_cI (s_Unit_fail W202 t1) ?_
              rintro y212 h209 ⟨W210, g211, p213⟩
              have G214 := fk_c (ws := [1, 2, 10]) G206 g211 rfl
              have e215 := (g211 _ _ _ t3 rfl).trans e207
              exact wq_t p213 (wq_some (rI_i ⟨W210, G214, p213⟩))
          refine wq_if _ (fun c216 => ?_) (fun c216 => ?_)
          · obtain ⟨sg_217, st_217, tp_217, e_217, tsg_217, tst_217, b0_217, b1_217⟩ := o2 W t0
            refine wq_gR e_217 rfl ?_
            refine wk_at W t3 rfl (fun _ => ?_)
            refine wq_cI (s_Nodes_kid W t3) ?_
            rintro y220 h218 ⟨rfl, p221⟩
            refine wk_at W t3 rfl (fun _ => ?_)
            refine wq_cI (s_Nodes_givenOf W t3) ?_
            rintro y224 h222 ⟨rfl, p225⟩
            refine wk_at W tsg_217 rfl (fun _ => ?_)
            refine wq_cR (s_Things_pick W tsg_217) ?_
            rintro r228 h226 ⟨rfl, p229⟩
            refine wk_at W t0 rfl (fun _ => ?_)
            refine wq_cV (s_Finder_ofSignal W t0 p229) ?_
            rintro h230 ⟨W231, g232⟩
            have G233 := fk_c (ws := [1, 2, 10]) G g232 rfl
            have e234 := (g232 _ _ _ t3 rfl).trans e_2
            have e235 := (g232 _ _ _ t0 rfl).trans e_217
            refine wq_eq q_137_383 ?_
            refine wq_t (by decide) ?_
            exact ih _ _ _ (by have := le_i c1; have := lt_i c3; have := ne_i c12; have := ne_i c26; have := ne_i c40; have := ne_i c63; have := ne_i c69; have := ne_i c90; have := ne_i c121; have := ne_i c142; have := ne_i c153; have := ne_i c165; have := ne_i c181; have := ne_i c187; have := congrArg Int32.toInt c216; have : (0 : Int32).toInt = 0 := rfl; have : (1 : Int32).toInt = 1 := rfl; have : (2 : Int32).toInt = 2 := rfl; have : (20 : Int32).toInt = 20 := rfl; have : (21 : Int32).toInt = 21 := rfl; have : (3 : Int32).toInt = 3 := rfl; have : (32 : Int32).toInt = 32 := rfl; have : (4 : Int32).toInt = 4 := rfl; have : (80 : Int32).toInt = 80 := rfl; have : (81 : Int32).toInt = 81 := rfl; have : (82 : Int32).toInt = 82 := rfl; have : (83 : Int32).toInt = 83 := rfl; have : (84 : Int32).toInt = 84 := rfl; have : (85 : Int32).toInt = 85 := rfl; have := bd_i c_2; have := bd_i v2; have := bd_i v4; have := bd_i y10; have := bd_i v4; have := bd_i (1 : Int32); have : (v4 + (1 : Int32)).toInt = v4.toInt + (1 : Int32).toInt := ad_i (by omega) (by omega); omega) W231 G233
          refine wq_eq q_137_383 ?_
          refine wq_t (by decide) ?_
          exact ih _ _ _ (by have := le_i c1; have := lt_i c3; have := ne_i c12; have := ne_i c26; have := ne_i c40; have := ne_i c63; have := ne_i c69; have := ne_i c90; have := ne_i c121; have := ne_i c142; have := ne_i c153; have := ne_i c165; have := ne_i c181; have := ne_i c187; have := ne_i c216; have : (0 : Int32).toInt = 0 := rfl; have : (1 : Int32).toInt = 1 := rfl; have : (2 : Int32).toInt = 2 := rfl; have : (20 : Int32).toInt = 20 := rfl; have : (21 : Int32).toInt = 21 := rfl; have : (3 : Int32).toInt = 3 := rfl; have : (32 : Int32).toInt = 32 := rfl; have : (4 : Int32).toInt = 4 := rfl; have : (80 : Int32).toInt = 80 := rfl; have : (81 : Int32).toInt = 81 := rfl; have : (82 : Int32).toInt = 82 := rfl; have : (83 : Int32).toInt = 83 := rfl; have : (84 : Int32).toInt = 84 := rfl; have : (85 : Int32).toInt = 85 := rfl; have := bd_i c_2; have := bd_i v2; have := bd_i v4; have := bd_i y10; have := bd_i v4; have := bd_i (1 : Int32); have : (v4 + (1 : Int32)).toInt = v4.toInt + (1 : Int32).toInt := ad_i (by omega) (by omega); omega) W G
        · exact wq_t (Or.inr rfl) (wq_some (rI_i ⟨W, G, (Or.inr rfl)⟩))
      · exact wq_t (Or.inr rfl) (wq_some (rI_i ⟨W, G, (Or.inr rfl)⟩))
theorem s_Finder_find {d : Nat} {h : ah_H} {v0 : Nat} {n1 : Nat} {v1 : Nat} {v2 : Int32} (W : cI K κ b h) (t0 : κ v0 = some (2, 0)) (t1 : κ v1 = some (10, n1)) : wq (vc lim (d + 4) m_Finder_find [.inr (.inr (some v0)), .inr (.inr (some v1)), .inl v2] h) (rI fun x h' => cI K κ b h' ∧ fk [1, 2, 10] κ h h' ∧ (x = 0 ∨ x = 1)) := by
  refine wq_eq e_Finder_find ?_
  obtain ⟨nd_1, nn_1, vr_1, vn_1, s2_1, s3_1, s4_1, s5_1, s6_1, s7_1, s8_1, w9_1, nx_1, en_1, e_1, tnd_1, tvr_1, tnx_1, ten_1⟩ := o10 W t1
  refine wq_gR e_1 rfl ?_
  obtain ⟨sg_2, st_2, tp_2, e_2, tsg_2, tst_2, b0_2, b1_2⟩ := o2 W t0
  refine wk_wr W t0 rfl e_2 (Nat.le_of_ble_eq_true rfl) (i2 tsg_2 tst_2 (by have : (0 : Int32).toInt = 0 := rfl; omega) (by have : (0 : Int32).toInt = 0 := rfl; omega)) ?_
  intro h3 W4 e5 o6
  have G7 := fk_w (ws := [1, 2, 10]) fk_0 t0 o6 rfl
  have e8 := (o6 _ (kne t1 t0 rfl)).trans e_1
  refine wk_at W4 tnd_1 rfl (fun _ => ?_)
  refine wq_cI (s_Nodes_startOf W4 tnd_1) ?_
  rintro y11 h9 ⟨rfl, p12⟩
  exact l_137_17 t0 t1 tnd_1 _ _ _ _ (Nat.lt_succ_self _) W4 G7
end CsD
