/-! THE REFERENCE: values, by program (wip/tools/refgen.py) -/
section RfA
variable {lim : Nat × Nat} {m p : Nat} {σ σ0 : rS} {b : ah_H}
theorem v_isLow {d : Nat} {h : ah_H} {v0 : Int32}   : wq (vc lim (d + 1) m_Ref_isLow [.inl v0] h) (rI fun x h' => h' = h ∧ (x = 0 ∨ x = 1)) := by
  refine wq_eq e_Ref_isLow ?_
  refine wq_if _ (fun c1 => ?_) (fun c1 => ?_)
  · exact wq_t (Or.inr rfl) (wq_some (rI_i ⟨rfl, (Or.inr rfl)⟩))
  · refine wq_if _ (fun c2 => ?_) (fun c2 => ?_)
    · exact wq_t (Or.inr rfl) (wq_some (rI_i ⟨rfl, (Or.inr rfl)⟩))
    · exact wq_t (Or.inl rfl) (wq_some (rI_i ⟨rfl, (Or.inl rfl)⟩))
theorem v_isHigh {d : Nat} {h : ah_H} {v0 : Int32}   : wq (vc lim (d + 1) m_Ref_isHigh [.inl v0] h) (rI fun x h' => h' = h ∧ (x = 0 ∨ x = 1)) := by
  refine wq_eq e_Ref_isHigh ?_
  refine wq_if _ (fun c1 => ?_) (fun c1 => ?_)
  · exact wq_t (Or.inr rfl) (wq_some (rI_i ⟨rfl, (Or.inr rfl)⟩))
  · refine wq_if _ (fun c2 => ?_) (fun c2 => ?_)
    · exact wq_t (Or.inr rfl) (wq_some (rI_i ⟨rfl, (Or.inr rfl)⟩))
    · exact wq_t (Or.inl rfl) (wq_some (rI_i ⟨rfl, (Or.inl rfl)⟩))
theorem v_not {d : Nat} {h : ah_H} {v0 : Int32}   : wq (vc lim (d + 2) m_Ref_not [.inl v0] h) (rI fun x h' => h' = h ∧ True) := by
  refine wq_eq e_Ref_not ?_
  refine wq_if _ (fun c1 => ?_) (fun c1 => ?_)
  · exact wq_some (rI_i ⟨rfl, trivial⟩)
  · refine wq_cI (v_isLow) ?_
    rintro y4 h2 ⟨rfl, p3⟩
    refine wq_if _ (fun c5 => ?_) (fun c5 => ?_)
    · refine wq_cI (v_isHigh) ?_
      rintro y8 h6 ⟨rfl, p7⟩
      refine wq_if _ (fun c9 => ?_) (fun c9 => ?_)
      · exact wq_some (rI_i ⟨rfl, trivial⟩)
      · exact wq_some (rI_i ⟨rfl, trivial⟩)
    · exact wq_some (rI_i ⟨rfl, trivial⟩)
theorem u_80_168 {d : Nat} {h : ah_H} {v0 : Int32} {v5 : Int32}   : wq (ah_val lim ah_P (d + 2) 80 168 [some (.inl v0), none, none, none, none, some (.inl v5)] [] h) (rI fun x h' => h' = h ∧ True) := by
  refine wq_eq q_80_168 ?_
  refine wq_if _ (fun c1 => ?_) (fun c1 => ?_)
  · refine wq_cI (v_not) ?_
    rintro y4 h2 ⟨rfl, p3⟩
    exact wq_some (rI_i ⟨rfl, trivial⟩)
  · refine wq_if _ (fun c5 => ?_) (fun c5 => ?_)
    · refine wq_cI (v_not) ?_
      rintro y8 h6 ⟨rfl, p7⟩
      exact wq_some (rI_i ⟨rfl, trivial⟩)
    · refine wq_if _ (fun c9 => ?_) (fun c9 => ?_)
      · refine wq_cI (v_not) ?_
        rintro y12 h10 ⟨rfl, p11⟩
        exact wq_some (rI_i ⟨rfl, trivial⟩)
      · exact wq_some (rI_i ⟨rfl, trivial⟩)
theorem u_80_129 {d : Nat} {h : ah_H} {v0 : Int32} {v1 : Int32} {v2 : Int32} {v3 : Int32} {v4 : Int32}   : wq (ah_val lim ah_P (d + 2) 80 129 [some (.inl v0), some (.inl v1), some (.inl v2), some (.inl v3), some (.inl v4), none] [] h) (rI fun x h' => h' = h ∧ True) := by
  refine wq_eq q_80_129 ?_
  refine wq_if _ (fun c1 => ?_) (fun c1 => ?_)
  · refine wq_if _ (fun c2 => ?_) (fun c2 => ?_)
    · refine wq_cI (v_isHigh) ?_
      rintro y5 h3 ⟨rfl, p4⟩
      refine wq_cI (v_isHigh) ?_
      rintro y8 h6 ⟨rfl, p7⟩
      refine wq_if _ (fun c9 => ?_) (fun c9 => ?_)
      · exact u_80_168
      · exact u_80_168
    · exact u_80_168
  · exact u_80_168
theorem u_80_81 {d : Nat} {h : ah_H} {v0 : Int32} {v1 : Int32} {v2 : Int32} {v3 : Int32} {v4 : Int32}   : wq (ah_val lim ah_P (d + 2) 80 81 [some (.inl v0), some (.inl v1), some (.inl v2), some (.inl v3), some (.inl v4), none] [] h) (rI fun x h' => h' = h ∧ True) := by
  refine wq_eq q_80_81 ?_
  refine wq_if _ (fun c1 => ?_) (fun c1 => ?_)
  · exact u_80_168
  · refine wq_if _ (fun c2 => ?_) (fun c2 => ?_)
    · exact u_80_168
    · refine wq_cI (v_isLow) ?_
      rintro y5 h3 ⟨rfl, p4⟩
      refine wq_if _ (fun c6 => ?_) (fun c6 => ?_)
      · refine wq_cI (v_isHigh) ?_
        rintro y9 h7 ⟨rfl, p8⟩
        refine wq_if _ (fun c10 => ?_) (fun c10 => ?_)
        · exact u_80_168
        · refine wq_cI (v_isLow) ?_
          rintro y13 h11 ⟨rfl, p12⟩
          refine wq_if _ (fun c14 => ?_) (fun c14 => ?_)
          · refine wq_cI (v_isHigh) ?_
            rintro y17 h15 ⟨rfl, p16⟩
            refine wq_if _ (fun c18 => ?_) (fun c18 => ?_)
            · exact u_80_168
            · exact u_80_129
          · exact u_80_129
      · refine wq_cI (v_isLow) ?_
        rintro y21 h19 ⟨rfl, p20⟩
        refine wq_if _ (fun c22 => ?_) (fun c22 => ?_)
        · refine wq_cI (v_isHigh) ?_
          rintro y25 h23 ⟨rfl, p24⟩
          refine wq_if _ (fun c26 => ?_) (fun c26 => ?_)
          · exact u_80_168
          · exact u_80_129
        · exact u_80_129
theorem u_80_30 {d : Nat} {h : ah_H} {v0 : Int32} {v1 : Int32} {v2 : Int32} {v3 : Int32} {s0 : Int32}   : wq (ah_val lim ah_P (d + 2) 80 30 [some (.inl v0), some (.inl v1), some (.inl v2), some (.inl v3), none, none] [.inl s0] h) (rI fun x h' => h' = h ∧ True) := by
  refine wq_eq q_80_30 ?_
  refine wq_if _ (fun c1 => ?_) (fun c1 => ?_)
  · refine wq_if _ (fun c2 => ?_) (fun c2 => ?_)
    · exact u_80_81
    · refine wq_cI (v_isHigh) ?_
      rintro y5 h3 ⟨rfl, p4⟩
      refine wq_if _ (fun c6 => ?_) (fun c6 => ?_)
      · refine wq_cI (v_isHigh) ?_
        rintro y9 h7 ⟨rfl, p8⟩
        refine wq_if _ (fun c10 => ?_) (fun c10 => ?_)
        · exact u_80_81
        · exact u_80_168
      · exact u_80_168
  · refine wq_cI (v_isLow) ?_
    rintro y13 h11 ⟨rfl, p12⟩
    refine wq_if _ (fun c14 => ?_) (fun c14 => ?_)
    · refine wq_cI (v_isLow) ?_
      rintro y17 h15 ⟨rfl, p16⟩
      refine wq_if _ (fun c18 => ?_) (fun c18 => ?_)
      · refine wq_if _ (fun c19 => ?_) (fun c19 => ?_)
        · exact u_80_81
        · refine wq_cI (v_isHigh) ?_
          rintro y22 h20 ⟨rfl, p21⟩
          refine wq_if _ (fun c23 => ?_) (fun c23 => ?_)
          · refine wq_cI (v_isHigh) ?_
            rintro y26 h24 ⟨rfl, p25⟩
            refine wq_if _ (fun c27 => ?_) (fun c27 => ?_)
            · exact u_80_81
            · exact u_80_168
          · exact u_80_168
      · exact u_80_168
    · exact u_80_168
theorem v_join {d : Nat} {h : ah_H} {v0 : Int32} {v1 : Int32} {v2 : Int32}   : wq (vc lim (d + 3) m_Ref_join [.inl v0, .inl v1, .inl v2] h) (rI fun x h' => h' = h ∧ True) := by
  refine wq_eq e_Ref_join ?_
  refine wq_if _ (fun c1 => ?_) (fun c1 => ?_)
  · refine wq_if _ (fun c2 => ?_) (fun c2 => ?_)
    · exact u_80_30
    · refine wq_if _ (fun c3 => ?_) (fun c3 => ?_)
      · exact u_80_30
      · exact u_80_30
  · refine wq_if _ (fun c4 => ?_) (fun c4 => ?_)
    · refine wq_if _ (fun c5 => ?_) (fun c5 => ?_)
      · exact u_80_30
      · refine wq_if _ (fun c6 => ?_) (fun c6 => ?_)
        · exact u_80_30
        · exact u_80_30
    · refine wq_if _ (fun c7 => ?_) (fun c7 => ?_)
      · exact u_80_30
      · refine wq_if _ (fun c8 => ?_) (fun c8 => ?_)
        · exact u_80_30
        · exact u_80_30
theorem v_element {d : Nat} {h : ah_H} {v1 : Int32} {v2 : Int32} (H : RH m σ b h) (O : OKV σ) (G : sm (QR p) σ0 σ) (g0 : 0 ≤ v1.toInt) (g1 : v1.toInt < 10100) (g2 : 0 ≤ v2.toInt) (g3 : v2.toInt < 64)  : wq (vc lim (d + 1) m_Ref_element [.inr (.inr (some m)), .inl v1, .inl v2] h) (rI fun x h' => h' = h ∧ True) := by
  refine wq_eq e_Ref_element ?_
  refine wq_gR H.1 rfl ?_
  refine rv_x H (by omega) rfl rfl (by have : (64 : Int32).toInt = 64 := rfl; have : ((64 : Int32) * v1).toInt = 64 * v1.toInt := ml_c rfl (by omega) (by omega); have := bd_i ((64 : Int32) * v1); have := bd_i v2; have : (((64 : Int32) * v1) + v2).toInt = ((64 : Int32) * v1).toInt + v2.toInt := ad_i (by omega) (by omega); omega) (by have : (64 : Int32).toInt = 64 := rfl; have : ((64 : Int32) * v1).toInt = 64 * v1.toInt := ml_c rfl (by omega) (by omega); have := bd_i ((64 : Int32) * v1); have := bd_i v2; have : (((64 : Int32) * v1) + v2).toInt = ((64 : Int32) * v1).toInt + v2.toInt := ad_i (by omega) (by omega); show _ < (646400 : Int); omega) (fun u1 => ?_)
  exact wq_some (rI_i ⟨rfl, trivial⟩)
theorem v_setElement {d : Nat} {h : ah_H} {v1 : Int32} {v2 : Int32} {v3 : Int32} (H : RH m σ b h) (O : OKV σ) (G : sm (QR p) σ0 σ) (g0 : (9344 ≤ v1.toInt ∨ ((p < 1000 ∨ 2000 ≤ p) ∧ 1024 ≤ v1.toInt))) (g1 : v1.toInt < 10100) (g2 : 0 ≤ v2.toInt) (g3 : v2.toInt < 64)  : wq (vc lim (d + 1) m_Ref_setElement [.inr (.inr (some m)), .inl v1, .inl v2, .inl v3] h) (rV fun h' => rvP m p σ0 b h') := by
  refine wq_eq e_Ref_setElement ?_
  refine wq_gR H.1 rfl ?_
  refine rv_s5 H O G (by have : (64 : Int32).toInt = 64 := rfl; have : ((64 : Int32) * v1).toInt = 64 * v1.toInt := ml_c rfl (by omega) (by omega); have := bd_i ((64 : Int32) * v1); have := bd_i v2; have : (((64 : Int32) * v1) + v2).toInt = ((64 : Int32) * v1).toInt + v2.toInt := ad_i (by omega) (by omega); omega) (by have : (64 : Int32).toInt = 64 := rfl; have : ((64 : Int32) * v1).toInt = 64 * v1.toInt := ml_c rfl (by omega) (by omega); have := bd_i ((64 : Int32) * v1); have := bd_i v2; have : (((64 : Int32) * v1) + v2).toInt = ((64 : Int32) * v1).toInt + v2.toInt := ad_i (by omega) (by omega); omega) ?_
  intro h1 s2 H3 O4 G5
  exact wq_some (rV_i ⟨_, H3, O4, G5⟩)
theorem w_28_38 {d : Nat} : ∀ (M : Nat) (h1 : ah_H) (σ1 : rS) (v1 : Int32) (v2 : Int32) (v3 : Int32), (2147483647 - v3.toInt).toNat < M → 0 ≤ v3.toInt → 0 ≤ v1.toInt → v1.toInt < 10100 → 9344 ≤ v2.toInt → v2.toInt < 10100 → RH m σ1 b h1 → OKV σ1 → sm (QR p) σ0 σ1 → wq (ah_val lim ah_P (d + 1) 28 38 [some (.inr (.inr (some m))), some (.inl v1), some (.inl v2), some (.inl v3)] [] h1) (rV fun h' => rvP m p σ0 b h') := by
  intro M
  induction M with
  | zero => intros; omega
  | succ M ih =>
      intro h1 σ1 v1 v2 v3 hM iv0 iv1 iv2 iv3 iv4 H O G
      refine wq_eq q_28_38 ?_
      refine wq_if _ (fun c1 => ?_) (fun c1 => ?_)
      · refine wq_at H.1 ?_
        refine wq_cI (v_element H O G (by omega) (by omega) (by have := lt_i c1; have : (64 : Int32).toInt = 64 := rfl; omega) (by have := lt_i c1; have : (64 : Int32).toInt = 64 := rfl; omega)) ?_
        rintro y4 h2 ⟨rfl, p3⟩
        refine wq_at H.1 ?_
        refine wq_cV (v_setElement H O G (by omega) (by omega) (by have := lt_i c1; have : (64 : Int32).toInt = 64 := rfl; omega) (by have := lt_i c1; have : (64 : Int32).toInt = 64 := rfl; omega)) ?_
        rintro h5 ⟨s7, H8, O9, G10⟩
        exact ih _ _ _ _ _ (by have := lt_i c1; have : (1 : Int32).toInt = 1 := rfl; have : (64 : Int32).toInt = 64 := rfl; have := bd_i v3; have := bd_i (1 : Int32); have : (v3 + (1 : Int32)).toInt = v3.toInt + (1 : Int32).toInt := ad_i (by omega) (by omega); omega) (by have := lt_i c1; have : (1 : Int32).toInt = 1 := rfl; have : (64 : Int32).toInt = 64 := rfl; have := bd_i v3; have := bd_i (1 : Int32); have : (v3 + (1 : Int32)).toInt = v3.toInt + (1 : Int32).toInt := ad_i (by omega) (by omega); omega) (by omega) (by omega) (by omega) (by omega) H8 O9 G10
      · exact wq_some (rV_i ⟨_, H, O, G⟩)
theorem v_copy {d : Nat} {h : ah_H} {v1 : Int32} {v2 : Int32} (H : RH m σ b h) (O : OKV σ) (G : sm (QR p) σ0 σ) (g0 : 0 ≤ v1.toInt) (g1 : v1.toInt < 10100) (g2 : 9344 ≤ v2.toInt) (g3 : v2.toInt < 10100)  : wq (vc lim (d + 2) m_Ref_copy [.inr (.inr (some m)), .inl v1, .inl v2] h) (rV fun h' => rvP m p σ0 b h') := by
  refine wq_eq e_Ref_copy ?_
  refine wq_gR H.1 rfl ?_
  refine wq_gR H.1 rfl ?_
  refine rv_0 H O (by omega) (by show _ < (10100 : Int); omega) (fun u1 q2 q3 => ?_)
  refine rv_s0 H O G (by omega) (by omega) (by omega) (by omega) ?_
  intro h4 s5 H6 O7 G8
  refine wq_gR H6.1 rfl ?_
  refine wq_gR H6.1 rfl ?_
  refine rv_1 H6 O7 (by omega) (by show _ < (10100 : Int); omega) (fun u9 q10 q11 => ?_)
  refine rv_s1 H6 O7 G8 (by omega) (by omega) (by omega) (by omega) ?_
  intro h12 s13 H14 O15 G16
  refine wq_gR H14.1 rfl ?_
  refine wq_gR H14.1 rfl ?_
  refine ra_J H14 (by omega) rfl (by omega) (by show _ < (10100 : Int); omega) ?_
  refine rv_s4 H14 O15 G16 (by omega) (by omega) ?_
  intro h17 s18 H19 O20 G21
  exact w_28_38 _ _ _ _ _ _ (Nat.lt_succ_self _) (by have : (0 : Int32).toInt = 0 := rfl; omega) (by omega) (by omega) (by omega) (by omega) H19 O20 G21
theorem v_fail {d : Nat} {h : ah_H} {v1 : Int32} {v2 : Int32} (H : RH m σ b h) (O : OKV σ) (G : sm (QR p) σ0 σ)   : wq (vc lim (d + 1) m_Ref_fail [.inr (.inr (some m)), .inl v1, .inl v2] h) (rI fun x h' => rvP m p σ0 b h' ∧ ((x = 0 ∨ x = 1) ∧ x = 0)) := by
  refine wq_eq e_Ref_fail ?_
  refine rv_G H O G (by omega) (by omega) rfl ?_
  intro h1 s2 H3 O4 G5 e6
  refine rv_G H3 O4 G5 (by omega) (by omega) rfl ?_
  intro h7 s8 H9 O10 G11 e12
  exact wq_t (Or.inl rfl) (wq_some (rI_i ⟨⟨_, H9, O10, G11⟩, ⟨(Or.inl rfl), rfl⟩⟩))
theorem v_numeral {d : Nat} {h : ah_H} {v1 : Int32} {v2 : Int64} (H : RH m σ b h) (O : OKV σ) (G : sm (QR p) σ0 σ) (g0 : 9344 ≤ v1.toInt) (g1 : v1.toInt < 10100)  : wq (vc lim (d + 1) m_Ref_numeral [.inr (.inr (some m)), .inl v1, .inr (.inl v2)] h) (rI fun x h' => rvP m p σ0 b h' ∧ (x = 0 ∨ x = 1)) := by
  refine wq_eq e_Ref_numeral ?_
  refine wq_gR H.1 rfl ?_
  refine rv_s0 H O G (by omega) (by omega) (by have : (2 : Int32).toInt = 2 := rfl; omega) (by have : (2 : Int32).toInt = 2 := rfl; omega) ?_
  intro h1 s2 H3 O4 G5
  refine wq_gR H3.1 rfl ?_
  refine rv_s1 H3 O4 G5 (by omega) (by omega) (by have : (0 : Int32).toInt = 0 := rfl; omega) (by have : (0 : Int32).toInt = 0 := rfl; omega) ?_
  intro h6 s7 H8 O9 G10
  refine wq_gR H8.1 rfl ?_
  refine rv_s4 H8 O9 G10 (by omega) (by omega) ?_
  intro h11 s12 H13 O14 G15
  exact wq_t (Or.inr rfl) (wq_some (rI_i ⟨⟨_, H13, O14, G15⟩, (Or.inr rfl)⟩))
theorem v_truth {d : Nat} {h : ah_H} {v1 : Int32} {v2 : Int32} (H : RH m σ b h) (O : OKV σ) (G : sm (QR p) σ0 σ) (g0 : 9344 ≤ v1.toInt) (g1 : v1.toInt < 10100)  : wq (vc lim (d + 2) m_Ref_truth [.inr (.inr (some m)), .inl v1, .inl v2] h) (rI fun x h' => rvP m p σ0 b h' ∧ (x = 0 ∨ x = 1)) := by
  refine wq_eq e_Ref_truth ?_
  refine wq_if _ (fun c1 => ?_) (fun c1 => ?_)
  · refine wq_at H.1 ?_
    refine wq_cI (v_numeral H O G (by omega) (by omega)) ?_
    rintro y8 h2 ⟨⟨s4, H5, O6, G7⟩, p3⟩
    exact wq_t p3 (wq_some (rI_i ⟨⟨_, H5, O6, G7⟩, p3⟩))
  · refine wq_at H.1 ?_
    refine wq_cI (v_numeral H O G (by omega) (by omega)) ?_
    rintro y15 h9 ⟨⟨s11, H12, O13, G14⟩, p10⟩
    exact wq_t p10 (wq_some (rI_i ⟨⟨_, H12, O13, G14⟩, p10⟩))
theorem v_row {d : Nat} {h : ah_H} {v1 : Int32} {v2 : Int32} (H : RH m σ b h) (O : OKV σ) (G : sm (QR p) σ0 σ) (g0 : 9344 ≤ v1.toInt) (g1 : v1.toInt < 10100) (g2 : 0 ≤ v2.toInt) (g3 : v2.toInt ≤ 64)  : wq (vc lim (d + 1) m_Ref_row [.inr (.inr (some m)), .inl v1, .inl v2] h) (rV fun h' => rvP m p σ0 b h') := by
  refine wq_eq e_Ref_row ?_
  refine wq_gR H.1 rfl ?_
  refine rv_s0 H O G (by omega) (by omega) (by have : (1 : Int32).toInt = 1 := rfl; omega) (by have : (1 : Int32).toInt = 1 := rfl; omega) ?_
  intro h1 s2 H3 O4 G5
  refine wq_gR H3.1 rfl ?_
  refine rv_s1 H3 O4 G5 (by omega) (by omega) (by have := congrArg Int32.toInt (b8_i (x := v2) (by omega) (by omega)); omega) (by have := congrArg Int32.toInt (b8_i (x := v2) (by omega) (by omega)); omega) ?_
  intro h6 s7 H8 O9 G10
  refine wq_gR H8.1 rfl ?_
  refine rv_s4 H8 O9 G10 (by omega) (by omega) ?_
  intro h11 s12 H13 O14 G15
  exact wq_some (rV_i ⟨_, H13, O14, G15⟩)
theorem v_logic {d : Nat} {h : ah_H} {v1 : Int32} {v2 : Int32} (H : RH m σ b h) (O : OKV σ) (G : sm (QR p) σ0 σ) (g0 : 9344 ≤ v1.toInt) (g1 : v1.toInt < 10100)  : wq (vc lim (d + 1) m_Ref_logic [.inr (.inr (some m)), .inl v1, .inl v2] h) (rI fun x h' => rvP m p σ0 b h' ∧ (x = 0 ∨ x = 1)) := by
  refine wq_eq e_Ref_logic ?_
  refine wq_gR H.1 rfl ?_
  refine rv_s0 H O G (by omega) (by omega) (by have : (0 : Int32).toInt = 0 := rfl; omega) (by have : (0 : Int32).toInt = 0 := rfl; omega) ?_
  intro h1 s2 H3 O4 G5
  refine wq_gR H3.1 rfl ?_
  refine rv_s1 H3 O4 G5 (by omega) (by omega) (by have : (0 : Int32).toInt = 0 := rfl; omega) (by have : (0 : Int32).toInt = 0 := rfl; omega) ?_
  intro h6 s7 H8 O9 G10
  refine wq_gR H8.1 rfl ?_
  refine rv_s4 H8 O9 G10 (by omega) (by omega) ?_
  intro h11 s12 H13 O14 G15
  exact wq_t (Or.inr rfl) (wq_some (rI_i ⟨⟨_, H13, O14, G15⟩, (Or.inr rfl)⟩))
theorem w_71_4 {d : Nat} {h : ah_H} (H : RH m σ b h) (O : OKV σ) (G : sm (QR p) σ0 σ) : ∀ (M : Nat) (v1 : Int32) (v2 : Int32) (v3 : Int32), (2147483647 - v3.toInt).toNat < M → (v2 = 0 ∨ v2 = 1) → 0 ≤ v3.toInt → 0 ≤ v1.toInt → v1.toInt < 10100 → wq (ah_val lim ah_P (d + 1) 71 4 [some (.inr (.inr (some m))), some (.inl v1), some (.inl v2), some (.inl v3)] [] h) (rI fun x h' => h' = h ∧ (x = 0 ∨ x = 1)) := by
  intro M
  induction M with
  | zero => intros; omega
  | succ M ih =>
      intro v1 v2 v3 hM iv0 iv1 iv2 iv3
      refine wq_eq q_71_4 ?_
      refine wq_gR H.1 rfl ?_
      refine rv_1 H O (by omega) (by show _ < (10100 : Int); omega) (fun u1 q2 q3 => ?_)
      refine wq_if _ (fun c4 => ?_) (fun c4 => ?_)
      · refine wq_if _ (fun c5 => ?_) (fun c5 => ?_)
        · exact ih _ _ _ (by have := lt_i c4; have : (1 : Int32).toInt = 1 := rfl; have := bd_i v3; have := bd_i (1 : Int32); have : (v3 + (1 : Int32)).toInt = v3.toInt + (1 : Int32).toInt := ad_i (by omega) (by omega); omega) (Or.inl rfl) (by have := lt_i c4; have : (1 : Int32).toInt = 1 := rfl; have := bd_i v3; have := bd_i (1 : Int32); have : (v3 + (1 : Int32)).toInt = v3.toInt + (1 : Int32).toInt := ad_i (by omega) (by omega); omega) (by omega) (by omega)
        · refine wq_at H.1 ?_
          refine wq_cI (v_element H O G (by omega) (by omega) (by have := lt_i c4; omega) (by have := lt_i c4; omega)) ?_
          rintro y8 h6 ⟨rfl, p7⟩
          refine wq_cI (v_isLow) ?_
          rintro y11 h9 ⟨rfl, p10⟩
          refine wq_if _ (fun c12 => ?_) (fun c12 => ?_)
          · refine wq_at H.1 ?_
            refine wq_cI (v_element H O G (by omega) (by omega) (by have := lt_i c4; omega) (by have := lt_i c4; omega)) ?_
            rintro y15 h13 ⟨rfl, p14⟩
            refine wq_cI (v_isHigh) ?_
            rintro y18 h16 ⟨rfl, p17⟩
            refine wq_if _ (fun c19 => ?_) (fun c19 => ?_)
            · exact ih _ _ _ (by have := lt_i c4; have : (1 : Int32).toInt = 1 := rfl; have := bd_i v3; have := bd_i (1 : Int32); have : (v3 + (1 : Int32)).toInt = v3.toInt + (1 : Int32).toInt := ad_i (by omega) (by omega); omega) (Or.inl rfl) (by have := lt_i c4; have : (1 : Int32).toInt = 1 := rfl; have := bd_i v3; have := bd_i (1 : Int32); have : (v3 + (1 : Int32)).toInt = v3.toInt + (1 : Int32).toInt := ad_i (by omega) (by omega); omega) (by omega) (by omega)
            · exact ih _ _ _ (by have := lt_i c4; have : (1 : Int32).toInt = 1 := rfl; have := bd_i v3; have := bd_i (1 : Int32); have : (v3 + (1 : Int32)).toInt = v3.toInt + (1 : Int32).toInt := ad_i (by omega) (by omega); omega) (Or.inr rfl) (by have := lt_i c4; have : (1 : Int32).toInt = 1 := rfl; have := bd_i v3; have := bd_i (1 : Int32); have : (v3 + (1 : Int32)).toInt = v3.toInt + (1 : Int32).toInt := ad_i (by omega) (by omega); omega) (by omega) (by omega)
          · exact ih _ _ _ (by have := lt_i c4; have : (1 : Int32).toInt = 1 := rfl; have := bd_i v3; have := bd_i (1 : Int32); have : (v3 + (1 : Int32)).toInt = v3.toInt + (1 : Int32).toInt := ad_i (by omega) (by omega); omega) (Or.inr rfl) (by have := lt_i c4; have : (1 : Int32).toInt = 1 := rfl; have := bd_i v3; have := bd_i (1 : Int32); have : (v3 + (1 : Int32)).toInt = v3.toInt + (1 : Int32).toInt := ad_i (by omega) (by omega); omega) (by omega) (by omega)
      · exact wq_t iv0 (wq_some (rI_i ⟨rfl, iv0⟩))
theorem v_clear {d : Nat} {h : ah_H} {v1 : Int32} (H : RH m σ b h) (O : OKV σ) (G : sm (QR p) σ0 σ) (g0 : 0 ≤ v1.toInt) (g1 : v1.toInt < 10100)  : wq (vc lim (d + 2) m_Ref_clear [.inr (.inr (some m)), .inl v1] h) (rI fun x h' => h' = h ∧ (x = 0 ∨ x = 1)) := by
  refine wq_eq e_Ref_clear ?_
  exact w_71_4 H O G _ _ _ _ (Nat.lt_succ_self _) (Or.inr rfl) (by have : (0 : Int32).toInt = 0 := rfl; omega) (by omega) (by omega)
theorem w_72_12 {d : Nat} {h : ah_H} (H : RH m σ b h) (O : OKV σ) (G : sm (QR p) σ0 σ) : ∀ (M : Nat) (v1 : Int32) (v2 : Int64) (v4 : Int32), (v4.toInt + 1).toNat < M → -1 ≤ v4.toInt → v4.toInt < 64 → 0 ≤ v1.toInt → v1.toInt < 10100 → wq (ah_val lim ah_P (d + 1) 72 12 [some (.inr (.inr (some m))), some (.inl v1), some (.inr (.inl v2)), none, some (.inl v4)] [] h) (rJ fun x h' => h' = h ∧ True) := by
  intro M
  induction M with
  | zero => intros; omega
  | succ M ih =>
      intro v1 v2 v4 hM iv0 iv1 iv2 iv3
      refine wq_eq q_72_12 ?_
      refine wq_if _ (fun c1 => ?_) (fun c1 => ?_)
      · exact wq_some (rJ_i ⟨rfl, trivial⟩)
      · refine wq_at H.1 ?_
        refine wq_cI (v_element H O G (by omega) (by omega) (by have := nlt_i c1; have : (0 : Int32).toInt = 0 := rfl; omega) (by have := nlt_i c1; have : (0 : Int32).toInt = 0 := rfl; omega)) ?_
        rintro y4 h2 ⟨rfl, p3⟩
        refine wq_cI (v_isHigh) ?_
        rintro y7 h5 ⟨rfl, p6⟩
        refine wq_if _ (fun c8 => ?_) (fun c8 => ?_)
        · exact ih _ _ _ (by have := nlt_i c1; have : (0 : Int32).toInt = 0 := rfl; have := dec_i (v := v4) (by omega); omega) (by have := nlt_i c1; have : (0 : Int32).toInt = 0 := rfl; have := dec_i (v := v4) (by omega); omega) (by have := nlt_i c1; have : (0 : Int32).toInt = 0 := rfl; have := dec_i (v := v4) (by omega); omega) (by omega) (by omega)
        · exact ih _ _ _ (by have := nlt_i c1; have : (0 : Int32).toInt = 0 := rfl; have := dec_i (v := v4) (by omega); omega) (by have := nlt_i c1; have : (0 : Int32).toInt = 0 := rfl; have := dec_i (v := v4) (by omega); omega) (by have := nlt_i c1; have : (0 : Int32).toInt = 0 := rfl; have := dec_i (v := v4) (by omega); omega) (by omega) (by omega)
theorem v_numberOf {d : Nat} {h : ah_H} {v1 : Int32} (H : RH m σ b h) (O : OKV σ) (G : sm (QR p) σ0 σ) (g0 : 0 ≤ v1.toInt) (g1 : v1.toInt < 10100)  : wq (vc lim (d + 2) m_Ref_numberOf [.inr (.inr (some m)), .inl v1] h) (rJ fun x h' => h' = h ∧ True) := by
  refine wq_eq e_Ref_numberOf ?_
  refine wq_gR H.1 rfl ?_
  refine rv_1 H O (by omega) (by show _ < (10100 : Int); omega) (fun u1 q2 q3 => ?_)
  exact w_72_12 H O G _ _ _ _ (Nat.lt_succ_self _) (by have : (1 : Int32).toInt = 1 := rfl; have := bd_i u1; have := bd_i (1 : Int32); have : (u1 - (1 : Int32)).toInt = u1.toInt - (1 : Int32).toInt := sb_i (by omega) (by omega); omega) (by have : (1 : Int32).toInt = 1 := rfl; have := bd_i u1; have := bd_i (1 : Int32); have : (u1 - (1 : Int32)).toInt = u1.toInt - (1 : Int32).toInt := sb_i (by omega) (by omega); omega) (by omega) (by omega)
theorem w_73_3 {d : Nat} : ∀ (M : Nat) (h1 : ah_H) (σ1 : rS) (v1 : Int32) (v2 : Int64) (v4 : Int32), (2147483647 - v4.toInt).toNat < M → 0 ≤ v4.toInt → 9344 ≤ v1.toInt → v1.toInt < 10100 → RH m σ1 b h1 → OKV σ1 → sm (QR p) σ0 σ1 → wq (ah_val lim ah_P (d + 1) 73 3 [some (.inr (.inr (some m))), some (.inl v1), some (.inr (.inl v2)), none, some (.inl v4)] [] h1) (rV fun h' => rvP m p σ0 b h') := by
  intro M
  induction M with
  | zero => intros; omega
  | succ M ih =>
      intro h1 σ1 v1 v2 v4 hM iv0 iv1 iv2 H O G
      refine wq_eq q_73_3 ?_
      refine wq_gR H.1 rfl ?_
      refine rv_1 H O (by omega) (by show _ < (10100 : Int); omega) (fun u1 q2 q3 => ?_)
      refine wq_if _ (fun c4 => ?_) (fun c4 => ?_)
      · refine wq_if _ (fun c5 => ?_) (fun c5 => ?_)
        · refine wq_at H.1 ?_
          refine wq_cV (v_setElement H O G (by omega) (by omega) (by have := lt_i c4; omega) (by have := lt_i c4; omega)) ?_
          rintro h6 ⟨s8, H9, O10, G11⟩
          exact ih _ _ _ _ _ (by have := lt_i c4; have : (1 : Int32).toInt = 1 := rfl; have := bd_i v4; have := bd_i (1 : Int32); have : (v4 + (1 : Int32)).toInt = v4.toInt + (1 : Int32).toInt := ad_i (by omega) (by omega); omega) (by have := lt_i c4; have : (1 : Int32).toInt = 1 := rfl; have := bd_i v4; have := bd_i (1 : Int32); have : (v4 + (1 : Int32)).toInt = v4.toInt + (1 : Int32).toInt := ad_i (by omega) (by omega); omega) (by omega) (by omega) H9 O10 G11
        · refine wq_at H.1 ?_
          refine wq_cV (v_setElement H O G (by omega) (by omega) (by have := lt_i c4; omega) (by have := lt_i c4; omega)) ?_
          rintro h12 ⟨s14, H15, O16, G17⟩
          exact ih _ _ _ _ _ (by have := lt_i c4; have : (1 : Int32).toInt = 1 := rfl; have := bd_i v4; have := bd_i (1 : Int32); have : (v4 + (1 : Int32)).toInt = v4.toInt + (1 : Int32).toInt := ad_i (by omega) (by omega); omega) (by have := lt_i c4; have : (1 : Int32).toInt = 1 := rfl; have := bd_i v4; have := bd_i (1 : Int32); have : (v4 + (1 : Int32)).toInt = v4.toInt + (1 : Int32).toInt := ad_i (by omega) (by omega); omega) (by omega) (by omega) H15 O16 G17
      · exact wq_some (rV_i ⟨_, H, O, G⟩)
theorem v_bits {d : Nat} {h : ah_H} {v1 : Int32} {v2 : Int64} (H : RH m σ b h) (O : OKV σ) (G : sm (QR p) σ0 σ) (g0 : 9344 ≤ v1.toInt) (g1 : v1.toInt < 10100)  : wq (vc lim (d + 2) m_Ref_bits [.inr (.inr (some m)), .inl v1, .inr (.inl v2)] h) (rV fun h' => rvP m p σ0 b h') := by
  refine wq_eq e_Ref_bits ?_
  exact w_73_3 _ _ _ _ _ _ (Nat.lt_succ_self _) (by have : (0 : Int32).toInt = 0 := rfl; omega) (by omega) (by omega) H O G
theorem w_82_25 {d : Nat} {h : ah_H} (H : RH m σ b h) (O : OKV σ) (G : sm (QR p) σ0 σ) : ∀ (M : Nat) (v1 : Int32) (v2 : Int32) (v3 : Int32) (v4 : Int32), (2147483647 - v4.toInt).toNat < M → (v3 = 0 ∨ v3 = 1) → 0 ≤ v4.toInt → 0 ≤ v1.toInt → v1.toInt < 10100 → 0 ≤ v2.toInt → v2.toInt < 10100 → wq (ah_val lim ah_P (d + 1) 82 25 [some (.inr (.inr (some m))), some (.inl v1), some (.inl v2), some (.inl v3), some (.inl v4)] [] h) (rI fun x h' => h' = h ∧ (x = 0 ∨ x = 1)) := by
  intro M
  induction M with
  | zero => intros; omega
  | succ M ih =>
      intro v1 v2 v3 v4 hM iv0 iv1 iv2 iv3 iv4 iv5
      refine wq_eq q_82_25 ?_
      refine wq_gR H.1 rfl ?_
      refine rv_1 H O (by omega) (by show _ < (10100 : Int); omega) (fun u1 q2 q3 => ?_)
      refine wq_if _ (fun c4 => ?_) (fun c4 => ?_)
      · refine wq_gR H.1 rfl ?_
        refine rv_0 H O (by omega) (by show _ < (10100 : Int); omega) (fun u5 q6 q7 => ?_)
        refine wq_if _ (fun c8 => ?_) (fun c8 => ?_)
        · refine wq_if _ (fun c9 => ?_) (fun c9 => ?_)
          · exact ih _ _ _ _ (by have := lt_i c4; have : (1 : Int32).toInt = 1 := rfl; have := bd_i v4; have := bd_i (1 : Int32); have : (v4 + (1 : Int32)).toInt = v4.toInt + (1 : Int32).toInt := ad_i (by omega) (by omega); omega) (Or.inl rfl) (by have := lt_i c4; have : (1 : Int32).toInt = 1 := rfl; have := bd_i v4; have := bd_i (1 : Int32); have : (v4 + (1 : Int32)).toInt = v4.toInt + (1 : Int32).toInt := ad_i (by omega) (by omega); omega) (by omega) (by omega) (by omega) (by omega)
          · refine wq_at H.1 ?_
            refine wq_cI (v_element H O G (by omega) (by omega) (by have := lt_i c4; omega) (by have := lt_i c4; omega)) ?_
            rintro y12 h10 ⟨rfl, p11⟩
            refine wq_at H.1 ?_
            refine wq_cI (v_element H O G (by omega) (by omega) (by have := lt_i c4; omega) (by have := lt_i c4; omega)) ?_
            rintro y15 h13 ⟨rfl, p14⟩
            refine wq_if _ (fun c16 => ?_) (fun c16 => ?_)
            · exact ih _ _ _ _ (by have := lt_i c4; have : (1 : Int32).toInt = 1 := rfl; have := bd_i v4; have := bd_i (1 : Int32); have : (v4 + (1 : Int32)).toInt = v4.toInt + (1 : Int32).toInt := ad_i (by omega) (by omega); omega) (Or.inr rfl) (by have := lt_i c4; have : (1 : Int32).toInt = 1 := rfl; have := bd_i v4; have := bd_i (1 : Int32); have : (v4 + (1 : Int32)).toInt = v4.toInt + (1 : Int32).toInt := ad_i (by omega) (by omega); omega) (by omega) (by omega) (by omega) (by omega)
            · exact ih _ _ _ _ (by have := lt_i c4; have : (1 : Int32).toInt = 1 := rfl; have := bd_i v4; have := bd_i (1 : Int32); have : (v4 + (1 : Int32)).toInt = v4.toInt + (1 : Int32).toInt := ad_i (by omega) (by omega); omega) (Or.inl rfl) (by have := lt_i c4; have : (1 : Int32).toInt = 1 := rfl; have := bd_i v4; have := bd_i (1 : Int32); have : (v4 + (1 : Int32)).toInt = v4.toInt + (1 : Int32).toInt := ad_i (by omega) (by omega); omega) (by omega) (by omega) (by omega) (by omega)
        · exact wq_t iv0 (wq_some (rI_i ⟨rfl, iv0⟩))
      · exact wq_t iv0 (wq_some (rI_i ⟨rfl, iv0⟩))
theorem v_alike {d : Nat} {h : ah_H} {v1 : Int32} {v2 : Int32} (H : RH m σ b h) (O : OKV σ) (G : sm (QR p) σ0 σ) (g0 : 0 ≤ v1.toInt) (g1 : v1.toInt < 10100) (g2 : 0 ≤ v2.toInt) (g3 : v2.toInt < 10100)  : wq (vc lim (d + 2) m_Ref_alike [.inr (.inr (some m)), .inl v1, .inl v2] h) (rI fun x h' => h' = h ∧ (x = 0 ∨ x = 1)) := by
  refine wq_eq e_Ref_alike ?_
  refine wq_gR H.1 rfl ?_
  refine ra_J H (by omega) rfl (by omega) (by show _ < (10100 : Int); omega) ?_
  refine wq_gR H.1 rfl ?_
  refine ra_J H (by omega) rfl (by omega) (by show _ < (10100 : Int); omega) ?_
  refine wq_if _ (fun c1 => ?_) (fun c1 => ?_)
  · exact w_82_25 H O G _ _ _ _ _ (Nat.lt_succ_self _) (Or.inr rfl) (by have : (0 : Int32).toInt = 0 := rfl; omega) (by omega) (by omega) (by omega) (by omega)
  · exact w_82_25 H O G _ _ _ _ _ (Nat.lt_succ_self _) (Or.inl rfl) (by have : (0 : Int32).toInt = 0 := rfl; omega) (by omega) (by omega) (by omega) (by omega)
theorem w_78_132 {d : Nat} : ∀ (M : Nat) (h1 : ah_H) (σ1 : rS) (v3 : Int32) (v4 : Int32), (2147483647 - v4.toInt).toNat < M → 0 ≤ v4.toInt → 9344 ≤ v3.toInt → v3.toInt < 10100 → RH m σ1 b h1 → OKV σ1 → sm (QR p) σ0 σ1 → wq (ah_val lim ah_P (d + 2) 78 132 [some (.inr (.inr (some m))), none, none, some (.inl v3), some (.inl v4)] [] h1) (rI fun x h' => rvP m p σ0 b h' ∧ (x = 0 ∨ x = 1)) := by
  intro M
  induction M with
  | zero => intros; omega
  | succ M ih =>
      intro h1 σ1 v3 v4 hM iv0 iv1 iv2 H O G
      refine wq_eq q_78_132 ?_
      refine wq_gR H.1 rfl ?_
      refine rv_1 H O (by omega) (by show _ < (10100 : Int); omega) (fun u1 q2 q3 => ?_)
      refine wq_if _ (fun c4 => ?_) (fun c4 => ?_)
      · refine wq_at H.1 ?_
        refine wq_cI (v_element H O G (by omega) (by omega) (by have := lt_i c4; omega) (by have := lt_i c4; omega)) ?_
        rintro y7 h5 ⟨rfl, p6⟩
        refine wq_cI (v_not) ?_
        rintro y10 h8 ⟨rfl, p9⟩
        refine wq_at H.1 ?_
        refine wq_cV (v_setElement H O G (by omega) (by omega) (by have := lt_i c4; omega) (by have := lt_i c4; omega)) ?_
        rintro h11 ⟨s13, H14, O15, G16⟩
        exact ih _ _ _ _ (by have := lt_i c4; have : (1 : Int32).toInt = 1 := rfl; have := bd_i v4; have := bd_i (1 : Int32); have : (v4 + (1 : Int32)).toInt = v4.toInt + (1 : Int32).toInt := ad_i (by omega) (by omega); omega) (by have := lt_i c4; have : (1 : Int32).toInt = 1 := rfl; have := bd_i v4; have := bd_i (1 : Int32); have : (v4 + (1 : Int32)).toInt = v4.toInt + (1 : Int32).toInt := ad_i (by omega) (by omega); omega) (by omega) (by omega) H14 O15 G16
      · exact wq_t (Or.inr rfl) (wq_some (rI_i ⟨⟨_, H, O, G⟩, (Or.inr rfl)⟩))
theorem v_one {d : Nat} {h : ah_H} {v1 : Int32} {v2 : Int32} {v3 : Int32} (H : RH m σ b h) (O : OKV σ) (G : sm (QR p) σ0 σ) (g0 : 9344 ≤ v3.toInt) (g1 : v3.toInt < 10100)  : wq (vc lim (d + 3) m_Ref_one [.inr (.inr (some m)), .inl v1, .inl v2, .inl v3] h) (rI fun x h' => rvP m p σ0 b h' ∧ (x = 0 ∨ x = 1)) := by
  refine wq_eq e_Ref_one ?_
  refine wq_if _ (fun c1 => ?_) (fun c1 => ?_)
  · refine wq_gR H.1 rfl ?_
    refine rv_0 H O (by omega) (by show _ < (10100 : Int); omega) (fun u2 q3 q4 => ?_)
    refine wq_if _ (fun c5 => ?_) (fun c5 => ?_)
    · refine wq_gR H.1 rfl ?_
      refine ra_J H (by omega) rfl (by omega) (by show _ < (10100 : Int); omega) ?_
      refine wq_if _ (fun c6 => ?_) (fun c6 => ?_)
      · refine wq_at H.1 ?_
        refine wq_cI (v_truth H O G (by omega) (by omega)) ?_
        rintro y13 h7 ⟨⟨s9, H10, O11, G12⟩, p8⟩
        exact wq_t p8 (wq_some (rI_i ⟨⟨_, H10, O11, G12⟩, p8⟩))
      · refine wq_at H.1 ?_
        refine wq_cI (v_truth H O G (by omega) (by omega)) ?_
        rintro y20 h14 ⟨⟨s16, H17, O18, G19⟩, p15⟩
        exact wq_t p15 (wq_some (rI_i ⟨⟨_, H17, O18, G19⟩, p15⟩))
    · refine wq_gR H.1 rfl ?_
      refine rv_0 H O (by omega) (by show _ < (10100 : Int); omega) (fun u21 q22 q23 => ?_)
      refine wq_if _ (fun c24 => ?_) (fun c24 => ?_)
      · refine wq_gR H.1 rfl ?_
        refine ra_J H (by omega) rfl (by omega) (by show _ < (10100 : Int); omega) ?_
        refine wq_cI (v_not) ?_
        rintro y27 h25 ⟨rfl, p26⟩
        refine wq_at H.1 ?_
        refine wq_cI (v_logic H O G (by omega) (by omega)) ?_
        rintro y34 h28 ⟨⟨s30, H31, O32, G33⟩, p29⟩
        exact wq_t p29 (wq_some (rI_i ⟨⟨_, H31, O32, G33⟩, p29⟩))
      · exact w_78_132 _ _ _ _ _ (Nat.lt_succ_self _) (by have := le_i c1; have := ne_i c5; have := ne_i c24; have : (0 : Int32).toInt = 0 := rfl; have : (2 : Int32).toInt = 2 := rfl; omega) (by omega) (by omega) H O G
  · refine wq_gR H.1 rfl ?_
    refine wq_if _ (fun c35 => ?_) (fun c35 => ?_)
    · refine wq_gR H.1 rfl ?_
      refine ra_J H (by omega) rfl (by omega) (by show _ < (10100 : Int); omega) ?_
      refine wq_eq q_78_46 ?_
      refine rv_s4 H O G (by omega) (by omega) ?_
      intro h36 s37 H38 O39 G40
      refine wq_gR H38.1 rfl ?_
      refine rv_0 H38 O39 (by omega) (by show _ < (10100 : Int); omega) (fun u41 q42 q43 => ?_)
      refine wq_if _ (fun c44 => ?_) (fun c44 => ?_)
      · exact wq_t (Or.inr rfl) (wq_some (rI_i ⟨⟨_, H38, O39, G40⟩, (Or.inr rfl)⟩))
      · refine wq_at H38.1 ?_
        refine wq_cI (v_fail H38 O39 G40) ?_
        rintro y51 h45 ⟨⟨s47, H48, O49, G50⟩, p46⟩
        refine wq_if _ (fun c52 => ?_) (fun c52 => ?_)
        · exact wq_t (Or.inl rfl) (wq_some (rI_i ⟨⟨_, H48, O49, G50⟩, (Or.inl rfl)⟩))
        · exact wq_t (Or.inr rfl) (wq_some (rI_i ⟨⟨_, H48, O49, G50⟩, (Or.inr rfl)⟩))
    · refine wq_if _ (fun c53 => ?_) (fun c53 => ?_)
      · refine wq_gR H.1 rfl ?_
        refine ra_J H (by omega) rfl (by omega) (by show _ < (10100 : Int); omega) ?_
        refine wq_if _ (fun c54 => ?_) (fun c54 => ?_)
        · refine wq_gR H.1 rfl ?_
          refine ra_J H (by omega) rfl (by omega) (by show _ < (10100 : Int); omega) ?_
          refine wq_eq q_78_46 ?_
          refine rv_s4 H O G (by omega) (by omega) ?_
          intro h55 s56 H57 O58 G59
          refine wq_gR H57.1 rfl ?_
          refine rv_0 H57 O58 (by omega) (by show _ < (10100 : Int); omega) (fun u60 q61 q62 => ?_)
          refine wq_if _ (fun c63 => ?_) (fun c63 => ?_)
          · exact wq_t (Or.inr rfl) (wq_some (rI_i ⟨⟨_, H57, O58, G59⟩, (Or.inr rfl)⟩))
          · refine wq_at H57.1 ?_
            refine wq_cI (v_fail H57 O58 G59) ?_
            rintro y70 h64 ⟨⟨s66, H67, O68, G69⟩, p65⟩
            refine wq_if _ (fun c71 => ?_) (fun c71 => ?_)
            · exact wq_t (Or.inl rfl) (wq_some (rI_i ⟨⟨_, H67, O68, G69⟩, (Or.inl rfl)⟩))
            · exact wq_t (Or.inr rfl) (wq_some (rI_i ⟨⟨_, H67, O68, G69⟩, (Or.inr rfl)⟩))
        · refine wq_gR H.1 rfl ?_
          refine ra_J H (by omega) rfl (by omega) (by show _ < (10100 : Int); omega) ?_
          refine wq_eq q_78_46 ?_
          refine rv_s4 H O G (by omega) (by omega) ?_
          intro h72 s73 H74 O75 G76
          refine wq_gR H74.1 rfl ?_
          refine rv_0 H74 O75 (by omega) (by show _ < (10100 : Int); omega) (fun u77 q78 q79 => ?_)
          refine wq_if _ (fun c80 => ?_) (fun c80 => ?_)
          · exact wq_t (Or.inr rfl) (wq_some (rI_i ⟨⟨_, H74, O75, G76⟩, (Or.inr rfl)⟩))
          · refine wq_at H74.1 ?_
            refine wq_cI (v_fail H74 O75 G76) ?_
            rintro y87 h81 ⟨⟨s83, H84, O85, G86⟩, p82⟩
            refine wq_if _ (fun c88 => ?_) (fun c88 => ?_)
            · exact wq_t (Or.inl rfl) (wq_some (rI_i ⟨⟨_, H84, O85, G86⟩, (Or.inl rfl)⟩))
            · exact wq_t (Or.inr rfl) (wq_some (rI_i ⟨⟨_, H84, O85, G86⟩, (Or.inr rfl)⟩))
      · refine wq_gR H.1 rfl ?_
        refine ra_J H (by omega) rfl (by omega) (by show _ < (10100 : Int); omega) ?_
        refine wq_eq q_78_46 ?_
        refine rv_s4 H O G (by omega) (by omega) ?_
        intro h89 s90 H91 O92 G93
        refine wq_gR H91.1 rfl ?_
        refine rv_0 H91 O92 (by omega) (by show _ < (10100 : Int); omega) (fun u94 q95 q96 => ?_)
        refine wq_if _ (fun c97 => ?_) (fun c97 => ?_)
        · exact wq_t (Or.inr rfl) (wq_some (rI_i ⟨⟨_, H91, O92, G93⟩, (Or.inr rfl)⟩))
        · refine wq_at H91.1 ?_
          refine wq_cI (v_fail H91 O92 G93) ?_
          rintro y104 h98 ⟨⟨s100, H101, O102, G103⟩, p99⟩
          refine wq_if _ (fun c105 => ?_) (fun c105 => ?_)
          · exact wq_t (Or.inl rfl) (wq_some (rI_i ⟨⟨_, H101, O102, G103⟩, (Or.inl rfl)⟩))
          · exact wq_t (Or.inr rfl) (wq_some (rI_i ⟨⟨_, H101, O102, G103⟩, (Or.inr rfl)⟩))
theorem w_81_235 {d : Nat} : ∀ (M : Nat) (h1 : ah_H) (σ1 : rS) (v2 : Int32) (v3 : Int32) (v4 : Int32) (v5 : Int32), (2147483647 - v5.toInt).toNat < M → 0 ≤ v5.toInt → 9344 ≤ v3.toInt → v3.toInt < 10100 → 9344 ≤ v4.toInt → v4.toInt < 10100 → RH m σ1 b h1 → OKV σ1 → sm (QR p) σ0 σ1 → wq (ah_val lim ah_P (d + 3) 81 235 [some (.inr (.inr (some m))), none, some (.inl v2), some (.inl v3), some (.inl v4), some (.inl v5), none, none] [] h1) (rI fun x h' => rvP m p σ0 b h' ∧ (x = 0 ∨ x = 1)) := by
  intro M
  induction M with
  | zero => intros; omega
  | succ M ih =>
      intro h1 σ1 v2 v3 v4 v5 hM iv0 iv1 iv2 iv3 iv4 H O G
      refine wq_eq q_81_235 ?_
      refine wq_gR H.1 rfl ?_
      refine rv_1 H O (by omega) (by show _ < (10100 : Int); omega) (fun u1 q2 q3 => ?_)
      refine wq_if _ (fun c4 => ?_) (fun c4 => ?_)
      · refine wq_at H.1 ?_
        refine wq_cI (v_element H O G (by omega) (by omega) (by have := lt_i c4; omega) (by have := lt_i c4; omega)) ?_
        rintro y7 h5 ⟨rfl, p6⟩
        refine wq_at H.1 ?_
        refine wq_cI (v_element H O G (by omega) (by omega) (by have := lt_i c4; omega) (by have := lt_i c4; omega)) ?_
        rintro y10 h8 ⟨rfl, p9⟩
        refine wq_cI (v_join) ?_
        rintro y13 h11 ⟨rfl, p12⟩
        refine wq_at H.1 ?_
        refine wq_cV (v_setElement H O G (by omega) (by omega) (by have := lt_i c4; omega) (by have := lt_i c4; omega)) ?_
        rintro h14 ⟨s16, H17, O18, G19⟩
        exact ih _ _ _ _ _ _ (by have := lt_i c4; have : (1 : Int32).toInt = 1 := rfl; have := bd_i v5; have := bd_i (1 : Int32); have : (v5 + (1 : Int32)).toInt = v5.toInt + (1 : Int32).toInt := ad_i (by omega) (by omega); omega) (by have := lt_i c4; have : (1 : Int32).toInt = 1 := rfl; have := bd_i v5; have := bd_i (1 : Int32); have : (v5 + (1 : Int32)).toInt = v5.toInt + (1 : Int32).toInt := ad_i (by omega) (by omega); omega) (by omega) (by omega) (by omega) (by omega) H17 O18 G19
      · exact wq_t (Or.inr rfl) (wq_some (rI_i ⟨⟨_, H, O, G⟩, (Or.inr rfl)⟩))
theorem v_both {d : Nat} {h : ah_H} {v1 : Int32} {v2 : Int32} {v3 : Int32} {v4 : Int32} (H : RH m σ b h) (O : OKV σ) (G : sm (QR p) σ0 σ) (g0 : 9344 ≤ v3.toInt) (g1 : v3.toInt < 10100) (g2 : 9344 ≤ v4.toInt) (g3 : v4.toInt < 10100)  : wq (vc lim (d + 4) m_Ref_both [.inr (.inr (some m)), .inl v1, .inl v2, .inl v3, .inl v4] h) (rI fun x h' => rvP m p σ0 b h' ∧ (x = 0 ∨ x = 1)) := by
  refine wq_eq e_Ref_both ?_
  refine wq_gR H.1 rfl ?_
  refine rv_0 H O (by omega) (by show _ < (10100 : Int); omega) (fun u1 q2 q3 => ?_)
  refine wq_gR H.1 rfl ?_
  refine rv_0 H O (by omega) (by show _ < (10100 : Int); omega) (fun u4 q5 q6 => ?_)
  refine wq_if _ (fun c7 => ?_) (fun c7 => ?_)
  · refine wq_gR H.1 rfl ?_
    refine rv_1 H O (by omega) (by show _ < (10100 : Int); omega) (fun u8 q9 q10 => ?_)
    refine wq_gR H.1 rfl ?_
    refine rv_1 H O (by omega) (by show _ < (10100 : Int); omega) (fun u11 q12 q13 => ?_)
    refine wq_if _ (fun c14 => ?_) (fun c14 => ?_)
    · refine wq_gR H.1 rfl ?_
      refine rv_0 H O (by omega) (by show _ < (10100 : Int); omega) (fun u15 q16 q17 => ?_)
      refine wq_if _ (fun c18 => ?_) (fun c18 => ?_)
      · refine wq_gR H.1 rfl ?_
        refine ra_J H (by omega) rfl (by omega) (by show _ < (10100 : Int); omega) ?_
        refine wq_if _ (fun c19 => ?_) (fun c19 => ?_)
        · refine wq_gR H.1 rfl ?_
          refine ra_J H (by omega) rfl (by omega) (by show _ < (10100 : Int); omega) ?_
          refine wq_if _ (fun c20 => ?_) (fun c20 => ?_)
          · refine wq_eq q_81_91 ?_
            refine wq_if _ (fun c21 => ?_) (fun c21 => ?_)
            · refine wq_t (by decide) ?_
              refine wq_eq q_81_160 ?_
              refine wq_if _ (fun c22 => ?_) (fun c22 => ?_)
              · refine wq_eq q_81_179 ?_
                refine wq_t (by decide) ?_
                refine wq_at H.1 ?_
                refine wq_cI (v_truth H O G (by omega) (by omega)) ?_
                rintro y29 h23 ⟨⟨s25, H26, O27, G28⟩, p24⟩
                exact wq_t p24 (wq_some (rI_i ⟨⟨_, H26, O27, G28⟩, p24⟩))
              · refine wq_if _ (fun c30 => ?_) (fun c30 => ?_)
                · refine wq_eq q_81_179 ?_
                  refine wq_t (by decide) ?_
                  refine wq_at H.1 ?_
                  refine wq_cI (v_truth H O G (by omega) (by omega)) ?_
                  rintro y37 h31 ⟨⟨s33, H34, O35, G36⟩, p32⟩
                  exact wq_t p32 (wq_some (rI_i ⟨⟨_, H34, O35, G36⟩, p32⟩))
                · refine wq_if _ (fun c38 => ?_) (fun c38 => ?_)
                  · refine wq_eq q_81_179 ?_
                    refine wq_t (by decide) ?_
                    refine wq_at H.1 ?_
                    refine wq_cI (v_truth H O G (by omega) (by omega)) ?_
                    rintro y45 h39 ⟨⟨s41, H42, O43, G44⟩, p40⟩
                    exact wq_t p40 (wq_some (rI_i ⟨⟨_, H42, O43, G44⟩, p40⟩))
                  · refine wq_at H.1 ?_
                    refine wq_cI (v_truth H O G (by omega) (by omega)) ?_
                    rintro y52 h46 ⟨⟨s48, H49, O50, G51⟩, p47⟩
                    exact wq_t p47 (wq_some (rI_i ⟨⟨_, H49, O50, G51⟩, p47⟩))
            · refine wq_if _ (fun c53 => ?_) (fun c53 => ?_)
              · refine wq_t (by decide) ?_
                refine wq_eq q_81_160 ?_
                refine wq_t c53 ?_
                refine wq_eq q_81_179 ?_
                refine wq_t (by decide) ?_
                refine wq_at H.1 ?_
                refine wq_cI (v_truth H O G (by omega) (by omega)) ?_
                rintro y60 h54 ⟨⟨s56, H57, O58, G59⟩, p55⟩
                exact wq_t p55 (wq_some (rI_i ⟨⟨_, H57, O58, G59⟩, p55⟩))
              · refine wq_if _ (fun c61 => ?_) (fun c61 => ?_)
                · refine wq_t (by decide) ?_
                  refine wq_t (by decide) ?_
                  refine wq_eq q_81_160 ?_
                  refine wq_f c53 ?_
                  refine wq_if _ (fun c62 => ?_) (fun c62 => ?_)
                  · refine wq_eq q_81_179 ?_
                    refine wq_t (by decide) ?_
                    refine wq_at H.1 ?_
                    refine wq_cI (v_truth H O G (by omega) (by omega)) ?_
                    rintro y69 h63 ⟨⟨s65, H66, O67, G68⟩, p64⟩
                    exact wq_t p64 (wq_some (rI_i ⟨⟨_, H66, O67, G68⟩, p64⟩))
                  · refine wq_if _ (fun c70 => ?_) (fun c70 => ?_)
                    · refine wq_eq q_81_179 ?_
                      refine wq_t (by decide) ?_
                      refine wq_at H.1 ?_
                      refine wq_cI (v_truth H O G (by omega) (by omega)) ?_
                      rintro y77 h71 ⟨⟨s73, H74, O75, G76⟩, p72⟩
                      exact wq_t p72 (wq_some (rI_i ⟨⟨_, H74, O75, G76⟩, p72⟩))
                    · refine wq_at H.1 ?_
                      refine wq_cI (v_truth H O G (by omega) (by omega)) ?_
                      rintro y84 h78 ⟨⟨s80, H81, O82, G83⟩, p79⟩
                      exact wq_t p79 (wq_some (rI_i ⟨⟨_, H81, O82, G83⟩, p79⟩))
                · refine wq_if _ (fun c85 => ?_) (fun c85 => ?_)
                  · refine wq_t (by decide) ?_
                    refine wq_t (by decide) ?_
                    refine wq_eq q_81_160 ?_
                    refine wq_f c53 ?_
                    refine wq_t c85 ?_
                    refine wq_eq q_81_179 ?_
                    refine wq_t (by decide) ?_
                    refine wq_at H.1 ?_
                    refine wq_cI (v_truth H O G (by omega) (by omega)) ?_
                    rintro y92 h86 ⟨⟨s88, H89, O90, G91⟩, p87⟩
                    exact wq_t p87 (wq_some (rI_i ⟨⟨_, H89, O90, G91⟩, p87⟩))
                  · refine wq_t (by decide) ?_
                    refine wq_eq q_81_160 ?_
                    refine wq_f c53 ?_
                    refine wq_f c85 ?_
                    refine wq_if _ (fun c93 => ?_) (fun c93 => ?_)
                    · refine wq_eq q_81_179 ?_
                      refine wq_t (by decide) ?_
                      refine wq_at H.1 ?_
                      refine wq_cI (v_truth H O G (by omega) (by omega)) ?_
                      rintro y100 h94 ⟨⟨s96, H97, O98, G99⟩, p95⟩
                      exact wq_t p95 (wq_some (rI_i ⟨⟨_, H97, O98, G99⟩, p95⟩))
                    · refine wq_at H.1 ?_
                      refine wq_cI (v_truth H O G (by omega) (by omega)) ?_
                      rintro y107 h101 ⟨⟨s103, H104, O105, G106⟩, p102⟩
                      exact wq_t p102 (wq_some (rI_i ⟨⟨_, H104, O105, G106⟩, p102⟩))
          · refine wq_eq q_81_91 ?_
            refine wq_if _ (fun c108 => ?_) (fun c108 => ?_)
            · refine wq_t (by decide) ?_
              refine wq_eq q_81_160 ?_
              refine wq_if _ (fun c109 => ?_) (fun c109 => ?_)
              · refine wq_eq q_81_179 ?_
                refine wq_t (by decide) ?_
                refine wq_at H.1 ?_
                refine wq_cI (v_truth H O G (by omega) (by omega)) ?_
                rintro y116 h110 ⟨⟨s112, H113, O114, G115⟩, p111⟩
                exact wq_t p111 (wq_some (rI_i ⟨⟨_, H113, O114, G115⟩, p111⟩))
              · refine wq_if _ (fun c117 => ?_) (fun c117 => ?_)
                · refine wq_eq q_81_179 ?_
                  refine wq_t (by decide) ?_
                  refine wq_at H.1 ?_
                  refine wq_cI (v_truth H O G (by omega) (by omega)) ?_
                  rintro y124 h118 ⟨⟨s120, H121, O122, G123⟩, p119⟩
                  exact wq_t p119 (wq_some (rI_i ⟨⟨_, H121, O122, G123⟩, p119⟩))
                · refine wq_if _ (fun c125 => ?_) (fun c125 => ?_)
                  · refine wq_eq q_81_179 ?_
                    refine wq_t (by decide) ?_
                    refine wq_at H.1 ?_
                    refine wq_cI (v_truth H O G (by omega) (by omega)) ?_
                    rintro y132 h126 ⟨⟨s128, H129, O130, G131⟩, p127⟩
                    exact wq_t p127 (wq_some (rI_i ⟨⟨_, H129, O130, G131⟩, p127⟩))
                  · refine wq_at H.1 ?_
                    refine wq_cI (v_truth H O G (by omega) (by omega)) ?_
                    rintro y139 h133 ⟨⟨s135, H136, O137, G138⟩, p134⟩
                    exact wq_t p134 (wq_some (rI_i ⟨⟨_, H136, O137, G138⟩, p134⟩))
            · refine wq_if _ (fun c140 => ?_) (fun c140 => ?_)
              · refine wq_t (by decide) ?_
                refine wq_eq q_81_160 ?_
                refine wq_t c140 ?_
                refine wq_eq q_81_179 ?_
                refine wq_t (by decide) ?_
                refine wq_at H.1 ?_
                refine wq_cI (v_truth H O G (by omega) (by omega)) ?_
                rintro y147 h141 ⟨⟨s143, H144, O145, G146⟩, p142⟩
                exact wq_t p142 (wq_some (rI_i ⟨⟨_, H144, O145, G146⟩, p142⟩))
              · refine wq_if _ (fun c148 => ?_) (fun c148 => ?_)
                · refine wq_t (by decide) ?_
                  refine wq_f (by decide) ?_
                  refine wq_eq q_81_160 ?_
                  refine wq_f c140 ?_
                  refine wq_if _ (fun c149 => ?_) (fun c149 => ?_)
                  · refine wq_eq q_81_179 ?_
                    refine wq_f (by decide) ?_
                    refine wq_at H.1 ?_
                    refine wq_cI (v_truth H O G (by omega) (by omega)) ?_
                    rintro y156 h150 ⟨⟨s152, H153, O154, G155⟩, p151⟩
                    exact wq_t p151 (wq_some (rI_i ⟨⟨_, H153, O154, G155⟩, p151⟩))
                  · refine wq_if _ (fun c157 => ?_) (fun c157 => ?_)
                    · refine wq_eq q_81_179 ?_
                      refine wq_f (by decide) ?_
                      refine wq_at H.1 ?_
                      refine wq_cI (v_truth H O G (by omega) (by omega)) ?_
                      rintro y164 h158 ⟨⟨s160, H161, O162, G163⟩, p159⟩
                      exact wq_t p159 (wq_some (rI_i ⟨⟨_, H161, O162, G163⟩, p159⟩))
                    · refine wq_at H.1 ?_
                      refine wq_cI (v_truth H O G (by omega) (by omega)) ?_
                      rintro y171 h165 ⟨⟨s167, H168, O169, G170⟩, p166⟩
                      exact wq_t p166 (wq_some (rI_i ⟨⟨_, H168, O169, G170⟩, p166⟩))
                · refine wq_if _ (fun c172 => ?_) (fun c172 => ?_)
                  · refine wq_t (by decide) ?_
                    refine wq_f (by decide) ?_
                    refine wq_eq q_81_160 ?_
                    refine wq_f c140 ?_
                    refine wq_t c172 ?_
                    refine wq_eq q_81_179 ?_
                    refine wq_f (by decide) ?_
                    refine wq_at H.1 ?_
                    refine wq_cI (v_truth H O G (by omega) (by omega)) ?_
                    rintro y179 h173 ⟨⟨s175, H176, O177, G178⟩, p174⟩
                    exact wq_t p174 (wq_some (rI_i ⟨⟨_, H176, O177, G178⟩, p174⟩))
                  · refine wq_f (by decide) ?_
                    refine wq_eq q_81_160 ?_
                    refine wq_f c140 ?_
                    refine wq_f c172 ?_
                    refine wq_if _ (fun c180 => ?_) (fun c180 => ?_)
                    · refine wq_eq q_81_179 ?_
                      refine wq_f (by decide) ?_
                      refine wq_at H.1 ?_
                      refine wq_cI (v_truth H O G (by omega) (by omega)) ?_
                      rintro y187 h181 ⟨⟨s183, H184, O185, G186⟩, p182⟩
                      exact wq_t p182 (wq_some (rI_i ⟨⟨_, H184, O185, G186⟩, p182⟩))
                    · refine wq_at H.1 ?_
                      refine wq_cI (v_truth H O G (by omega) (by omega)) ?_
                      rintro y194 h188 ⟨⟨s190, H191, O192, G193⟩, p189⟩
                      exact wq_t p189 (wq_some (rI_i ⟨⟨_, H191, O192, G193⟩, p189⟩))
        · refine wq_gR H.1 rfl ?_
          refine ra_J H (by omega) rfl (by omega) (by show _ < (10100 : Int); omega) ?_
          refine wq_if _ (fun c195 => ?_) (fun c195 => ?_)
          · refine wq_eq q_81_91 ?_
            refine wq_if _ (fun c196 => ?_) (fun c196 => ?_)
            · refine wq_f (by decide) ?_
              refine wq_t (by decide) ?_
              refine wq_eq q_81_160 ?_
              refine wq_if _ (fun c197 => ?_) (fun c197 => ?_)
              · refine wq_eq q_81_179 ?_
                refine wq_t (by decide) ?_
                refine wq_at H.1 ?_
                refine wq_cI (v_truth H O G (by omega) (by omega)) ?_
                rintro y204 h198 ⟨⟨s200, H201, O202, G203⟩, p199⟩
                exact wq_t p199 (wq_some (rI_i ⟨⟨_, H201, O202, G203⟩, p199⟩))
              · refine wq_if _ (fun c205 => ?_) (fun c205 => ?_)
                · refine wq_eq q_81_179 ?_
                  refine wq_t (by decide) ?_
                  refine wq_at H.1 ?_
                  refine wq_cI (v_truth H O G (by omega) (by omega)) ?_
                  rintro y212 h206 ⟨⟨s208, H209, O210, G211⟩, p207⟩
                  exact wq_t p207 (wq_some (rI_i ⟨⟨_, H209, O210, G211⟩, p207⟩))
                · refine wq_if _ (fun c213 => ?_) (fun c213 => ?_)
                  · refine wq_eq q_81_179 ?_
                    refine wq_t (by decide) ?_
                    refine wq_at H.1 ?_
                    refine wq_cI (v_truth H O G (by omega) (by omega)) ?_
                    rintro y220 h214 ⟨⟨s216, H217, O218, G219⟩, p215⟩
                    exact wq_t p215 (wq_some (rI_i ⟨⟨_, H217, O218, G219⟩, p215⟩))
                  · refine wq_at H.1 ?_
                    refine wq_cI (v_truth H O G (by omega) (by omega)) ?_
                    rintro y227 h221 ⟨⟨s223, H224, O225, G226⟩, p222⟩
                    exact wq_t p222 (wq_some (rI_i ⟨⟨_, H224, O225, G226⟩, p222⟩))
            · refine wq_if _ (fun c228 => ?_) (fun c228 => ?_)
              · refine wq_f (by decide) ?_
                refine wq_t (by decide) ?_
                refine wq_eq q_81_160 ?_
                refine wq_t c228 ?_
                refine wq_eq q_81_179 ?_
                refine wq_t (by decide) ?_
                refine wq_at H.1 ?_
                refine wq_cI (v_truth H O G (by omega) (by omega)) ?_
                rintro y235 h229 ⟨⟨s231, H232, O233, G234⟩, p230⟩
                exact wq_t p230 (wq_some (rI_i ⟨⟨_, H232, O233, G234⟩, p230⟩))
              · refine wq_if _ (fun c236 => ?_) (fun c236 => ?_)
                · refine wq_f (by decide) ?_
                  refine wq_eq q_81_160 ?_
                  refine wq_f c228 ?_
                  refine wq_if _ (fun c237 => ?_) (fun c237 => ?_)
                  · refine wq_eq q_81_179 ?_
                    refine wq_f (by decide) ?_
                    refine wq_at H.1 ?_
                    refine wq_cI (v_truth H O G (by omega) (by omega)) ?_
                    rintro y244 h238 ⟨⟨s240, H241, O242, G243⟩, p239⟩
                    exact wq_t p239 (wq_some (rI_i ⟨⟨_, H241, O242, G243⟩, p239⟩))
                  · refine wq_if _ (fun c245 => ?_) (fun c245 => ?_)
                    · refine wq_eq q_81_179 ?_
                      refine wq_f (by decide) ?_
                      refine wq_at H.1 ?_
                      refine wq_cI (v_truth H O G (by omega) (by omega)) ?_
                      rintro y252 h246 ⟨⟨s248, H249, O250, G251⟩, p247⟩
                      exact wq_t p247 (wq_some (rI_i ⟨⟨_, H249, O250, G251⟩, p247⟩))
                    · refine wq_at H.1 ?_
                      refine wq_cI (v_truth H O G (by omega) (by omega)) ?_
                      rintro y259 h253 ⟨⟨s255, H256, O257, G258⟩, p254⟩
                      exact wq_t p254 (wq_some (rI_i ⟨⟨_, H256, O257, G258⟩, p254⟩))
                · refine wq_if _ (fun c260 => ?_) (fun c260 => ?_)
                  · refine wq_f (by decide) ?_
                    refine wq_eq q_81_160 ?_
                    refine wq_f c228 ?_
                    refine wq_t c260 ?_
                    refine wq_eq q_81_179 ?_
                    refine wq_f (by decide) ?_
                    refine wq_at H.1 ?_
                    refine wq_cI (v_truth H O G (by omega) (by omega)) ?_
                    rintro y267 h261 ⟨⟨s263, H264, O265, G266⟩, p262⟩
                    exact wq_t p262 (wq_some (rI_i ⟨⟨_, H264, O265, G266⟩, p262⟩))
                  · refine wq_f (by decide) ?_
                    refine wq_eq q_81_160 ?_
                    refine wq_f c228 ?_
                    refine wq_f c260 ?_
                    refine wq_if _ (fun c268 => ?_) (fun c268 => ?_)
                    · refine wq_eq q_81_179 ?_
                      refine wq_f (by decide) ?_
                      refine wq_at H.1 ?_
                      refine wq_cI (v_truth H O G (by omega) (by omega)) ?_
                      rintro y275 h269 ⟨⟨s271, H272, O273, G274⟩, p270⟩
                      exact wq_t p270 (wq_some (rI_i ⟨⟨_, H272, O273, G274⟩, p270⟩))
                    · refine wq_at H.1 ?_
                      refine wq_cI (v_truth H O G (by omega) (by omega)) ?_
                      rintro y282 h276 ⟨⟨s278, H279, O280, G281⟩, p277⟩
                      exact wq_t p277 (wq_some (rI_i ⟨⟨_, H279, O280, G281⟩, p277⟩))
          · refine wq_eq q_81_91 ?_
            refine wq_if _ (fun c283 => ?_) (fun c283 => ?_)
            · refine wq_f (by decide) ?_
              refine wq_f (by decide) ?_
              refine wq_eq q_81_160 ?_
              refine wq_if _ (fun c284 => ?_) (fun c284 => ?_)
              · refine wq_eq q_81_179 ?_
                refine wq_f (by decide) ?_
                refine wq_at H.1 ?_
                refine wq_cI (v_truth H O G (by omega) (by omega)) ?_
                rintro y291 h285 ⟨⟨s287, H288, O289, G290⟩, p286⟩
                exact wq_t p286 (wq_some (rI_i ⟨⟨_, H288, O289, G290⟩, p286⟩))
              · refine wq_if _ (fun c292 => ?_) (fun c292 => ?_)
                · refine wq_eq q_81_179 ?_
                  refine wq_f (by decide) ?_
                  refine wq_at H.1 ?_
                  refine wq_cI (v_truth H O G (by omega) (by omega)) ?_
                  rintro y299 h293 ⟨⟨s295, H296, O297, G298⟩, p294⟩
                  exact wq_t p294 (wq_some (rI_i ⟨⟨_, H296, O297, G298⟩, p294⟩))
                · refine wq_if _ (fun c300 => ?_) (fun c300 => ?_)
                  · refine wq_eq q_81_179 ?_
                    refine wq_f (by decide) ?_
                    refine wq_at H.1 ?_
                    refine wq_cI (v_truth H O G (by omega) (by omega)) ?_
                    rintro y307 h301 ⟨⟨s303, H304, O305, G306⟩, p302⟩
                    exact wq_t p302 (wq_some (rI_i ⟨⟨_, H304, O305, G306⟩, p302⟩))
                  · refine wq_at H.1 ?_
                    refine wq_cI (v_truth H O G (by omega) (by omega)) ?_
                    rintro y314 h308 ⟨⟨s310, H311, O312, G313⟩, p309⟩
                    exact wq_t p309 (wq_some (rI_i ⟨⟨_, H311, O312, G313⟩, p309⟩))
            · refine wq_if _ (fun c315 => ?_) (fun c315 => ?_)
              · refine wq_f (by decide) ?_
                refine wq_f (by decide) ?_
                refine wq_eq q_81_160 ?_
                refine wq_t c315 ?_
                refine wq_eq q_81_179 ?_
                refine wq_f (by decide) ?_
                refine wq_at H.1 ?_
                refine wq_cI (v_truth H O G (by omega) (by omega)) ?_
                rintro y322 h316 ⟨⟨s318, H319, O320, G321⟩, p317⟩
                exact wq_t p317 (wq_some (rI_i ⟨⟨_, H319, O320, G321⟩, p317⟩))
              · refine wq_if _ (fun c323 => ?_) (fun c323 => ?_)
                · refine wq_f (by decide) ?_
                  refine wq_eq q_81_160 ?_
                  refine wq_f c315 ?_
                  refine wq_if _ (fun c324 => ?_) (fun c324 => ?_)
                  · refine wq_eq q_81_179 ?_
                    refine wq_f (by decide) ?_
                    refine wq_at H.1 ?_
                    refine wq_cI (v_truth H O G (by omega) (by omega)) ?_
                    rintro y331 h325 ⟨⟨s327, H328, O329, G330⟩, p326⟩
                    exact wq_t p326 (wq_some (rI_i ⟨⟨_, H328, O329, G330⟩, p326⟩))
                  · refine wq_if _ (fun c332 => ?_) (fun c332 => ?_)
                    · refine wq_eq q_81_179 ?_
                      refine wq_f (by decide) ?_
                      refine wq_at H.1 ?_
                      refine wq_cI (v_truth H O G (by omega) (by omega)) ?_
                      rintro y339 h333 ⟨⟨s335, H336, O337, G338⟩, p334⟩
                      exact wq_t p334 (wq_some (rI_i ⟨⟨_, H336, O337, G338⟩, p334⟩))
                    · refine wq_at H.1 ?_
                      refine wq_cI (v_truth H O G (by omega) (by omega)) ?_
                      rintro y346 h340 ⟨⟨s342, H343, O344, G345⟩, p341⟩
                      exact wq_t p341 (wq_some (rI_i ⟨⟨_, H343, O344, G345⟩, p341⟩))
                · refine wq_if _ (fun c347 => ?_) (fun c347 => ?_)
                  · refine wq_f (by decide) ?_
                    refine wq_eq q_81_160 ?_
                    refine wq_f c315 ?_
                    refine wq_t c347 ?_
                    refine wq_eq q_81_179 ?_
                    refine wq_f (by decide) ?_
                    refine wq_at H.1 ?_
                    refine wq_cI (v_truth H O G (by omega) (by omega)) ?_
                    rintro y354 h348 ⟨⟨s350, H351, O352, G353⟩, p349⟩
                    exact wq_t p349 (wq_some (rI_i ⟨⟨_, H351, O352, G353⟩, p349⟩))
                  · refine wq_t (by decide) ?_
                    refine wq_eq q_81_160 ?_
                    refine wq_f c315 ?_
                    refine wq_f c347 ?_
                    refine wq_if _ (fun c355 => ?_) (fun c355 => ?_)
                    · refine wq_eq q_81_179 ?_
                      refine wq_t (by decide) ?_
                      refine wq_at H.1 ?_
                      refine wq_cI (v_truth H O G (by omega) (by omega)) ?_
                      rintro y362 h356 ⟨⟨s358, H359, O360, G361⟩, p357⟩
                      exact wq_t p357 (wq_some (rI_i ⟨⟨_, H359, O360, G361⟩, p357⟩))
                    · refine wq_at H.1 ?_
                      refine wq_cI (v_truth H O G (by omega) (by omega)) ?_
                      rintro y369 h363 ⟨⟨s365, H366, O367, G368⟩, p364⟩
                      exact wq_t p364 (wq_some (rI_i ⟨⟨_, H366, O367, G368⟩, p364⟩))
      · refine wq_gR H.1 rfl ?_
        refine rv_0 H O (by omega) (by show _ < (10100 : Int); omega) (fun u370 q371 q372 => ?_)
        refine wq_if _ (fun c373 => ?_) (fun c373 => ?_)
        · refine wq_gR H.1 rfl ?_
          refine ra_J H (by omega) rfl (by omega) (by show _ < (10100 : Int); omega) ?_
          refine wq_gR H.1 rfl ?_
          refine ra_J H (by omega) rfl (by omega) (by show _ < (10100 : Int); omega) ?_
          refine wq_cI (v_join) ?_
          rintro y376 h374 ⟨rfl, p375⟩
          refine wq_at H.1 ?_
          refine wq_cI (v_logic H O G (by omega) (by omega)) ?_
          rintro y383 h377 ⟨⟨s379, H380, O381, G382⟩, p378⟩
          exact wq_t p378 (wq_some (rI_i ⟨⟨_, H380, O381, G382⟩, p378⟩))
        · exact w_81_235 _ _ _ _ _ _ _ (Nat.lt_succ_self _) (by have := congrArg Int32.toInt c7; have := congrArg Int32.toInt c14; have := ne_i c18; have := ne_i c373; have : (0 : Int32).toInt = 0 := rfl; have : (2 : Int32).toInt = 2 := rfl; omega) (by omega) (by omega) (by omega) (by omega) H O G
    · refine wq_at H.1 ?_
      refine wq_cI (v_fail H O G) ?_
      rintro y390 h384 ⟨⟨s386, H387, O388, G389⟩, p385⟩
      exact wq_t p385.1 (wq_some (rI_i ⟨⟨_, H387, O388, G389⟩, p385.1⟩))
  · refine wq_at H.1 ?_
    refine wq_cI (v_fail H O G) ?_
    rintro y397 h391 ⟨⟨s393, H394, O395, G396⟩, p392⟩
    exact wq_t p392.1 (wq_some (rI_i ⟨⟨_, H394, O395, G396⟩, p392.1⟩))
theorem u_83_250 {d : Nat} {h : ah_H} {v2 : Int32} {v3 : Int32} {v5 : Int32} {v6 : Int32} (H : RH m σ b h) (O : OKV σ) (G : sm (QR p) σ0 σ) (iv0 : 9344 ≤ v3.toInt) (iv1 : v3.toInt < 10100) : wq (ah_val lim ah_P (d + 2) 83 250 [some (.inr (.inr (some m))), none, some (.inl v2), some (.inl v3), none, some (.inl v5), some (.inl v6), none] [] h) (rI fun x h' => rvP m p σ0 b h' ∧ (x = 0 ∨ x = 1)) := by
  refine wq_eq q_83_250 ?_
  refine wq_if _ (fun c1 => ?_) (fun c1 => ?_)
  · refine wq_at H.1 ?_
    refine wq_cI (v_truth H O G (by omega) (by omega)) ?_
    rintro y8 h2 ⟨⟨s4, H5, O6, G7⟩, p3⟩
    exact wq_t p3 (wq_some (rI_i ⟨⟨_, H5, O6, G7⟩, p3⟩))
  · refine wq_if _ (fun c9 => ?_) (fun c9 => ?_)
    · refine wq_if _ (fun c10 => ?_) (fun c10 => ?_)
      · refine wq_at H.1 ?_
        refine wq_cI (v_truth H O G (by omega) (by omega)) ?_
        rintro y17 h11 ⟨⟨s13, H14, O15, G16⟩, p12⟩
        exact wq_t p12 (wq_some (rI_i ⟨⟨_, H14, O15, G16⟩, p12⟩))
      · refine wq_at H.1 ?_
        refine wq_cI (v_truth H O G (by omega) (by omega)) ?_
        rintro y24 h18 ⟨⟨s20, H21, O22, G23⟩, p19⟩
        exact wq_t p19 (wq_some (rI_i ⟨⟨_, H21, O22, G23⟩, p19⟩))
    · refine wq_if _ (fun c25 => ?_) (fun c25 => ?_)
      · refine wq_if _ (fun c26 => ?_) (fun c26 => ?_)
        · refine wq_at H.1 ?_
          refine wq_cI (v_truth H O G (by omega) (by omega)) ?_
          rintro y33 h27 ⟨⟨s29, H30, O31, G32⟩, p28⟩
          exact wq_t p28 (wq_some (rI_i ⟨⟨_, H30, O31, G32⟩, p28⟩))
        · refine wq_at H.1 ?_
          refine wq_cI (v_truth H O G (by omega) (by omega)) ?_
          rintro y40 h34 ⟨⟨s36, H37, O38, G39⟩, p35⟩
          exact wq_t p35 (wq_some (rI_i ⟨⟨_, H37, O38, G39⟩, p35⟩))
      · refine wq_if _ (fun c41 => ?_) (fun c41 => ?_)
        · refine wq_if _ (fun c42 => ?_) (fun c42 => ?_)
          · refine wq_at H.1 ?_
            refine wq_cI (v_truth H O G (by omega) (by omega)) ?_
            rintro y49 h43 ⟨⟨s45, H46, O47, G48⟩, p44⟩
            exact wq_t p44 (wq_some (rI_i ⟨⟨_, H46, O47, G48⟩, p44⟩))
          · refine wq_at H.1 ?_
            refine wq_cI (v_truth H O G (by omega) (by omega)) ?_
            rintro y56 h50 ⟨⟨s52, H53, O54, G55⟩, p51⟩
            exact wq_t p51 (wq_some (rI_i ⟨⟨_, H53, O54, G55⟩, p51⟩))
        · refine wq_if _ (fun c57 => ?_) (fun c57 => ?_)
          · refine wq_at H.1 ?_
            refine wq_cI (v_truth H O G (by omega) (by omega)) ?_
            rintro y64 h58 ⟨⟨s60, H61, O62, G63⟩, p59⟩
            exact wq_t p59 (wq_some (rI_i ⟨⟨_, H61, O62, G63⟩, p59⟩))
          · refine wq_at H.1 ?_
            refine wq_cI (v_truth H O G (by omega) (by omega)) ?_
            rintro y71 h65 ⟨⟨s67, H68, O69, G70⟩, p66⟩
            exact wq_t p66 (wq_some (rI_i ⟨⟨_, H68, O69, G70⟩, p66⟩))
theorem w_83_184 {d : Nat} : ∀ (M : Nat) (h1 : ah_H) (σ1 : rS) (v2 : Int32) (v3 : Int32) (v4 : Int32) (v5 : Int32) (v6 : Int32) (v7 : Int32), (2147483647 - v7.toInt).toNat < M → 0 ≤ v7.toInt → 9344 ≤ v3.toInt → v3.toInt < 10100 → 9344 ≤ v4.toInt → v4.toInt < 10100 → RH m σ1 b h1 → OKV σ1 → sm (QR p) σ0 σ1 → wq (ah_val lim ah_P (d + 2) 83 184 [some (.inr (.inr (some m))), none, some (.inl v2), some (.inl v3), some (.inl v4), some (.inl v5), some (.inl v6), some (.inl v7)] [] h1) (rI fun x h' => rvP m p σ0 b h' ∧ (x = 0 ∨ x = 1)) := by
  intro M
  induction M with
  | zero => intros; omega
  | succ M ih =>
      intro h1 σ1 v2 v3 v4 v5 v6 v7 hM iv0 iv1 iv2 iv3 iv4 H O G
      refine wq_eq q_83_184 ?_
      refine wq_gR H.1 rfl ?_
      refine rv_1 H O (by omega) (by show _ < (10100 : Int); omega) (fun u1 q2 q3 => ?_)
      refine wq_if _ (fun c4 => ?_) (fun c4 => ?_)
      · refine wq_at H.1 ?_
        refine wq_cI (v_element H O G (by omega) (by omega) (by have := lt_i c4; omega) (by have := lt_i c4; omega)) ?_
        rintro y7 h5 ⟨rfl, p6⟩
        refine wq_cI (v_isHigh) ?_
        rintro y10 h8 ⟨rfl, p9⟩
        refine wq_at H.1 ?_
        refine wq_cI (v_element H O G (by omega) (by omega) (by have := lt_i c4; omega) (by have := lt_i c4; omega)) ?_
        rintro y13 h11 ⟨rfl, p12⟩
        refine wq_cI (v_isHigh) ?_
        rintro y16 h14 ⟨rfl, p15⟩
        refine wq_if _ (fun c17 => ?_) (fun c17 => ?_)
        · exact ih _ _ _ _ _ _ _ _ (by have := lt_i c4; have : (1 : Int32).toInt = 1 := rfl; have := bd_i v7; have := bd_i (1 : Int32); have : (v7 + (1 : Int32)).toInt = v7.toInt + (1 : Int32).toInt := ad_i (by omega) (by omega); omega) (by have := lt_i c4; have : (1 : Int32).toInt = 1 := rfl; have := bd_i v7; have := bd_i (1 : Int32); have : (v7 + (1 : Int32)).toInt = v7.toInt + (1 : Int32).toInt := ad_i (by omega) (by omega); omega) (by omega) (by omega) (by omega) (by omega) H O G
        · refine wq_at H.1 ?_
          refine wq_cI (v_element H O G (by omega) (by omega) (by have := lt_i c4; omega) (by have := lt_i c4; omega)) ?_
          rintro y20 h18 ⟨rfl, p19⟩
          refine wq_cI (v_isHigh) ?_
          rintro y23 h21 ⟨rfl, p22⟩
          refine wq_if _ (fun c24 => ?_) (fun c24 => ?_)
          · exact ih _ _ _ _ _ _ _ _ (by have := lt_i c4; have : (1 : Int32).toInt = 1 := rfl; have := bd_i v7; have := bd_i (1 : Int32); have : (v7 + (1 : Int32)).toInt = v7.toInt + (1 : Int32).toInt := ad_i (by omega) (by omega); omega) (by have := lt_i c4; have : (1 : Int32).toInt = 1 := rfl; have := bd_i v7; have := bd_i (1 : Int32); have : (v7 + (1 : Int32)).toInt = v7.toInt + (1 : Int32).toInt := ad_i (by omega) (by omega); omega) (by omega) (by omega) (by omega) (by omega) H O G
          · exact ih _ _ _ _ _ _ _ _ (by have := lt_i c4; have : (1 : Int32).toInt = 1 := rfl; have := bd_i v7; have := bd_i (1 : Int32); have : (v7 + (1 : Int32)).toInt = v7.toInt + (1 : Int32).toInt := ad_i (by omega) (by omega); omega) (by have := lt_i c4; have : (1 : Int32).toInt = 1 := rfl; have := bd_i v7; have := bd_i (1 : Int32); have : (v7 + (1 : Int32)).toInt = v7.toInt + (1 : Int32).toInt := ad_i (by omega) (by omega); omega) (by omega) (by omega) (by omega) (by omega) H O G
      · exact u_83_250 H O G (by omega) (by omega)
theorem v_compare {d : Nat} {h : ah_H} {v1 : Int32} {v2 : Int32} {v3 : Int32} {v4 : Int32} (H : RH m σ b h) (O : OKV σ) (G : sm (QR p) σ0 σ) (g0 : 9344 ≤ v3.toInt) (g1 : v3.toInt < 10100) (g2 : 9344 ≤ v4.toInt) (g3 : v4.toInt < 10100)  : wq (vc lim (d + 3) m_Ref_compare [.inr (.inr (some m)), .inl v1, .inl v2, .inl v3, .inl v4] h) (rI fun x h' => rvP m p σ0 b h' ∧ (x = 0 ∨ x = 1)) := by
  refine wq_eq e_Ref_compare ?_
  refine wq_gR H.1 rfl ?_
  refine rv_0 H O (by omega) (by show _ < (10100 : Int); omega) (fun u1 q2 q3 => ?_)
  refine wq_gR H.1 rfl ?_
  refine rv_0 H O (by omega) (by show _ < (10100 : Int); omega) (fun u4 q5 q6 => ?_)
  refine wq_if _ (fun c7 => ?_) (fun c7 => ?_)
  · refine wq_if _ (fun c8 => ?_) (fun c8 => ?_)
    · refine wq_eq q_83_38 ?_
      refine wq_gR H.1 rfl ?_
      refine rv_1 H O (by omega) (by show _ < (10100 : Int); omega) (fun u9 q10 q11 => ?_)
      refine wq_gR H.1 rfl ?_
      refine rv_1 H O (by omega) (by show _ < (10100 : Int); omega) (fun u12 q13 q14 => ?_)
      refine wq_if _ (fun c15 => ?_) (fun c15 => ?_)
      · refine wq_if _ (fun c16 => ?_) (fun c16 => ?_)
        · refine wq_at H.1 ?_
          refine wq_cI (v_alike H O G (by omega) (by omega) (by omega) (by omega)) ?_
          rintro y19 h17 ⟨rfl, p18⟩
          refine wq_if _ (fun c20 => ?_) (fun c20 => ?_)
          · refine wq_if _ (fun c21 => ?_) (fun c21 => ?_)
            · refine wq_at H.1 ?_
              refine wq_cI (v_truth H O G (by omega) (by omega)) ?_
              rintro y28 h22 ⟨⟨s24, H25, O26, G27⟩, p23⟩
              exact wq_t p23 (wq_some (rI_i ⟨⟨_, H25, O26, G27⟩, p23⟩))
            · refine wq_at H.1 ?_
              refine wq_cI (v_truth H O G (by omega) (by omega)) ?_
              rintro y35 h29 ⟨⟨s31, H32, O33, G34⟩, p30⟩
              exact wq_t p30 (wq_some (rI_i ⟨⟨_, H32, O33, G34⟩, p30⟩))
          · refine wq_if _ (fun c36 => ?_) (fun c36 => ?_)
            · refine wq_at H.1 ?_
              refine wq_cI (v_truth H O G (by omega) (by omega)) ?_
              rintro y43 h37 ⟨⟨s39, H40, O41, G42⟩, p38⟩
              exact wq_t p38 (wq_some (rI_i ⟨⟨_, H40, O41, G42⟩, p38⟩))
            · refine wq_at H.1 ?_
              refine wq_cI (v_truth H O G (by omega) (by omega)) ?_
              rintro y50 h44 ⟨⟨s46, H47, O48, G49⟩, p45⟩
              exact wq_t p45 (wq_some (rI_i ⟨⟨_, H47, O48, G49⟩, p45⟩))
        · refine wq_gR H.1 rfl ?_
          refine ra_J H (by omega) rfl (by omega) (by show _ < (10100 : Int); omega) ?_
          refine wq_gR H.1 rfl ?_
          refine ra_J H (by omega) rfl (by omega) (by show _ < (10100 : Int); omega) ?_
          refine wq_if _ (fun c51 => ?_) (fun c51 => ?_)
          · refine wq_eq q_83_142 ?_
            refine wq_gR H.1 rfl ?_
            refine rv_0 H O (by omega) (by show _ < (10100 : Int); omega) (fun u52 q53 q54 => ?_)
            refine wq_if _ (fun c55 => ?_) (fun c55 => ?_)
            · refine wq_at H.1 ?_
              refine wq_cI (v_clear H O G (by omega) (by omega)) ?_
              rintro y58 h56 ⟨rfl, p57⟩
              refine wq_if _ (fun c59 => ?_) (fun c59 => ?_)
              · exact w_83_184 _ _ _ _ _ _ _ _ _ (Nat.lt_succ_self _) (by have := congrArg Int32.toInt c7; have := le_i c8; have := congrArg Int32.toInt c15; have := nlt_i c16; have := congrArg Int32.toInt c55; have := congrArg Int32.toInt c59; have : (0 : Int32).toInt = 0 := rfl; have : (1 : Int32).toInt = 1 := rfl; have : (7 : Int32).toInt = 7 := rfl; have : (8 : Int32).toInt = 8 := rfl; omega) (by omega) (by omega) (by omega) (by omega) H O G
              · refine wq_at H.1 ?_
                refine wq_cI (v_clear H O G (by omega) (by omega)) ?_
                rintro y62 h60 ⟨rfl, p61⟩
                refine wq_if _ (fun c63 => ?_) (fun c63 => ?_)
                · exact w_83_184 _ _ _ _ _ _ _ _ _ (Nat.lt_succ_self _) (by have := congrArg Int32.toInt c7; have := le_i c8; have := congrArg Int32.toInt c15; have := nlt_i c16; have := congrArg Int32.toInt c55; have := ne_i c59; have := congrArg Int32.toInt c63; have : (0 : Int32).toInt = 0 := rfl; have : (1 : Int32).toInt = 1 := rfl; have : (7 : Int32).toInt = 7 := rfl; have : (8 : Int32).toInt = 8 := rfl; omega) (by omega) (by omega) (by omega) (by omega) H O G
                · exact w_83_184 _ _ _ _ _ _ _ _ _ (Nat.lt_succ_self _) (by have := congrArg Int32.toInt c7; have := le_i c8; have := congrArg Int32.toInt c15; have := nlt_i c16; have := congrArg Int32.toInt c55; have := ne_i c59; have := ne_i c63; have : (0 : Int32).toInt = 0 := rfl; have : (1 : Int32).toInt = 1 := rfl; have : (7 : Int32).toInt = 7 := rfl; have : (8 : Int32).toInt = 8 := rfl; omega) (by omega) (by omega) (by omega) (by omega) H O G
            · exact u_83_250 H O G (by omega) (by omega)
          · refine wq_gR H.1 rfl ?_
            refine ra_J H (by omega) rfl (by omega) (by show _ < (10100 : Int); omega) ?_
            refine wq_gR H.1 rfl ?_
            refine ra_J H (by omega) rfl (by omega) (by show _ < (10100 : Int); omega) ?_
            refine wq_if _ (fun c64 => ?_) (fun c64 => ?_)
            · refine wq_eq q_83_142 ?_
              refine wq_gR H.1 rfl ?_
              refine rv_0 H O (by omega) (by show _ < (10100 : Int); omega) (fun u65 q66 q67 => ?_)
              refine wq_if _ (fun c68 => ?_) (fun c68 => ?_)
              · refine wq_at H.1 ?_
                refine wq_cI (v_clear H O G (by omega) (by omega)) ?_
                rintro y71 h69 ⟨rfl, p70⟩
                refine wq_if _ (fun c72 => ?_) (fun c72 => ?_)
                · exact w_83_184 _ _ _ _ _ _ _ _ _ (Nat.lt_succ_self _) (by have := congrArg Int32.toInt c7; have := le_i c8; have := congrArg Int32.toInt c15; have := nlt_i c16; have := congrArg Int32.toInt c68; have := congrArg Int32.toInt c72; have : (0 : Int32).toInt = 0 := rfl; have : (1 : Int32).toInt = 1 := rfl; have : (7 : Int32).toInt = 7 := rfl; have : (8 : Int32).toInt = 8 := rfl; omega) (by omega) (by omega) (by omega) (by omega) H O G
                · refine wq_at H.1 ?_
                  refine wq_cI (v_clear H O G (by omega) (by omega)) ?_
                  rintro y75 h73 ⟨rfl, p74⟩
                  refine wq_if _ (fun c76 => ?_) (fun c76 => ?_)
                  · exact w_83_184 _ _ _ _ _ _ _ _ _ (Nat.lt_succ_self _) (by have := congrArg Int32.toInt c7; have := le_i c8; have := congrArg Int32.toInt c15; have := nlt_i c16; have := congrArg Int32.toInt c68; have := ne_i c72; have := congrArg Int32.toInt c76; have : (0 : Int32).toInt = 0 := rfl; have : (1 : Int32).toInt = 1 := rfl; have : (7 : Int32).toInt = 7 := rfl; have : (8 : Int32).toInt = 8 := rfl; omega) (by omega) (by omega) (by omega) (by omega) H O G
                  · exact w_83_184 _ _ _ _ _ _ _ _ _ (Nat.lt_succ_self _) (by have := congrArg Int32.toInt c7; have := le_i c8; have := congrArg Int32.toInt c15; have := nlt_i c16; have := congrArg Int32.toInt c68; have := ne_i c72; have := ne_i c76; have : (0 : Int32).toInt = 0 := rfl; have : (1 : Int32).toInt = 1 := rfl; have : (7 : Int32).toInt = 7 := rfl; have : (8 : Int32).toInt = 8 := rfl; omega) (by omega) (by omega) (by omega) (by omega) H O G
              · exact u_83_250 H O G (by omega) (by omega)
            · refine wq_eq q_83_142 ?_
              refine wq_gR H.1 rfl ?_
              refine rv_0 H O (by omega) (by show _ < (10100 : Int); omega) (fun u77 q78 q79 => ?_)
              refine wq_if _ (fun c80 => ?_) (fun c80 => ?_)
              · refine wq_at H.1 ?_
                refine wq_cI (v_clear H O G (by omega) (by omega)) ?_
                rintro y83 h81 ⟨rfl, p82⟩
                refine wq_if _ (fun c84 => ?_) (fun c84 => ?_)
                · exact w_83_184 _ _ _ _ _ _ _ _ _ (Nat.lt_succ_self _) (by have := congrArg Int32.toInt c7; have := le_i c8; have := congrArg Int32.toInt c15; have := nlt_i c16; have := congrArg Int32.toInt c80; have := congrArg Int32.toInt c84; have : (0 : Int32).toInt = 0 := rfl; have : (1 : Int32).toInt = 1 := rfl; have : (7 : Int32).toInt = 7 := rfl; have : (8 : Int32).toInt = 8 := rfl; omega) (by omega) (by omega) (by omega) (by omega) H O G
                · refine wq_at H.1 ?_
                  refine wq_cI (v_clear H O G (by omega) (by omega)) ?_
                  rintro y87 h85 ⟨rfl, p86⟩
                  refine wq_if _ (fun c88 => ?_) (fun c88 => ?_)
                  · exact w_83_184 _ _ _ _ _ _ _ _ _ (Nat.lt_succ_self _) (by have := congrArg Int32.toInt c7; have := le_i c8; have := congrArg Int32.toInt c15; have := nlt_i c16; have := congrArg Int32.toInt c80; have := ne_i c84; have := congrArg Int32.toInt c88; have : (0 : Int32).toInt = 0 := rfl; have : (1 : Int32).toInt = 1 := rfl; have : (7 : Int32).toInt = 7 := rfl; have : (8 : Int32).toInt = 8 := rfl; omega) (by omega) (by omega) (by omega) (by omega) H O G
                  · exact w_83_184 _ _ _ _ _ _ _ _ _ (Nat.lt_succ_self _) (by have := congrArg Int32.toInt c7; have := le_i c8; have := congrArg Int32.toInt c15; have := nlt_i c16; have := congrArg Int32.toInt c80; have := ne_i c84; have := ne_i c88; have : (0 : Int32).toInt = 0 := rfl; have : (1 : Int32).toInt = 1 := rfl; have : (7 : Int32).toInt = 7 := rfl; have : (8 : Int32).toInt = 8 := rfl; omega) (by omega) (by omega) (by omega) (by omega) H O G
              · exact u_83_250 H O G (by omega) (by omega)
      · refine wq_at H.1 ?_
        refine wq_cI (v_fail H O G) ?_
        rintro y95 h89 ⟨⟨s91, H92, O93, G94⟩, p90⟩
        exact wq_t p90.1 (wq_some (rI_i ⟨⟨_, H92, O93, G94⟩, p90.1⟩))
    · refine wq_gR H.1 rfl ?_
      refine rv_0 H O (by omega) (by show _ < (10100 : Int); omega) (fun u96 q97 q98 => ?_)
      refine wq_if _ (fun c99 => ?_) (fun c99 => ?_)
      · refine wq_at H.1 ?_
        refine wq_cI (v_fail H O G) ?_
        rintro y106 h100 ⟨⟨s102, H103, O104, G105⟩, p101⟩
        exact wq_t p101.1 (wq_some (rI_i ⟨⟨_, H103, O104, G105⟩, p101.1⟩))
      · refine wq_eq q_83_38 ?_
        refine wq_gR H.1 rfl ?_
        refine rv_1 H O (by omega) (by show _ < (10100 : Int); omega) (fun u107 q108 q109 => ?_)
        refine wq_gR H.1 rfl ?_
        refine rv_1 H O (by omega) (by show _ < (10100 : Int); omega) (fun u110 q111 q112 => ?_)
        refine wq_if _ (fun c113 => ?_) (fun c113 => ?_)
        · refine wq_if _ (fun c114 => ?_) (fun c114 => ?_)
          · refine wq_at H.1 ?_
            refine wq_cI (v_alike H O G (by omega) (by omega) (by omega) (by omega)) ?_
            rintro y117 h115 ⟨rfl, p116⟩
            refine wq_if _ (fun c118 => ?_) (fun c118 => ?_)
            · refine wq_if _ (fun c119 => ?_) (fun c119 => ?_)
              · refine wq_at H.1 ?_
                refine wq_cI (v_truth H O G (by omega) (by omega)) ?_
                rintro y126 h120 ⟨⟨s122, H123, O124, G125⟩, p121⟩
                exact wq_t p121 (wq_some (rI_i ⟨⟨_, H123, O124, G125⟩, p121⟩))
              · refine wq_at H.1 ?_
                refine wq_cI (v_truth H O G (by omega) (by omega)) ?_
                rintro y133 h127 ⟨⟨s129, H130, O131, G132⟩, p128⟩
                exact wq_t p128 (wq_some (rI_i ⟨⟨_, H130, O131, G132⟩, p128⟩))
            · refine wq_if _ (fun c134 => ?_) (fun c134 => ?_)
              · refine wq_at H.1 ?_
                refine wq_cI (v_truth H O G (by omega) (by omega)) ?_
                rintro y141 h135 ⟨⟨s137, H138, O139, G140⟩, p136⟩
                exact wq_t p136 (wq_some (rI_i ⟨⟨_, H138, O139, G140⟩, p136⟩))
              · refine wq_at H.1 ?_
                refine wq_cI (v_truth H O G (by omega) (by omega)) ?_
                rintro y148 h142 ⟨⟨s144, H145, O146, G147⟩, p143⟩
                exact wq_t p143 (wq_some (rI_i ⟨⟨_, H145, O146, G147⟩, p143⟩))
          · refine wq_gR H.1 rfl ?_
            refine ra_J H (by omega) rfl (by omega) (by show _ < (10100 : Int); omega) ?_
            refine wq_gR H.1 rfl ?_
            refine ra_J H (by omega) rfl (by omega) (by show _ < (10100 : Int); omega) ?_
            refine wq_if _ (fun c149 => ?_) (fun c149 => ?_)
            · refine wq_eq q_83_142 ?_
              refine wq_gR H.1 rfl ?_
              refine rv_0 H O (by omega) (by show _ < (10100 : Int); omega) (fun u150 q151 q152 => ?_)
              refine wq_if _ (fun c153 => ?_) (fun c153 => ?_)
              · refine wq_at H.1 ?_
                refine wq_cI (v_clear H O G (by omega) (by omega)) ?_
                rintro y156 h154 ⟨rfl, p155⟩
                refine wq_if _ (fun c157 => ?_) (fun c157 => ?_)
                · exact w_83_184 _ _ _ _ _ _ _ _ _ (Nat.lt_succ_self _) (by have := congrArg Int32.toInt c7; have := nle_i c8; have := ne_i c99; have := congrArg Int32.toInt c113; have := nlt_i c114; have := congrArg Int32.toInt c153; have := congrArg Int32.toInt c157; have : (0 : Int32).toInt = 0 := rfl; have : (1 : Int32).toInt = 1 := rfl; have : (7 : Int32).toInt = 7 := rfl; have : (8 : Int32).toInt = 8 := rfl; omega) (by omega) (by omega) (by omega) (by omega) H O G
                · refine wq_at H.1 ?_
                  refine wq_cI (v_clear H O G (by omega) (by omega)) ?_
                  rintro y160 h158 ⟨rfl, p159⟩
                  refine wq_if _ (fun c161 => ?_) (fun c161 => ?_)
                  · exact w_83_184 _ _ _ _ _ _ _ _ _ (Nat.lt_succ_self _) (by have := congrArg Int32.toInt c7; have := nle_i c8; have := ne_i c99; have := congrArg Int32.toInt c113; have := nlt_i c114; have := congrArg Int32.toInt c153; have := ne_i c157; have := congrArg Int32.toInt c161; have : (0 : Int32).toInt = 0 := rfl; have : (1 : Int32).toInt = 1 := rfl; have : (7 : Int32).toInt = 7 := rfl; have : (8 : Int32).toInt = 8 := rfl; omega) (by omega) (by omega) (by omega) (by omega) H O G
                  · exact w_83_184 _ _ _ _ _ _ _ _ _ (Nat.lt_succ_self _) (by have := congrArg Int32.toInt c7; have := nle_i c8; have := ne_i c99; have := congrArg Int32.toInt c113; have := nlt_i c114; have := congrArg Int32.toInt c153; have := ne_i c157; have := ne_i c161; have : (0 : Int32).toInt = 0 := rfl; have : (1 : Int32).toInt = 1 := rfl; have : (7 : Int32).toInt = 7 := rfl; have : (8 : Int32).toInt = 8 := rfl; omega) (by omega) (by omega) (by omega) (by omega) H O G
              · exact u_83_250 H O G (by omega) (by omega)
            · refine wq_gR H.1 rfl ?_
              refine ra_J H (by omega) rfl (by omega) (by show _ < (10100 : Int); omega) ?_
              refine wq_gR H.1 rfl ?_
              refine ra_J H (by omega) rfl (by omega) (by show _ < (10100 : Int); omega) ?_
              refine wq_if _ (fun c162 => ?_) (fun c162 => ?_)
              · refine wq_eq q_83_142 ?_
                refine wq_gR H.1 rfl ?_
                refine rv_0 H O (by omega) (by show _ < (10100 : Int); omega) (fun u163 q164 q165 => ?_)
                refine wq_if _ (fun c166 => ?_) (fun c166 => ?_)
                · refine wq_at H.1 ?_
                  refine wq_cI (v_clear H O G (by omega) (by omega)) ?_
                  rintro y169 h167 ⟨rfl, p168⟩
                  refine wq_if _ (fun c170 => ?_) (fun c170 => ?_)
                  · exact w_83_184 _ _ _ _ _ _ _ _ _ (Nat.lt_succ_self _) (by have := congrArg Int32.toInt c7; have := nle_i c8; have := ne_i c99; have := congrArg Int32.toInt c113; have := nlt_i c114; have := congrArg Int32.toInt c166; have := congrArg Int32.toInt c170; have : (0 : Int32).toInt = 0 := rfl; have : (1 : Int32).toInt = 1 := rfl; have : (7 : Int32).toInt = 7 := rfl; have : (8 : Int32).toInt = 8 := rfl; omega) (by omega) (by omega) (by omega) (by omega) H O G
                  · refine wq_at H.1 ?_
                    refine wq_cI (v_clear H O G (by omega) (by omega)) ?_
                    rintro y173 h171 ⟨rfl, p172⟩
                    refine wq_if _ (fun c174 => ?_) (fun c174 => ?_)
                    · exact w_83_184 _ _ _ _ _ _ _ _ _ (Nat.lt_succ_self _) (by have := congrArg Int32.toInt c7; have := nle_i c8; have := ne_i c99; have := congrArg Int32.toInt c113; have := nlt_i c114; have := congrArg Int32.toInt c166; have := ne_i c170; have := congrArg Int32.toInt c174; have : (0 : Int32).toInt = 0 := rfl; have : (1 : Int32).toInt = 1 := rfl; have : (7 : Int32).toInt = 7 := rfl; have : (8 : Int32).toInt = 8 := rfl; omega) (by omega) (by omega) (by omega) (by omega) H O G
                    · exact w_83_184 _ _ _ _ _ _ _ _ _ (Nat.lt_succ_self _) (by have := congrArg Int32.toInt c7; have := nle_i c8; have := ne_i c99; have := congrArg Int32.toInt c113; have := nlt_i c114; have := congrArg Int32.toInt c166; have := ne_i c170; have := ne_i c174; have : (0 : Int32).toInt = 0 := rfl; have : (1 : Int32).toInt = 1 := rfl; have : (7 : Int32).toInt = 7 := rfl; have : (8 : Int32).toInt = 8 := rfl; omega) (by omega) (by omega) (by omega) (by omega) H O G
                · exact u_83_250 H O G (by omega) (by omega)
              · refine wq_eq q_83_142 ?_
                refine wq_gR H.1 rfl ?_
                refine rv_0 H O (by omega) (by show _ < (10100 : Int); omega) (fun u175 q176 q177 => ?_)
                refine wq_if _ (fun c178 => ?_) (fun c178 => ?_)
                · refine wq_at H.1 ?_
                  refine wq_cI (v_clear H O G (by omega) (by omega)) ?_
                  rintro y181 h179 ⟨rfl, p180⟩
                  refine wq_if _ (fun c182 => ?_) (fun c182 => ?_)
                  · exact w_83_184 _ _ _ _ _ _ _ _ _ (Nat.lt_succ_self _) (by have := congrArg Int32.toInt c7; have := nle_i c8; have := ne_i c99; have := congrArg Int32.toInt c113; have := nlt_i c114; have := congrArg Int32.toInt c178; have := congrArg Int32.toInt c182; have : (0 : Int32).toInt = 0 := rfl; have : (1 : Int32).toInt = 1 := rfl; have : (7 : Int32).toInt = 7 := rfl; have : (8 : Int32).toInt = 8 := rfl; omega) (by omega) (by omega) (by omega) (by omega) H O G
                  · refine wq_at H.1 ?_
                    refine wq_cI (v_clear H O G (by omega) (by omega)) ?_
                    rintro y185 h183 ⟨rfl, p184⟩
                    refine wq_if _ (fun c186 => ?_) (fun c186 => ?_)
                    · exact w_83_184 _ _ _ _ _ _ _ _ _ (Nat.lt_succ_self _) (by have := congrArg Int32.toInt c7; have := nle_i c8; have := ne_i c99; have := congrArg Int32.toInt c113; have := nlt_i c114; have := congrArg Int32.toInt c178; have := ne_i c182; have := congrArg Int32.toInt c186; have : (0 : Int32).toInt = 0 := rfl; have : (1 : Int32).toInt = 1 := rfl; have : (7 : Int32).toInt = 7 := rfl; have : (8 : Int32).toInt = 8 := rfl; omega) (by omega) (by omega) (by omega) (by omega) H O G
                    · exact w_83_184 _ _ _ _ _ _ _ _ _ (Nat.lt_succ_self _) (by have := congrArg Int32.toInt c7; have := nle_i c8; have := ne_i c99; have := congrArg Int32.toInt c113; have := nlt_i c114; have := congrArg Int32.toInt c178; have := ne_i c182; have := ne_i c186; have : (0 : Int32).toInt = 0 := rfl; have : (1 : Int32).toInt = 1 := rfl; have : (7 : Int32).toInt = 7 := rfl; have : (8 : Int32).toInt = 8 := rfl; omega) (by omega) (by omega) (by omega) (by omega) H O G
                · exact u_83_250 H O G (by omega) (by omega)
        · refine wq_at H.1 ?_
          refine wq_cI (v_fail H O G) ?_
          rintro y193 h187 ⟨⟨s189, H190, O191, G192⟩, p188⟩
          exact wq_t p188.1 (wq_some (rI_i ⟨⟨_, H190, O191, G192⟩, p188.1⟩))
  · refine wq_at H.1 ?_
    refine wq_cI (v_fail H O G) ?_
    rintro y200 h194 ⟨⟨s196, H197, O198, G199⟩, p195⟩
    exact wq_t p195.1 (wq_some (rI_i ⟨⟨_, H197, O198, G199⟩, p195.1⟩))
theorem v_bounded {d : Nat} {h : ah_H} {v1 : Int32} {v2 : Int32} {v3 : Int64} (H : RH m σ b h) (O : OKV σ) (G : sm (QR p) σ0 σ) (g0 : 9344 ≤ v2.toInt) (g1 : v2.toInt < 10100)  : wq (vc lim (d + 2) m_Ref_bounded [.inr (.inr (some m)), .inl v1, .inl v2, .inr (.inl v3)] h) (rI fun x h' => rvP m p σ0 b h' ∧ (x = 0 ∨ x = 1)) := by
  refine wq_eq e_Ref_bounded ?_
  refine wq_if _ (fun c1 => ?_) (fun c1 => ?_)
  · refine wq_if _ (fun c2 => ?_) (fun c2 => ?_)
    · refine wq_at H.1 ?_
      refine wq_cI (v_fail H O G) ?_
      rintro y9 h3 ⟨⟨s5, H6, O7, G8⟩, p4⟩
      exact wq_t p4.1 (wq_some (rI_i ⟨⟨_, H6, O7, G8⟩, p4.1⟩))
    · refine wq_at H.1 ?_
      refine wq_cI (v_numeral H O G (by omega) (by omega)) ?_
      rintro y16 h10 ⟨⟨s12, H13, O14, G15⟩, p11⟩
      exact wq_t p11 (wq_some (rI_i ⟨⟨_, H13, O14, G15⟩, p11⟩))
  · refine wq_at H.1 ?_
    refine wq_cI (v_fail H O G) ?_
    rintro y23 h17 ⟨⟨s19, H20, O21, G22⟩, p18⟩
    exact wq_t p18.1 (wq_some (rI_i ⟨⟨_, H20, O21, G22⟩, p18.1⟩))
theorem w_85_294 {d : Nat} : ∀ (M : Nat) (h1 : ah_H) (σ1 : rS) (v3 : Int32) (v5 : Int32) (v10 : Int32), (2147483647 - v10.toInt).toNat < M → 0 ≤ v10.toInt → 9344 ≤ v3.toInt → v3.toInt < 10100 → RH m σ1 b h1 → OKV σ1 → sm (QR p) σ0 σ1 → wq (ah_val lim ah_P (d + 2) 85 294 [some (.inr (.inr (some m))), none, none, some (.inl v3), none, some (.inl v5), none, none, none, none, some (.inl v10)] [] h1) (rI fun x h' => rvP m p σ0 b h' ∧ (x = 0 ∨ x = 1)) := by
  intro M
  induction M with
  | zero => intros; omega
  | succ M ih =>
      intro h1 σ1 v3 v5 v10 hM iv0 iv1 iv2 H O G
      refine wq_eq q_85_294 ?_
      refine wq_gR H.1 rfl ?_
      refine rv_1 H O (by omega) (by show _ < (10100 : Int); omega) (fun u1 q2 q3 => ?_)
      refine wq_if _ (fun c4 => ?_) (fun c4 => ?_)
      · refine wq_if _ (fun c5 => ?_) (fun c5 => ?_)
        · refine wq_at H.1 ?_
          refine wq_cV (v_setElement H O G (by omega) (by omega) (by have := lt_i c4; omega) (by have := lt_i c4; omega)) ?_
          rintro h6 ⟨s8, H9, O10, G11⟩
          exact ih _ _ _ _ _ (by have := lt_i c4; have : (1 : Int32).toInt = 1 := rfl; have := bd_i v10; have := bd_i (1 : Int32); have : (v10 + (1 : Int32)).toInt = v10.toInt + (1 : Int32).toInt := ad_i (by omega) (by omega); omega) (by have := lt_i c4; have : (1 : Int32).toInt = 1 := rfl; have := bd_i v10; have := bd_i (1 : Int32); have : (v10 + (1 : Int32)).toInt = v10.toInt + (1 : Int32).toInt := ad_i (by omega) (by omega); omega) (by omega) (by omega) H9 O10 G11
        · exact wq_t (Or.inr rfl) (wq_some (rI_i ⟨⟨_, H, O, G⟩, (Or.inr rfl)⟩))
      · exact wq_t (Or.inr rfl) (wq_some (rI_i ⟨⟨_, H, O, G⟩, (Or.inr rfl)⟩))
theorem u_85_261 {d : Nat} {h : ah_H} {v2 : Int32} {v3 : Int32} {v5 : Int32} {v6 : Int64} {v8 : Int64} {s1 : Int32} {s2 : Int32} (H : RH m σ b h) (O : OKV σ) (G : sm (QR p) σ0 σ) (iv0 : 9344 ≤ v3.toInt) (iv1 : v3.toInt < 10100) (iv2 : 9344 ≤ s1.toInt) (iv3 : s1.toInt < 10100) (iv4 : 0 ≤ s2.toInt) (iv5 : s2.toInt ≤ 64) : wq (ah_val lim ah_P (d + 2) 85 261 [some (.inr (.inr (some m))), none, some (.inl v2), some (.inl v3), none, some (.inl v5), some (.inr (.inl v6)), none, some (.inr (.inl v8)), none, none] [.inl s2, .inl s1, .inr (.inr (some m))] h) (rI fun x h' => rvP m p σ0 b h' ∧ (x = 0 ∨ x = 1)) := by
  refine wq_eq q_85_261 ?_
  refine wq_at H.1 ?_
  refine wq_cV (v_row H O G (by omega) (by omega) (by omega) (by omega)) ?_
  rintro h1 ⟨s3, H4, O5, G6⟩
  refine wq_if _ (fun c7 => ?_) (fun c7 => ?_)
  · exact w_85_294 _ _ _ _ _ _ (Nat.lt_succ_self _) (by have := congrArg Int32.toInt c7; have : (0 : Int32).toInt = 0 := rfl; omega) (by omega) (by omega) H4 O5 G6
  · refine wq_if _ (fun c8 => ?_) (fun c8 => ?_)
    · refine wq_at H4.1 ?_
      refine wq_cV (v_bits H4 O5 G6 (by omega) (by omega)) ?_
      rintro h9 ⟨s11, H12, O13, G14⟩
      exact w_85_294 _ _ _ _ _ _ (Nat.lt_succ_self _) (by have := ne_i c7; have := congrArg Int32.toInt c8; have : (0 : Int32).toInt = 0 := rfl; omega) (by omega) (by omega) H12 O13 G14
    · refine wq_at H4.1 ?_
      refine wq_cV (v_bits H4 O5 G6 (by omega) (by omega)) ?_
      rintro h15 ⟨s17, H18, O19, G20⟩
      exact w_85_294 _ _ _ _ _ _ (Nat.lt_succ_self _) (by have := ne_i c7; have := ne_i c8; have : (0 : Int32).toInt = 0 := rfl; omega) (by omega) (by omega) H18 O19 G20
theorem u_85_231 {d : Nat} {h : ah_H} {v2 : Int32} {v3 : Int32} {v4 : Int32} {v5 : Int32} {v6 : Int64} {s0 : Int64} (H : RH m σ b h) (O : OKV σ) (G : sm (QR p) σ0 σ) (iv0 : 9344 ≤ v3.toInt) (iv1 : v3.toInt < 10100) (iv2 : 9344 ≤ v4.toInt) (iv3 : v4.toInt < 10100) : wq (ah_val lim ah_P (d + 2) 85 231 [some (.inr (.inr (some m))), none, some (.inl v2), some (.inl v3), some (.inl v4), some (.inl v5), some (.inr (.inl v6)), none, none, none, none] [.inr (.inl s0)] h) (rI fun x h' => rvP m p σ0 b h' ∧ (x = 0 ∨ x = 1)) := by
  refine wq_eq q_85_231 ?_
  refine wq_gR H.1 rfl ?_
  refine rv_0 H O (by omega) (by show _ < (10100 : Int); omega) (fun u1 q2 q3 => ?_)
  refine wq_if _ (fun c4 => ?_) (fun c4 => ?_)
  · refine wq_gR H.1 rfl ?_
    refine rv_1 H O (by omega) (by show _ < (10100 : Int); omega) (fun u5 q6 q7 => ?_)
    exact u_85_261 H O G (by omega) (by omega) (by omega) (by omega) (by omega) (by omega)
  · refine wq_gR H.1 rfl ?_
    refine rv_1 H O (by omega) (by show _ < (10100 : Int); omega) (fun u8 q9 q10 => ?_)
    exact u_85_261 H O G (by omega) (by omega) (by omega) (by omega) (by omega) (by omega)
theorem u_85_202 {d : Nat} {h : ah_H} {v2 : Int32} {v3 : Int32} {v4 : Int32} {v5 : Int32} {s0 : Int64} (H : RH m σ b h) (O : OKV σ) (G : sm (QR p) σ0 σ) (iv0 : 9344 ≤ v3.toInt) (iv1 : v3.toInt < 10100) (iv2 : 9344 ≤ v4.toInt) (iv3 : v4.toInt < 10100) : wq (ah_val lim ah_P (d + 2) 85 202 [some (.inr (.inr (some m))), none, some (.inl v2), some (.inl v3), some (.inl v4), some (.inl v5), none, none, none, none, none] [.inr (.inl s0)] h) (rI fun x h' => rvP m p σ0 b h' ∧ (x = 0 ∨ x = 1)) := by
  refine wq_eq q_85_202 ?_
  refine wq_gR H.1 rfl ?_
  refine rv_0 H O (by omega) (by show _ < (10100 : Int); omega) (fun u1 q2 q3 => ?_)
  refine wq_if _ (fun c4 => ?_) (fun c4 => ?_)
  · refine wq_at H.1 ?_
    refine wq_cJ (v_numberOf H O G (by omega) (by omega)) ?_
    rintro j7 h5 ⟨rfl, p6⟩
    exact u_85_231 H O G (by omega) (by omega) (by omega) (by omega)
  · refine wq_gR H.1 rfl ?_
    refine ra_J H (by omega) rfl (by omega) (by show _ < (10100 : Int); omega) ?_
    exact u_85_231 H O G (by omega) (by omega) (by omega) (by omega)
theorem u_85_176 {d : Nat} {h : ah_H} {v2 : Int32} {v3 : Int32} {v4 : Int32} {s0 : Int32} (H : RH m σ b h) (O : OKV σ) (G : sm (QR p) σ0 σ) (iv0 : 9344 ≤ v3.toInt) (iv1 : v3.toInt < 10100) (iv2 : 9344 ≤ v4.toInt) (iv3 : v4.toInt < 10100) : wq (ah_val lim ah_P (d + 2) 85 176 [some (.inr (.inr (some m))), none, some (.inl v2), some (.inl v3), some (.inl v4), none, none, none, none, none, none] [.inl s0] h) (rI fun x h' => rvP m p σ0 b h' ∧ (x = 0 ∨ x = 1)) := by
  refine wq_eq q_85_176 ?_
  refine wq_gR H.1 rfl ?_
  refine rv_0 H O (by omega) (by show _ < (10100 : Int); omega) (fun u1 q2 q3 => ?_)
  refine wq_if _ (fun c4 => ?_) (fun c4 => ?_)
  · refine wq_at H.1 ?_
    refine wq_cJ (v_numberOf H O G (by omega) (by omega)) ?_
    rintro j7 h5 ⟨rfl, p6⟩
    exact u_85_202 H O G (by omega) (by omega) (by omega) (by omega)
  · refine wq_gR H.1 rfl ?_
    refine ra_J H (by omega) rfl (by omega) (by show _ < (10100 : Int); omega) ?_
    exact u_85_202 H O G (by omega) (by omega) (by omega) (by omega)
theorem v_sum {d : Nat} {h : ah_H} {v1 : Int32} {v2 : Int32} {v3 : Int32} {v4 : Int32} (H : RH m σ b h) (O : OKV σ) (G : sm (QR p) σ0 σ) (g0 : 9344 ≤ v3.toInt) (g1 : v3.toInt < 10100) (g2 : 9344 ≤ v4.toInt) (g3 : v4.toInt < 10100)  : wq (vc lim (d + 3) m_Ref_sum [.inr (.inr (some m)), .inl v1, .inl v2, .inl v3, .inl v4] h) (rI fun x h' => rvP m p σ0 b h' ∧ (x = 0 ∨ x = 1)) := by
  refine wq_eq e_Ref_sum ?_
  refine wq_gR H.1 rfl ?_
  refine rv_0 H O (by omega) (by show _ < (10100 : Int); omega) (fun u1 q2 q3 => ?_)
  refine wq_if _ (fun c4 => ?_) (fun c4 => ?_)
  · refine wq_at H.1 ?_
    refine wq_cI (v_fail H O G) ?_
    rintro y11 h5 ⟨⟨s7, H8, O9, G10⟩, p6⟩
    exact wq_t p6.1 (wq_some (rI_i ⟨⟨_, H8, O9, G10⟩, p6.1⟩))
  · refine wq_gR H.1 rfl ?_
    refine rv_0 H O (by omega) (by show _ < (10100 : Int); omega) (fun u12 q13 q14 => ?_)
    refine wq_if _ (fun c15 => ?_) (fun c15 => ?_)
    · refine wq_at H.1 ?_
      refine wq_cI (v_fail H O G) ?_
      rintro y22 h16 ⟨⟨s18, H19, O20, G21⟩, p17⟩
      exact wq_t p17.1 (wq_some (rI_i ⟨⟨_, H19, O20, G21⟩, p17.1⟩))
    · refine wq_gR H.1 rfl ?_
      refine rv_0 H O (by omega) (by show _ < (10100 : Int); omega) (fun u23 q24 q25 => ?_)
      refine wq_if _ (fun c26 => ?_) (fun c26 => ?_)
      · refine wq_gR H.1 rfl ?_
        refine rv_0 H O (by omega) (by show _ < (10100 : Int); omega) (fun u27 q28 q29 => ?_)
        refine wq_if _ (fun c30 => ?_) (fun c30 => ?_)
        · refine wq_if _ (fun c31 => ?_) (fun c31 => ?_)
          · refine wq_gR H.1 rfl ?_
            refine ra_J H (by omega) rfl (by omega) (by show _ < (10100 : Int); omega) ?_
            refine wq_gR H.1 rfl ?_
            refine ra_J H (by omega) rfl (by omega) (by show _ < (10100 : Int); omega) ?_
            refine wq_at H.1 ?_
            refine wq_cI (v_bounded H O G (by omega) (by omega)) ?_
            rintro y38 h32 ⟨⟨s34, H35, O36, G37⟩, p33⟩
            exact wq_t p33 (wq_some (rI_i ⟨⟨_, H35, O36, G37⟩, p33⟩))
          · refine wq_gR H.1 rfl ?_
            refine ra_J H (by omega) rfl (by omega) (by show _ < (10100 : Int); omega) ?_
            refine wq_gR H.1 rfl ?_
            refine ra_J H (by omega) rfl (by omega) (by show _ < (10100 : Int); omega) ?_
            refine wq_at H.1 ?_
            refine wq_cI (v_bounded H O G (by omega) (by omega)) ?_
            rintro y45 h39 ⟨⟨s41, H42, O43, G44⟩, p40⟩
            exact wq_t p40 (wq_some (rI_i ⟨⟨_, H42, O43, G44⟩, p40⟩))
        · refine wq_eq q_85_89 ?_
          refine wq_gR H.1 rfl ?_
          refine rv_0 H O (by omega) (by show _ < (10100 : Int); omega) (fun u46 q47 q48 => ?_)
          refine wq_if _ (fun c49 => ?_) (fun c49 => ?_)
          · refine wq_gR H.1 rfl ?_
            refine rv_0 H O (by omega) (by show _ < (10100 : Int); omega) (fun u50 q51 q52 => ?_)
            refine wq_if _ (fun c53 => ?_) (fun c53 => ?_)
            · refine wq_gR H.1 rfl ?_
              refine rv_1 H O (by omega) (by show _ < (10100 : Int); omega) (fun u54 q55 q56 => ?_)
              refine wq_gR H.1 rfl ?_
              refine rv_1 H O (by omega) (by show _ < (10100 : Int); omega) (fun u57 q58 q59 => ?_)
              refine wq_if _ (fun c60 => ?_) (fun c60 => ?_)
              · refine wq_eq q_85_133 ?_
                refine wq_gR H.1 rfl ?_
                refine rv_0 H O (by omega) (by show _ < (10100 : Int); omega) (fun u61 q62 q63 => ?_)
                refine wq_if _ (fun c64 => ?_) (fun c64 => ?_)
                · refine wq_at H.1 ?_
                  refine wq_cI (v_clear H O G (by omega) (by omega)) ?_
                  rintro y67 h65 ⟨rfl, p66⟩
                  refine wq_if _ (fun c68 => ?_) (fun c68 => ?_)
                  · exact u_85_176 H O G (by omega) (by omega) (by omega) (by omega)
                  · refine wq_eq q_85_151 ?_
                    refine wq_gR H.1 rfl ?_
                    refine rv_0 H O (by omega) (by show _ < (10100 : Int); omega) (fun u69 q70 q71 => ?_)
                    refine wq_if _ (fun c72 => ?_) (fun c72 => ?_)
                    · refine wq_at H.1 ?_
                      refine wq_cI (v_clear H O G (by omega) (by omega)) ?_
                      rintro y75 h73 ⟨rfl, p74⟩
                      refine wq_if _ (fun c76 => ?_) (fun c76 => ?_)
                      · exact u_85_176 H O G (by omega) (by omega) (by omega) (by omega)
                      · exact u_85_176 H O G (by omega) (by omega) (by omega) (by omega)
                    · exact u_85_176 H O G (by omega) (by omega) (by omega) (by omega)
                · refine wq_eq q_85_151 ?_
                  refine wq_gR H.1 rfl ?_
                  refine rv_0 H O (by omega) (by show _ < (10100 : Int); omega) (fun u77 q78 q79 => ?_)
                  refine wq_if _ (fun c80 => ?_) (fun c80 => ?_)
                  · refine wq_at H.1 ?_
                    refine wq_cI (v_clear H O G (by omega) (by omega)) ?_
                    rintro y83 h81 ⟨rfl, p82⟩
                    refine wq_if _ (fun c84 => ?_) (fun c84 => ?_)
                    · exact u_85_176 H O G (by omega) (by omega) (by omega) (by omega)
                    · exact u_85_176 H O G (by omega) (by omega) (by omega) (by omega)
                  · exact u_85_176 H O G (by omega) (by omega) (by omega) (by omega)
              · refine wq_at H.1 ?_
                refine wq_cI (v_fail H O G) ?_
                rintro y91 h85 ⟨⟨s87, H88, O89, G90⟩, p86⟩
                exact wq_t p86.1 (wq_some (rI_i ⟨⟨_, H88, O89, G90⟩, p86.1⟩))
            · refine wq_eq q_85_133 ?_
              refine wq_gR H.1 rfl ?_
              refine rv_0 H O (by omega) (by show _ < (10100 : Int); omega) (fun u92 q93 q94 => ?_)
              refine wq_if _ (fun c95 => ?_) (fun c95 => ?_)
              · refine wq_at H.1 ?_
                refine wq_cI (v_clear H O G (by omega) (by omega)) ?_
                rintro y98 h96 ⟨rfl, p97⟩
                refine wq_if _ (fun c99 => ?_) (fun c99 => ?_)
                · exact u_85_176 H O G (by omega) (by omega) (by omega) (by omega)
                · refine wq_eq q_85_151 ?_
                  refine wq_gR H.1 rfl ?_
                  refine rv_0 H O (by omega) (by show _ < (10100 : Int); omega) (fun u100 q101 q102 => ?_)
                  refine wq_if _ (fun c103 => ?_) (fun c103 => ?_)
                  · refine wq_at H.1 ?_
                    refine wq_cI (v_clear H O G (by omega) (by omega)) ?_
                    rintro y106 h104 ⟨rfl, p105⟩
                    refine wq_if _ (fun c107 => ?_) (fun c107 => ?_)
                    · exact u_85_176 H O G (by omega) (by omega) (by omega) (by omega)
                    · exact u_85_176 H O G (by omega) (by omega) (by omega) (by omega)
                  · exact u_85_176 H O G (by omega) (by omega) (by omega) (by omega)
              · refine wq_eq q_85_151 ?_
                refine wq_gR H.1 rfl ?_
                refine rv_0 H O (by omega) (by show _ < (10100 : Int); omega) (fun u108 q109 q110 => ?_)
                refine wq_if _ (fun c111 => ?_) (fun c111 => ?_)
                · refine wq_at H.1 ?_
                  refine wq_cI (v_clear H O G (by omega) (by omega)) ?_
                  rintro y114 h112 ⟨rfl, p113⟩
                  refine wq_if _ (fun c115 => ?_) (fun c115 => ?_)
                  · exact u_85_176 H O G (by omega) (by omega) (by omega) (by omega)
                  · exact u_85_176 H O G (by omega) (by omega) (by omega) (by omega)
                · exact u_85_176 H O G (by omega) (by omega) (by omega) (by omega)
          · refine wq_eq q_85_133 ?_
            refine wq_gR H.1 rfl ?_
            refine rv_0 H O (by omega) (by show _ < (10100 : Int); omega) (fun u116 q117 q118 => ?_)
            refine wq_if _ (fun c119 => ?_) (fun c119 => ?_)
            · refine wq_at H.1 ?_
              refine wq_cI (v_clear H O G (by omega) (by omega)) ?_
              rintro y122 h120 ⟨rfl, p121⟩
              refine wq_if _ (fun c123 => ?_) (fun c123 => ?_)
              · exact u_85_176 H O G (by omega) (by omega) (by omega) (by omega)
              · refine wq_eq q_85_151 ?_
                refine wq_gR H.1 rfl ?_
                refine rv_0 H O (by omega) (by show _ < (10100 : Int); omega) (fun u124 q125 q126 => ?_)
                refine wq_if _ (fun c127 => ?_) (fun c127 => ?_)
                · refine wq_at H.1 ?_
                  refine wq_cI (v_clear H O G (by omega) (by omega)) ?_
                  rintro y130 h128 ⟨rfl, p129⟩
                  refine wq_if _ (fun c131 => ?_) (fun c131 => ?_)
                  · exact u_85_176 H O G (by omega) (by omega) (by omega) (by omega)
                  · exact u_85_176 H O G (by omega) (by omega) (by omega) (by omega)
                · exact u_85_176 H O G (by omega) (by omega) (by omega) (by omega)
            · refine wq_eq q_85_151 ?_
              refine wq_gR H.1 rfl ?_
              refine rv_0 H O (by omega) (by show _ < (10100 : Int); omega) (fun u132 q133 q134 => ?_)
              refine wq_if _ (fun c135 => ?_) (fun c135 => ?_)
              · refine wq_at H.1 ?_
                refine wq_cI (v_clear H O G (by omega) (by omega)) ?_
                rintro y138 h136 ⟨rfl, p137⟩
                refine wq_if _ (fun c139 => ?_) (fun c139 => ?_)
                · exact u_85_176 H O G (by omega) (by omega) (by omega) (by omega)
                · exact u_85_176 H O G (by omega) (by omega) (by omega) (by omega)
              · exact u_85_176 H O G (by omega) (by omega) (by omega) (by omega)
      · refine wq_eq q_85_89 ?_
        refine wq_gR H.1 rfl ?_
        refine rv_0 H O (by omega) (by show _ < (10100 : Int); omega) (fun u140 q141 q142 => ?_)
        refine wq_if _ (fun c143 => ?_) (fun c143 => ?_)
        · refine wq_gR H.1 rfl ?_
          refine rv_0 H O (by omega) (by show _ < (10100 : Int); omega) (fun u144 q145 q146 => ?_)
          refine wq_if _ (fun c147 => ?_) (fun c147 => ?_)
          · refine wq_gR H.1 rfl ?_
            refine rv_1 H O (by omega) (by show _ < (10100 : Int); omega) (fun u148 q149 q150 => ?_)
            refine wq_gR H.1 rfl ?_
            refine rv_1 H O (by omega) (by show _ < (10100 : Int); omega) (fun u151 q152 q153 => ?_)
            refine wq_if _ (fun c154 => ?_) (fun c154 => ?_)
            · refine wq_eq q_85_133 ?_
              refine wq_gR H.1 rfl ?_
              refine rv_0 H O (by omega) (by show _ < (10100 : Int); omega) (fun u155 q156 q157 => ?_)
              refine wq_if _ (fun c158 => ?_) (fun c158 => ?_)
              · refine wq_at H.1 ?_
                refine wq_cI (v_clear H O G (by omega) (by omega)) ?_
                rintro y161 h159 ⟨rfl, p160⟩
                refine wq_if _ (fun c162 => ?_) (fun c162 => ?_)
                · exact u_85_176 H O G (by omega) (by omega) (by omega) (by omega)
                · refine wq_eq q_85_151 ?_
                  refine wq_gR H.1 rfl ?_
                  refine rv_0 H O (by omega) (by show _ < (10100 : Int); omega) (fun u163 q164 q165 => ?_)
                  refine wq_if _ (fun c166 => ?_) (fun c166 => ?_)
                  · refine wq_at H.1 ?_
                    refine wq_cI (v_clear H O G (by omega) (by omega)) ?_
                    rintro y169 h167 ⟨rfl, p168⟩
                    refine wq_if _ (fun c170 => ?_) (fun c170 => ?_)
                    · exact u_85_176 H O G (by omega) (by omega) (by omega) (by omega)
                    · exact u_85_176 H O G (by omega) (by omega) (by omega) (by omega)
                  · exact u_85_176 H O G (by omega) (by omega) (by omega) (by omega)
              · refine wq_eq q_85_151 ?_
                refine wq_gR H.1 rfl ?_
                refine rv_0 H O (by omega) (by show _ < (10100 : Int); omega) (fun u171 q172 q173 => ?_)
                refine wq_if _ (fun c174 => ?_) (fun c174 => ?_)
                · refine wq_at H.1 ?_
                  refine wq_cI (v_clear H O G (by omega) (by omega)) ?_
                  rintro y177 h175 ⟨rfl, p176⟩
                  refine wq_if _ (fun c178 => ?_) (fun c178 => ?_)
                  · exact u_85_176 H O G (by omega) (by omega) (by omega) (by omega)
                  · exact u_85_176 H O G (by omega) (by omega) (by omega) (by omega)
                · exact u_85_176 H O G (by omega) (by omega) (by omega) (by omega)
            · refine wq_at H.1 ?_
              refine wq_cI (v_fail H O G) ?_
              rintro y185 h179 ⟨⟨s181, H182, O183, G184⟩, p180⟩
              exact wq_t p180.1 (wq_some (rI_i ⟨⟨_, H182, O183, G184⟩, p180.1⟩))
          · refine wq_eq q_85_133 ?_
            refine wq_gR H.1 rfl ?_
            refine rv_0 H O (by omega) (by show _ < (10100 : Int); omega) (fun u186 q187 q188 => ?_)
            refine wq_if _ (fun c189 => ?_) (fun c189 => ?_)
            · refine wq_at H.1 ?_
              refine wq_cI (v_clear H O G (by omega) (by omega)) ?_
              rintro y192 h190 ⟨rfl, p191⟩
              refine wq_if _ (fun c193 => ?_) (fun c193 => ?_)
              · exact u_85_176 H O G (by omega) (by omega) (by omega) (by omega)
              · refine wq_eq q_85_151 ?_
                refine wq_gR H.1 rfl ?_
                refine rv_0 H O (by omega) (by show _ < (10100 : Int); omega) (fun u194 q195 q196 => ?_)
                refine wq_if _ (fun c197 => ?_) (fun c197 => ?_)
                · refine wq_at H.1 ?_
                  refine wq_cI (v_clear H O G (by omega) (by omega)) ?_
                  rintro y200 h198 ⟨rfl, p199⟩
                  refine wq_if _ (fun c201 => ?_) (fun c201 => ?_)
                  · exact u_85_176 H O G (by omega) (by omega) (by omega) (by omega)
                  · exact u_85_176 H O G (by omega) (by omega) (by omega) (by omega)
                · exact u_85_176 H O G (by omega) (by omega) (by omega) (by omega)
            · refine wq_eq q_85_151 ?_
              refine wq_gR H.1 rfl ?_
              refine rv_0 H O (by omega) (by show _ < (10100 : Int); omega) (fun u202 q203 q204 => ?_)
              refine wq_if _ (fun c205 => ?_) (fun c205 => ?_)
              · refine wq_at H.1 ?_
                refine wq_cI (v_clear H O G (by omega) (by omega)) ?_
                rintro y208 h206 ⟨rfl, p207⟩
                refine wq_if _ (fun c209 => ?_) (fun c209 => ?_)
                · exact u_85_176 H O G (by omega) (by omega) (by omega) (by omega)
                · exact u_85_176 H O G (by omega) (by omega) (by omega) (by omega)
              · exact u_85_176 H O G (by omega) (by omega) (by omega) (by omega)
        · refine wq_eq q_85_133 ?_
          refine wq_gR H.1 rfl ?_
          refine rv_0 H O (by omega) (by show _ < (10100 : Int); omega) (fun u210 q211 q212 => ?_)
          refine wq_if _ (fun c213 => ?_) (fun c213 => ?_)
          · refine wq_at H.1 ?_
            refine wq_cI (v_clear H O G (by omega) (by omega)) ?_
            rintro y216 h214 ⟨rfl, p215⟩
            refine wq_if _ (fun c217 => ?_) (fun c217 => ?_)
            · exact u_85_176 H O G (by omega) (by omega) (by omega) (by omega)
            · refine wq_eq q_85_151 ?_
              refine wq_gR H.1 rfl ?_
              refine rv_0 H O (by omega) (by show _ < (10100 : Int); omega) (fun u218 q219 q220 => ?_)
              refine wq_if _ (fun c221 => ?_) (fun c221 => ?_)
              · refine wq_at H.1 ?_
                refine wq_cI (v_clear H O G (by omega) (by omega)) ?_
                rintro y224 h222 ⟨rfl, p223⟩
                refine wq_if _ (fun c225 => ?_) (fun c225 => ?_)
                · exact u_85_176 H O G (by omega) (by omega) (by omega) (by omega)
                · exact u_85_176 H O G (by omega) (by omega) (by omega) (by omega)
              · exact u_85_176 H O G (by omega) (by omega) (by omega) (by omega)
          · refine wq_eq q_85_151 ?_
            refine wq_gR H.1 rfl ?_
            refine rv_0 H O (by omega) (by show _ < (10100 : Int); omega) (fun u226 q227 q228 => ?_)
            refine wq_if _ (fun c229 => ?_) (fun c229 => ?_)
            · refine wq_at H.1 ?_
              refine wq_cI (v_clear H O G (by omega) (by omega)) ?_
              rintro y232 h230 ⟨rfl, p231⟩
              refine wq_if _ (fun c233 => ?_) (fun c233 => ?_)
              · exact u_85_176 H O G (by omega) (by omega) (by omega) (by omega)
              · exact u_85_176 H O G (by omega) (by omega) (by omega) (by omega)
            · exact u_85_176 H O G (by omega) (by omega) (by omega) (by omega)
theorem v_reckon {d : Nat} {h : ah_H} {v1 : Int32} {v2 : Int32} {v3 : Int32} {v4 : Int32} (H : RH m σ b h) (O : OKV σ) (G : sm (QR p) σ0 σ) (g0 : 9344 ≤ v3.toInt) (g1 : v3.toInt < 10100) (g2 : 9344 ≤ v4.toInt) (g3 : v4.toInt < 10100)  : wq (vc lim (d + 3) m_Ref_reckon [.inr (.inr (some m)), .inl v1, .inl v2, .inl v3, .inl v4] h) (rI fun x h' => rvP m p σ0 b h' ∧ (x = 0 ∨ x = 1)) := by
  refine wq_eq e_Ref_reckon ?_
  refine wq_gR H.1 rfl ?_
  refine rv_0 H O (by omega) (by show _ < (10100 : Int); omega) (fun u1 q2 q3 => ?_)
  refine wq_if _ (fun c4 => ?_) (fun c4 => ?_)
  · refine wq_gR H.1 rfl ?_
    refine rv_0 H O (by omega) (by show _ < (10100 : Int); omega) (fun u5 q6 q7 => ?_)
    refine wq_if _ (fun c8 => ?_) (fun c8 => ?_)
    · refine wq_gR H.1 rfl ?_
      refine ra_J H (by omega) rfl (by omega) (by show _ < (10100 : Int); omega) ?_
      refine wq_gR H.1 rfl ?_
      refine ra_J H (by omega) rfl (by omega) (by show _ < (10100 : Int); omega) ?_
      refine wq_if _ (fun c9 => ?_) (fun c9 => ?_)
      · refine wq_at H.1 ?_
        refine wq_cI (v_bounded H O G (by omega) (by omega)) ?_
        rintro y16 h10 ⟨⟨s12, H13, O14, G15⟩, p11⟩
        exact wq_t p11 (wq_some (rI_i ⟨⟨_, H13, O14, G15⟩, p11⟩))
      · refine wq_if _ (fun c17 => ?_) (fun c17 => ?_)
        · refine wq_at H.1 ?_
          refine wq_cI (v_fail H O G) ?_
          rintro y24 h18 ⟨⟨s20, H21, O22, G23⟩, p19⟩
          exact wq_t p19.1 (wq_some (rI_i ⟨⟨_, H21, O22, G23⟩, p19.1⟩))
        · refine wq_f (nz_J c17) ?_
          refine wq_if _ (fun c25 => ?_) (fun c25 => ?_)
          · refine wq_at H.1 ?_
            refine wq_cI (v_bounded H O G (by omega) (by omega)) ?_
            rintro y32 h26 ⟨⟨s28, H29, O30, G31⟩, p27⟩
            exact wq_t p27 (wq_some (rI_i ⟨⟨_, H29, O30, G31⟩, p27⟩))
          · refine wq_if _ (fun c33 => ?_) (fun c33 => ?_)
            · refine wq_if _ (fun c34 => ?_) (fun c34 => ?_)
              · refine wq_at H.1 ?_
                refine wq_cI (v_numeral H O G (by omega) (by omega)) ?_
                rintro y41 h35 ⟨⟨s37, H38, O39, G40⟩, p36⟩
                exact wq_t p36 (wq_some (rI_i ⟨⟨_, H38, O39, G40⟩, p36⟩))
              · refine wq_if _ (fun c42 => ?_) (fun c42 => ?_)
                · refine wq_eq q_87_137 ?_
                  refine wq_if _ (fun c43 => ?_) (fun c43 => ?_)
                  · refine wq_t (by decide) ?_
                    refine wq_at H.1 ?_
                    refine wq_cI (v_numeral H O G (by omega) (by omega)) ?_
                    rintro y50 h44 ⟨⟨s46, H47, O48, G49⟩, p45⟩
                    exact wq_t p45 (wq_some (rI_i ⟨⟨_, H47, O48, G49⟩, p45⟩))
                  · refine wq_f (by decide) ?_
                    refine wq_at H.1 ?_
                    refine wq_cI (v_numeral H O G (by omega) (by omega)) ?_
                    rintro y57 h51 ⟨⟨s53, H54, O55, G56⟩, p52⟩
                    exact wq_t p52 (wq_some (rI_i ⟨⟨_, H54, O55, G56⟩, p52⟩))
                · refine wq_eq q_87_137 ?_
                  refine wq_if _ (fun c58 => ?_) (fun c58 => ?_)
                  · refine wq_f (by decide) ?_
                    refine wq_at H.1 ?_
                    refine wq_cI (v_numeral H O G (by omega) (by omega)) ?_
                    rintro y65 h59 ⟨⟨s61, H62, O63, G64⟩, p60⟩
                    exact wq_t p60 (wq_some (rI_i ⟨⟨_, H62, O63, G64⟩, p60⟩))
                  · refine wq_t (by decide) ?_
                    refine wq_at H.1 ?_
                    refine wq_cI (v_numeral H O G (by omega) (by omega)) ?_
                    rintro y72 h66 ⟨⟨s68, H69, O70, G71⟩, p67⟩
                    exact wq_t p67 (wq_some (rI_i ⟨⟨_, H69, O70, G71⟩, p67⟩))
            · refine wq_at H.1 ?_
              refine wq_cI (v_numeral H O G (by omega) (by omega)) ?_
              rintro y79 h73 ⟨⟨s75, H76, O77, G78⟩, p74⟩
              exact wq_t p74 (wq_some (rI_i ⟨⟨_, H76, O77, G78⟩, p74⟩))
    · refine wq_at H.1 ?_
      refine wq_cI (v_fail H O G) ?_
      rintro y86 h80 ⟨⟨s82, H83, O84, G85⟩, p81⟩
      exact wq_t p81.1 (wq_some (rI_i ⟨⟨_, H83, O84, G85⟩, p81.1⟩))
  · refine wq_at H.1 ?_
    refine wq_cI (v_fail H O G) ?_
    rintro y93 h87 ⟨⟨s89, H90, O91, G92⟩, p88⟩
    exact wq_t p88.1 (wq_some (rI_i ⟨⟨_, H90, O91, G92⟩, p88.1⟩))
theorem w_88_62 {d : Nat} : ∀ (M : Nat) (h1 : ah_H) (σ1 : rS) (v3 : Int32) (v4 : Int32) (v5 : Int64) (v7 : Int32), (2147483647 - v7.toInt).toNat < M → 0 ≤ v7.toInt → 9344 ≤ v3.toInt → v3.toInt < 10100 → 9344 ≤ v4.toInt → v4.toInt < 10100 → RH m σ1 b h1 → OKV σ1 → sm (QR p) σ0 σ1 → wq (ah_val lim ah_P (d + 2) 88 62 [some (.inr (.inr (some m))), none, none, some (.inl v3), some (.inl v4), some (.inr (.inl v5)), none, some (.inl v7), none, none] [] h1) (rI fun x h' => rvP m p σ0 b h' ∧ (x = 0 ∨ x = 1)) := by
  intro M
  induction M with
  | zero => intros; omega
  | succ M ih =>
      intro h1 σ1 v3 v4 v5 v7 hM iv0 iv1 iv2 iv3 iv4 H O G
      refine wq_eq q_88_62 ?_
      refine wq_gR H.1 rfl ?_
      refine rv_1 H O (by omega) (by show _ < (10100 : Int); omega) (fun u1 q2 q3 => ?_)
      refine wq_if _ (fun c4 => ?_) (fun c4 => ?_)
      · refine wq_if _ (fun c5 => ?_) (fun c5 => ?_)
        · refine wq_at H.1 ?_
          refine wq_cV (v_setElement H O G (by omega) (by omega) (by have := lt_i c4; omega) (by have := lt_i c4; omega)) ?_
          rintro h6 ⟨s8, H9, O10, G11⟩
          exact ih _ _ _ _ _ _ (by have := lt_i c4; have : (1 : Int32).toInt = 1 := rfl; have := bd_i v7; have := bd_i (1 : Int32); have : (v7 + (1 : Int32)).toInt = v7.toInt + (1 : Int32).toInt := ad_i (by omega) (by omega); omega) (by have := lt_i c4; have : (1 : Int32).toInt = 1 := rfl; have := bd_i v7; have := bd_i (1 : Int32); have : (v7 + (1 : Int32)).toInt = v7.toInt + (1 : Int32).toInt := ad_i (by omega) (by omega); omega) (by omega) (by omega) (by omega) (by omega) H9 O10 G11
        · refine wq_gR H.1 rfl ?_
          refine rv_1 H O (by omega) (by show _ < (10100 : Int); omega) (fun u12 q13 q14 => ?_)
          refine wq_if _ (fun c15 => ?_) (fun c15 => ?_)
          · refine wq_at H.1 ?_
            refine wq_cI (v_element H O G (by omega) (by omega) (by have := lt_i c4; have := l2i_ok c5 c15 (by omega); omega) (by have := lt_i c4; have := l2i_ok c5 c15 (by omega); omega)) ?_
            rintro y18 h16 ⟨rfl, p17⟩
            refine wq_at H.1 ?_
            refine wq_cV (v_setElement H O G (by omega) (by omega) (by have := lt_i c4; omega) (by have := lt_i c4; omega)) ?_
            rintro h19 ⟨s21, H22, O23, G24⟩
            exact ih _ _ _ _ _ _ (by have := lt_i c4; have : (1 : Int32).toInt = 1 := rfl; have := bd_i v7; have := bd_i (1 : Int32); have : (v7 + (1 : Int32)).toInt = v7.toInt + (1 : Int32).toInt := ad_i (by omega) (by omega); omega) (by have := lt_i c4; have : (1 : Int32).toInt = 1 := rfl; have := bd_i v7; have := bd_i (1 : Int32); have : (v7 + (1 : Int32)).toInt = v7.toInt + (1 : Int32).toInt := ad_i (by omega) (by omega); omega) (by omega) (by omega) (by omega) (by omega) H22 O23 G24
          · refine wq_at H.1 ?_
            refine wq_cV (v_setElement H O G (by omega) (by omega) (by have := lt_i c4; omega) (by have := lt_i c4; omega)) ?_
            rintro h25 ⟨s27, H28, O29, G30⟩
            exact ih _ _ _ _ _ _ (by have := lt_i c4; have : (1 : Int32).toInt = 1 := rfl; have := bd_i v7; have := bd_i (1 : Int32); have : (v7 + (1 : Int32)).toInt = v7.toInt + (1 : Int32).toInt := ad_i (by omega) (by omega); omega) (by have := lt_i c4; have : (1 : Int32).toInt = 1 := rfl; have := bd_i v7; have := bd_i (1 : Int32); have : (v7 + (1 : Int32)).toInt = v7.toInt + (1 : Int32).toInt := ad_i (by omega) (by omega); omega) (by omega) (by omega) (by omega) (by omega) H28 O29 G30
      · exact wq_t (Or.inr rfl) (wq_some (rI_i ⟨⟨_, H, O, G⟩, (Or.inr rfl)⟩))
theorem v_shift {d : Nat} {h : ah_H} {v1 : Int32} {v2 : Int32} {v3 : Int32} {v4 : Int32} (H : RH m σ b h) (O : OKV σ) (G : sm (QR p) σ0 σ) (g0 : 9344 ≤ v3.toInt) (g1 : v3.toInt < 10100) (g2 : 9344 ≤ v4.toInt) (g3 : v4.toInt < 10100)  : wq (vc lim (d + 3) m_Ref_shift [.inr (.inr (some m)), .inl v1, .inl v2, .inl v3, .inl v4] h) (rI fun x h' => rvP m p σ0 b h' ∧ (x = 0 ∨ x = 1)) := by
  refine wq_eq e_Ref_shift ?_
  refine wq_gR H.1 rfl ?_
  refine rv_0 H O (by omega) (by show _ < (10100 : Int); omega) (fun u1 q2 q3 => ?_)
  refine wq_if _ (fun c4 => ?_) (fun c4 => ?_)
  · refine wq_gR H.1 rfl ?_
    refine rv_0 H O (by omega) (by show _ < (10100 : Int); omega) (fun u5 q6 q7 => ?_)
    refine wq_if _ (fun c8 => ?_) (fun c8 => ?_)
    · refine wq_if _ (fun c9 => ?_) (fun c9 => ?_)
      · refine wq_gR H.1 rfl ?_
        refine ra_J H (by omega) rfl (by omega) (by show _ < (10100 : Int); omega) ?_
        refine wq_at H.1 ?_
        refine wq_cV (v_copy H O G (by omega) (by omega) (by omega) (by omega)) ?_
        rintro h10 ⟨s12, H13, O14, G15⟩
        exact w_88_62 _ _ _ _ _ _ _ (Nat.lt_succ_self _) (by have := congrArg Int32.toInt c4; have := congrArg Int32.toInt c8; have := congrArg Int32.toInt c9; have : (0 : Int32).toInt = 0 := rfl; have : (1 : Int32).toInt = 1 := rfl; have : (2 : Int32).toInt = 2 := rfl; omega) (by omega) (by omega) (by omega) (by omega) H13 O14 G15
      · refine wq_gR H.1 rfl ?_
        refine ra_J H (by omega) rfl (by omega) (by show _ < (10100 : Int); omega) ?_
        refine wq_at H.1 ?_
        refine wq_cV (v_copy H O G (by omega) (by omega) (by omega) (by omega)) ?_
        rintro h16 ⟨s18, H19, O20, G21⟩
        exact w_88_62 _ _ _ _ _ _ _ (Nat.lt_succ_self _) (by have := congrArg Int32.toInt c4; have := congrArg Int32.toInt c8; have := ne_i c9; have : (0 : Int32).toInt = 0 := rfl; have : (1 : Int32).toInt = 1 := rfl; have : (2 : Int32).toInt = 2 := rfl; omega) (by omega) (by omega) (by omega) (by omega) H19 O20 G21
    · refine wq_at H.1 ?_
      refine wq_cI (v_fail H O G) ?_
      rintro y28 h22 ⟨⟨s24, H25, O26, G27⟩, p23⟩
      exact wq_t p23.1 (wq_some (rI_i ⟨⟨_, H25, O26, G27⟩, p23.1⟩))
  · refine wq_at H.1 ?_
    refine wq_cI (v_fail H O G) ?_
    rintro y35 h29 ⟨⟨s31, H32, O33, G34⟩, p30⟩
    exact wq_t p30.1 (wq_some (rI_i ⟨⟨_, H32, O33, G34⟩, p30.1⟩))
theorem v_findElement {d : Nat} {h : ah_H} {v1 : Int32} {v2 : Int32} (H : RH m σ b h) (O : OKV σ) (G : sm (QR p) σ0 σ) (g0 : 9344 ≤ v2.toInt) (g1 : v2.toInt < 10099)  : wq (vc lim (d + 2) m_Ref_findElement [.inr (.inr (some m)), .inl v1, .inl v2] h) (rI fun x h' => rvP m p σ0 b h' ∧ (x = 0 ∨ x = 1)) := by
  refine wq_eq e_Ref_findElement ?_
  refine wq_gR H.1 rfl ?_
  refine rv_0 H O (by have : (1 : Int32).toInt = 1 := rfl; have := bd_i v2; have := bd_i (1 : Int32); have : (v2 + (1 : Int32)).toInt = v2.toInt + (1 : Int32).toInt := ad_i (by omega) (by omega); omega) (by have : (1 : Int32).toInt = 1 := rfl; have := bd_i v2; have := bd_i (1 : Int32); have : (v2 + (1 : Int32)).toInt = v2.toInt + (1 : Int32).toInt := ad_i (by omega) (by omega); show _ < (10100 : Int); omega) (fun u1 q2 q3 => ?_)
  refine wq_if _ (fun c4 => ?_) (fun c4 => ?_)
  · refine wq_gR H.1 rfl ?_
    refine ra_J H (by omega) rfl (by have : (1 : Int32).toInt = 1 := rfl; have := bd_i v2; have := bd_i (1 : Int32); have : (v2 + (1 : Int32)).toInt = v2.toInt + (1 : Int32).toInt := ad_i (by omega) (by omega); omega) (by have : (1 : Int32).toInt = 1 := rfl; have := bd_i v2; have := bd_i (1 : Int32); have : (v2 + (1 : Int32)).toInt = v2.toInt + (1 : Int32).toInt := ad_i (by omega) (by omega); show _ < (10100 : Int); omega) ?_
    refine wq_if _ (fun c5 => ?_) (fun c5 => ?_)
    · refine wq_at H.1 ?_
      refine wq_cI (v_fail H O G) ?_
      rintro y12 h6 ⟨⟨s8, H9, O10, G11⟩, p7⟩
      exact wq_t p7.1 (wq_some (rI_i ⟨⟨_, H9, O10, G11⟩, p7.1⟩))
    · refine wq_gR H.1 rfl ?_
      refine ra_J H (by omega) rfl (by have : (1 : Int32).toInt = 1 := rfl; have := bd_i v2; have := bd_i (1 : Int32); have : (v2 + (1 : Int32)).toInt = v2.toInt + (1 : Int32).toInt := ad_i (by omega) (by omega); omega) (by have : (1 : Int32).toInt = 1 := rfl; have := bd_i v2; have := bd_i (1 : Int32); have : (v2 + (1 : Int32)).toInt = v2.toInt + (1 : Int32).toInt := ad_i (by omega) (by omega); show _ < (10100 : Int); omega) ?_
      refine wq_gR H.1 rfl ?_
      refine rv_1 H O (by omega) (by show _ < (10100 : Int); omega) (fun u13 q14 q15 => ?_)
      refine wq_if _ (fun c16 => ?_) (fun c16 => ?_)
      · refine wq_gR H.1 rfl ?_
        refine ra_J H (by omega) rfl (by have : (1 : Int32).toInt = 1 := rfl; have := bd_i v2; have := bd_i (1 : Int32); have : (v2 + (1 : Int32)).toInt = v2.toInt + (1 : Int32).toInt := ad_i (by omega) (by omega); omega) (by have : (1 : Int32).toInt = 1 := rfl; have := bd_i v2; have := bd_i (1 : Int32); have : (v2 + (1 : Int32)).toInt = v2.toInt + (1 : Int32).toInt := ad_i (by omega) (by omega); show _ < (10100 : Int); omega) ?_
        refine wq_at H.1 ?_
        refine wq_cI (v_element H O G (by omega) (by omega) (by have : (1 : Int32).toInt = 1 := rfl; have := l2i_ok c5 c16 (by omega); omega) (by have : (1 : Int32).toInt = 1 := rfl; have := l2i_ok c5 c16 (by omega); omega)) ?_
        rintro y19 h17 ⟨rfl, p18⟩
        refine wq_at H.1 ?_
        refine wq_cI (v_logic H O G (by omega) (by omega)) ?_
        rintro y26 h20 ⟨⟨s22, H23, O24, G25⟩, p21⟩
        exact wq_t p21 (wq_some (rI_i ⟨⟨_, H23, O24, G25⟩, p21⟩))
      · refine wq_at H.1 ?_
        refine wq_cI (v_fail H O G) ?_
        rintro y33 h27 ⟨⟨s29, H30, O31, G32⟩, p28⟩
        exact wq_t p28.1 (wq_some (rI_i ⟨⟨_, H30, O31, G32⟩, p28.1⟩))
  · refine wq_at H.1 ?_
    refine wq_cI (v_fail H O G) ?_
    rintro y40 h34 ⟨⟨s36, H37, O38, G39⟩, p35⟩
    exact wq_t p35.1 (wq_some (rI_i ⟨⟨_, H37, O38, G39⟩, p35.1⟩))
end RfA
