/-! THE REFERENCE: rows are joined, by program (wip/tools/refgen.py) -/
section RfB
variable {lim : Nat × Nat} {m p : Nat} {σ σ0 : rS} {b : ah_H}
theorem w_86_167 {d : Nat} : ∀ (M : Nat) (h1 : ah_H) (σ1 : rS) (v2 : Int32) (v3 : Int32) (v4 : Int32) (v5 : Int32) (v6 : Int32), (2147483647 - v6.toInt).toNat < M → 0 ≤ v6.toInt → 0 ≤ v4.toInt → 0 ≤ v5.toInt → v4.toInt + v5.toInt ≤ 64 → 9344 ≤ v2.toInt → v2.toInt < 10100 → 9344 ≤ v3.toInt → v3.toInt < 10100 → RH m σ1 b h1 → OKV σ1 → sm (QR p) σ0 σ1 → wq (ah_val lim ah_P (d + 1) 86 167 [some (.inr (.inr (some m))), none, some (.inl v2), some (.inl v3), some (.inl v4), some (.inl v5), some (.inl v6)] [] h1) (rI fun x h' => rvP m p σ0 b h' ∧ (x = 0 ∨ x = 1)) := by
  intro M
  induction M with
  | zero => intros; omega
  | succ M ih =>
      intro h1 σ1 v2 v3 v4 v5 v6 hM iv0 iv1 iv2 iv3 iv4 iv5 iv6 iv7 H O G
      refine wq_eq q_86_167 ?_
      refine wq_if _ (fun c1 => ?_) (fun c1 => ?_)
      · refine wq_at H.1 ?_
        refine wq_cI (v_element H O G (by omega) (by omega) (by have := lt_i c1; omega) (by have := lt_i c1; omega)) ?_
        rintro y4 h2 ⟨rfl, p3⟩
        refine wq_at H.1 ?_
        refine wq_cV (v_setElement H O G (by omega) (by omega) (by have := lt_i c1; omega) (by have := lt_i c1; omega)) ?_
        rintro h5 ⟨s7, H8, O9, G10⟩
        exact ih _ _ _ _ _ _ _ (by have := lt_i c1; have : (1 : Int32).toInt = 1 := rfl; have := bd_i v6; have := bd_i (1 : Int32); have : (v6 + (1 : Int32)).toInt = v6.toInt + (1 : Int32).toInt := ad_i (by omega) (by omega); omega) (by have := lt_i c1; have : (1 : Int32).toInt = 1 := rfl; have := bd_i v6; have := bd_i (1 : Int32); have : (v6 + (1 : Int32)).toInt = v6.toInt + (1 : Int32).toInt := ad_i (by omega) (by omega); omega) (by omega) (by have := lt_i c1; omega) (by have := lt_i c1; omega) (by omega) (by omega) (by omega) (by omega) H8 O9 G10
      · refine wq_at H.1 ?_
        refine wq_cV (v_row H O G (by omega) (by omega) (by have := nlt_i c1; have := bd_i v4; have := bd_i v5; have : (v4 + v5).toInt = v4.toInt + v5.toInt := ad_i (by omega) (by omega); omega) (by have := nlt_i c1; have := bd_i v4; have := bd_i v5; have : (v4 + v5).toInt = v4.toInt + v5.toInt := ad_i (by omega) (by omega); omega)) ?_
        rintro h11 ⟨s13, H14, O15, G16⟩
        exact wq_t (Or.inr rfl) (wq_some (rI_i ⟨⟨_, H14, O15, G16⟩, (Or.inr rfl)⟩))
theorem w_86_136 {d : Nat} : ∀ (M : Nat) (h1 : ah_H) (σ1 : rS) (v2 : Int32) (v3 : Int32) (v4 : Int32) (v5 : Int32) (v6 : Int32), (v6.toInt + 1).toNat < M → 0 ≤ v6.toInt + 1 → v6.toInt < v4.toInt → 0 ≤ v4.toInt → 0 ≤ v5.toInt → v4.toInt + v5.toInt ≤ 64 → 9344 ≤ v2.toInt → v2.toInt < 10100 → 9344 ≤ v3.toInt → v3.toInt < 10100 → RH m σ1 b h1 → OKV σ1 → sm (QR p) σ0 σ1 → wq (ah_val lim ah_P (d + 1) 86 136 [some (.inr (.inr (some m))), none, some (.inl v2), some (.inl v3), some (.inl v4), some (.inl v5), some (.inl v6)] [] h1) (rI fun x h' => rvP m p σ0 b h' ∧ (x = 0 ∨ x = 1)) := by
  intro M
  induction M with
  | zero => intros; omega
  | succ M ih =>
      intro h1 σ1 v2 v3 v4 v5 v6 hM iv0 iv1 iv2 iv3 iv4 iv5 iv6 iv7 iv8 H O G
      refine wq_eq q_86_136 ?_
      refine wq_if _ (fun c1 => ?_) (fun c1 => ?_)
      · exact w_86_167 _ _ _ _ _ _ _ _ (Nat.lt_succ_self _) (by have := lt_i c1; have : (0 : Int32).toInt = 0 := rfl; omega) (by omega) (by omega) (by omega) (by omega) (by omega) (by omega) (by omega) H O G
      · refine wq_at H.1 ?_
        refine wq_cI (v_element H O G (by omega) (by omega) (by have := nlt_i c1; have : (0 : Int32).toInt = 0 := rfl; omega) (by have := nlt_i c1; have : (0 : Int32).toInt = 0 := rfl; omega)) ?_
        rintro y4 h2 ⟨rfl, p3⟩
        refine wq_at H.1 ?_
        refine wq_cV (v_setElement H O G (by omega) (by omega) (by have := nlt_i c1; have : (0 : Int32).toInt = 0 := rfl; have := bd_i v5; have := bd_i v6; have : (v5 + v6).toInt = v5.toInt + v6.toInt := ad_i (by omega) (by omega); omega) (by have := nlt_i c1; have : (0 : Int32).toInt = 0 := rfl; have := bd_i v5; have := bd_i v6; have : (v5 + v6).toInt = v5.toInt + v6.toInt := ad_i (by omega) (by omega); omega)) ?_
        rintro h5 ⟨s7, H8, O9, G10⟩
        exact ih _ _ _ _ _ _ _ (by have := nlt_i c1; have : (0 : Int32).toInt = 0 := rfl; have := dec_i (v := v6) (by omega); omega) (by have := nlt_i c1; have : (0 : Int32).toInt = 0 := rfl; have := dec_i (v := v6) (by omega); omega) (by have := nlt_i c1; have : (0 : Int32).toInt = 0 := rfl; have := dec_i (v := v6) (by omega); omega) (by omega) (by omega) (by omega) (by omega) (by omega) (by omega) (by omega) H8 O9 G10
theorem u_86_108 {d : Nat} {h : ah_H} {v2 : Int32} {v3 : Int32} {v4 : Int32} {v5 : Int32} (H : RH m σ b h) (O : OKV σ) (G : sm (QR p) σ0 σ) (iv0 : 0 ≤ v4.toInt) (iv1 : 0 ≤ v5.toInt) (iv2 : v4.toInt + v5.toInt ≤ 64) (iv3 : 9344 ≤ v2.toInt) (iv4 : v2.toInt < 10100) (iv5 : 9344 ≤ v3.toInt) (iv6 : v3.toInt < 10100) : wq (ah_val lim ah_P (d + 1) 86 108 [some (.inr (.inr (some m))), none, some (.inl v2), some (.inl v3), some (.inl v4), some (.inl v5), none] [] h) (rI fun x h' => rvP m p σ0 b h' ∧ (x = 0 ∨ x = 1)) := by
  refine wq_eq q_86_108 ?_
  refine wq_gR H.1 rfl ?_
  refine rv_0 H O (by omega) (by show _ < (10100 : Int); omega) (fun u1 q2 q3 => ?_)
  refine wq_if _ (fun c4 => ?_) (fun c4 => ?_)
  · refine wq_gR H.1 rfl ?_
    refine ra_J H (by omega) rfl (by omega) (by show _ < (10100 : Int); omega) ?_
    refine wq_at H.1 ?_
    refine wq_cV (v_setElement H O G (by omega) (by omega) (by have := congrArg Int32.toInt c4; have : (0 : Int32).toInt = 0 := rfl; omega) (by have := congrArg Int32.toInt c4; have : (0 : Int32).toInt = 0 := rfl; omega)) ?_
    rintro h5 ⟨s7, H8, O9, G10⟩
    exact w_86_136 _ _ _ _ _ _ _ _ (Nat.lt_succ_self _) (by have : (1 : Int32).toInt = 1 := rfl; have := bd_i v4; have := bd_i (1 : Int32); have : (v4 - (1 : Int32)).toInt = v4.toInt - (1 : Int32).toInt := sb_i (by omega) (by omega); omega) (by have : (1 : Int32).toInt = 1 := rfl; have := bd_i v4; have := bd_i (1 : Int32); have : (v4 - (1 : Int32)).toInt = v4.toInt - (1 : Int32).toInt := sb_i (by omega) (by omega); omega) (by omega) (by omega) (by omega) (by omega) (by omega) (by omega) (by omega) H8 O9 G10
  · exact w_86_136 _ _ _ _ _ _ _ _ (Nat.lt_succ_self _) (by have : (1 : Int32).toInt = 1 := rfl; have := bd_i v4; have := bd_i (1 : Int32); have : (v4 - (1 : Int32)).toInt = v4.toInt - (1 : Int32).toInt := sb_i (by omega) (by omega); omega) (by have : (1 : Int32).toInt = 1 := rfl; have := bd_i v4; have := bd_i (1 : Int32); have : (v4 - (1 : Int32)).toInt = v4.toInt - (1 : Int32).toInt := sb_i (by omega) (by omega); omega) (by omega) (by omega) (by omega) (by omega) (by omega) (by omega) (by omega) H O G
theorem u_86_67 {d : Nat} {h : ah_H} {v1 : Int32} {v2 : Int32} {v3 : Int32} {v4 : Int32} {s0 : Int32} (H : RH m σ b h) (O : OKV σ) (G : sm (QR p) σ0 σ) (iv0 : 0 ≤ v4.toInt) (iv1 : v4.toInt ≤ 64) (iv2 : 0 ≤ s0.toInt) (iv3 : s0.toInt ≤ 64) (iv4 : 9344 ≤ v2.toInt) (iv5 : v2.toInt < 10100) (iv6 : 9344 ≤ v3.toInt) (iv7 : v3.toInt < 10100) : wq (ah_val lim ah_P (d + 1) 86 67 [some (.inr (.inr (some m))), some (.inl v1), some (.inl v2), some (.inl v3), some (.inl v4), none, none] [.inl s0] h) (rI fun x h' => rvP m p σ0 b h' ∧ (x = 0 ∨ x = 1)) := by
  refine wq_eq q_86_67 ?_
  refine wq_if _ (fun c1 => ?_) (fun c1 => ?_)
  · refine wq_gR H.1 rfl ?_
    refine rv_0 H O (by omega) (by show _ < (10100 : Int); omega) (fun u2 q3 q4 => ?_)
    refine wq_if _ (fun c5 => ?_) (fun c5 => ?_)
    · refine wq_gR H.1 rfl ?_
      refine ra_J H (by omega) rfl (by omega) (by show _ < (10100 : Int); omega) ?_
      refine wq_at H.1 ?_
      refine wq_cV (v_setElement H O G (by omega) (by omega) (by have := le_i c1; have := congrArg Int32.toInt c5; have : (0 : Int32).toInt = 0 := rfl; have : (64 : Int32).toInt = 64 := rfl; have := bd_i v4; have := bd_i s0; have : (v4 + s0).toInt = v4.toInt + s0.toInt := ad_i (by omega) (by omega); omega) (by have := le_i c1; have := congrArg Int32.toInt c5; have : (0 : Int32).toInt = 0 := rfl; have : (64 : Int32).toInt = 64 := rfl; have := bd_i v4; have := bd_i s0; have : (v4 + s0).toInt = v4.toInt + s0.toInt := ad_i (by omega) (by omega); omega)) ?_
      rintro h6 ⟨s8, H9, O10, G11⟩
      exact u_86_108 H9 O10 G11 (by have := le_i c1; have : (64 : Int32).toInt = 64 := rfl; have := bd_i v4; have := bd_i s0; have : (v4 + s0).toInt = v4.toInt + s0.toInt := ad_i (by omega) (by omega); omega) (by have := le_i c1; have : (64 : Int32).toInt = 64 := rfl; have := bd_i v4; have := bd_i s0; have : (v4 + s0).toInt = v4.toInt + s0.toInt := ad_i (by omega) (by omega); omega) (by have := le_i c1; have : (64 : Int32).toInt = 64 := rfl; have := bd_i v4; have := bd_i s0; have : (v4 + s0).toInt = v4.toInt + s0.toInt := ad_i (by omega) (by omega); omega) (by omega) (by omega) (by omega) (by omega)
    · exact u_86_108 H O G (by have := le_i c1; have : (64 : Int32).toInt = 64 := rfl; have := bd_i v4; have := bd_i s0; have : (v4 + s0).toInt = v4.toInt + s0.toInt := ad_i (by omega) (by omega); omega) (by have := le_i c1; have : (64 : Int32).toInt = 64 := rfl; have := bd_i v4; have := bd_i s0; have : (v4 + s0).toInt = v4.toInt + s0.toInt := ad_i (by omega) (by omega); omega) (by have := le_i c1; have : (64 : Int32).toInt = 64 := rfl; have := bd_i v4; have := bd_i s0; have : (v4 + s0).toInt = v4.toInt + s0.toInt := ad_i (by omega) (by omega); omega) (by omega) (by omega) (by omega) (by omega)
  · refine wq_at H.1 ?_
    refine wq_cI (v_fail H O G) ?_
    rintro y18 h12 ⟨⟨s14, H15, O16, G17⟩, p13⟩
    exact wq_t p13.1 (wq_some (rI_i ⟨⟨_, H15, O16, G17⟩, p13.1⟩))
theorem v_joined {d : Nat} {h : ah_H} {v1 : Int32} {v2 : Int32} {v3 : Int32} (H : RH m σ b h) (O : OKV σ) (G : sm (QR p) σ0 σ) (g0 : 9344 ≤ v2.toInt) (g1 : v2.toInt < 10100) (g2 : 9344 ≤ v3.toInt) (g3 : v3.toInt < 10100)  : wq (vc lim (d + 2) m_Ref_joined [.inr (.inr (some m)), .inl v1, .inl v2, .inl v3] h) (rI fun x h' => rvP m p σ0 b h' ∧ (x = 0 ∨ x = 1)) := by
  refine wq_eq e_Ref_joined ?_
  refine wq_gR H.1 rfl ?_
  refine rv_0 H O (by omega) (by show _ < (10100 : Int); omega) (fun u1 q2 q3 => ?_)
  refine wq_if _ (fun c4 => ?_) (fun c4 => ?_)
  · refine wq_at H.1 ?_
    refine wq_cI (v_fail H O G) ?_
    rintro y11 h5 ⟨⟨s7, H8, O9, G10⟩, p6⟩
    exact wq_t p6.1 (wq_some (rI_i ⟨⟨_, H8, O9, G10⟩, p6.1⟩))
  · refine wq_gR H.1 rfl ?_
    refine rv_0 H O (by omega) (by show _ < (10100 : Int); omega) (fun u12 q13 q14 => ?_)
    refine wq_if _ (fun c15 => ?_) (fun c15 => ?_)
    · refine wq_at H.1 ?_
      refine wq_cI (v_fail H O G) ?_
      rintro y22 h16 ⟨⟨s18, H19, O20, G21⟩, p17⟩
      exact wq_t p17.1 (wq_some (rI_i ⟨⟨_, H19, O20, G21⟩, p17.1⟩))
    · refine wq_gR H.1 rfl ?_
      refine rv_0 H O (by omega) (by show _ < (10100 : Int); omega) (fun u23 q24 q25 => ?_)
      refine wq_if _ (fun c26 => ?_) (fun c26 => ?_)
      · refine wq_gR H.1 rfl ?_
        refine rv_0 H O (by omega) (by show _ < (10100 : Int); omega) (fun u27 q28 q29 => ?_)
        refine wq_if _ (fun c30 => ?_) (fun c30 => ?_)
        · exact u_86_67 H O G (by have := ne_i c4; have := ne_i c15; have := congrArg Int32.toInt c26; have := congrArg Int32.toInt c30; have : (0 : Int32).toInt = 0 := rfl; have : (1 : Int32).toInt = 1 := rfl; have : (2 : Int32).toInt = 2 := rfl; omega) (by have := ne_i c4; have := ne_i c15; have := congrArg Int32.toInt c26; have := congrArg Int32.toInt c30; have : (0 : Int32).toInt = 0 := rfl; have : (1 : Int32).toInt = 1 := rfl; have : (2 : Int32).toInt = 2 := rfl; omega) (by have := ne_i c4; have := ne_i c15; have := congrArg Int32.toInt c26; have := congrArg Int32.toInt c30; have : (0 : Int32).toInt = 0 := rfl; have : (1 : Int32).toInt = 1 := rfl; have : (2 : Int32).toInt = 2 := rfl; omega) (by have := ne_i c4; have := ne_i c15; have := congrArg Int32.toInt c26; have := congrArg Int32.toInt c30; have : (0 : Int32).toInt = 0 := rfl; have : (1 : Int32).toInt = 1 := rfl; have : (2 : Int32).toInt = 2 := rfl; omega) (by omega) (by omega) (by omega) (by omega)
        · refine wq_gR H.1 rfl ?_
          refine rv_1 H O (by omega) (by show _ < (10100 : Int); omega) (fun u31 q32 q33 => ?_)
          exact u_86_67 H O G (by have := ne_i c4; have := ne_i c15; have := congrArg Int32.toInt c26; have := ne_i c30; have : (0 : Int32).toInt = 0 := rfl; have : (1 : Int32).toInt = 1 := rfl; have : (2 : Int32).toInt = 2 := rfl; omega) (by have := ne_i c4; have := ne_i c15; have := congrArg Int32.toInt c26; have := ne_i c30; have : (0 : Int32).toInt = 0 := rfl; have : (1 : Int32).toInt = 1 := rfl; have : (2 : Int32).toInt = 2 := rfl; omega) (by omega) (by omega) (by omega) (by omega) (by omega) (by omega)
      · refine wq_gR H.1 rfl ?_
        refine rv_1 H O (by omega) (by show _ < (10100 : Int); omega) (fun u34 q35 q36 => ?_)
        refine wq_gR H.1 rfl ?_
        refine rv_0 H O (by omega) (by show _ < (10100 : Int); omega) (fun u37 q38 q39 => ?_)
        refine wq_if _ (fun c40 => ?_) (fun c40 => ?_)
        · exact u_86_67 H O G (by omega) (by omega) (by have := ne_i c4; have := ne_i c15; have := ne_i c26; have := congrArg Int32.toInt c40; have : (0 : Int32).toInt = 0 := rfl; have : (1 : Int32).toInt = 1 := rfl; have : (2 : Int32).toInt = 2 := rfl; omega) (by have := ne_i c4; have := ne_i c15; have := ne_i c26; have := congrArg Int32.toInt c40; have : (0 : Int32).toInt = 0 := rfl; have : (1 : Int32).toInt = 1 := rfl; have : (2 : Int32).toInt = 2 := rfl; omega) (by omega) (by omega) (by omega) (by omega)
        · refine wq_gR H.1 rfl ?_
          refine rv_1 H O (by omega) (by show _ < (10100 : Int); omega) (fun u41 q42 q43 => ?_)
          exact u_86_67 H O G (by omega) (by omega) (by omega) (by omega) (by omega) (by omega) (by omega) (by omega)
theorem v_two {d : Nat} {h : ah_H} {v1 : Int32} {v2 : Int32} {v3 : Int32} (H : RH m σ b h) (O : OKV σ) (G : sm (QR p) σ0 σ) (g0 : 9344 ≤ v3.toInt) (g1 : v3.toInt < 10099)  : wq (vc lim (d + 5) m_Ref_two [.inr (.inr (some m)), .inl v1, .inl v2, .inl v3] h) (rI fun x h' => rvP m p σ0 b h' ∧ (x = 0 ∨ x = 1)) := by
  refine wq_eq e_Ref_two ?_
  refine wq_if _ (fun c1 => ?_) (fun c1 => ?_)
  · refine wq_at H.1 ?_
    refine wq_cI (v_both H O G (by omega) (by omega) (by have : (1 : Int32).toInt = 1 := rfl; have := bd_i v3; have := bd_i (1 : Int32); have : (v3 + (1 : Int32)).toInt = v3.toInt + (1 : Int32).toInt := ad_i (by omega) (by omega); omega) (by have : (1 : Int32).toInt = 1 := rfl; have := bd_i v3; have := bd_i (1 : Int32); have : (v3 + (1 : Int32)).toInt = v3.toInt + (1 : Int32).toInt := ad_i (by omega) (by omega); omega)) ?_
    rintro y8 h2 ⟨⟨s4, H5, O6, G7⟩, p3⟩
    exact wq_t p3 (wq_some (rI_i ⟨⟨_, H5, O6, G7⟩, p3⟩))
  · refine wq_if _ (fun c9 => ?_) (fun c9 => ?_)
    · refine wq_at H.1 ?_
      refine wq_cI (v_compare H O G (by omega) (by omega) (by have : (1 : Int32).toInt = 1 := rfl; have := bd_i v3; have := bd_i (1 : Int32); have : (v3 + (1 : Int32)).toInt = v3.toInt + (1 : Int32).toInt := ad_i (by omega) (by omega); omega) (by have : (1 : Int32).toInt = 1 := rfl; have := bd_i v3; have := bd_i (1 : Int32); have : (v3 + (1 : Int32)).toInt = v3.toInt + (1 : Int32).toInt := ad_i (by omega) (by omega); omega)) ?_
      rintro y16 h10 ⟨⟨s12, H13, O14, G15⟩, p11⟩
      exact wq_t p11 (wq_some (rI_i ⟨⟨_, H13, O14, G15⟩, p11⟩))
    · refine wq_if _ (fun c17 => ?_) (fun c17 => ?_)
      · refine wq_if _ (fun c18 => ?_) (fun c18 => ?_)
        · refine wq_at H.1 ?_
          refine wq_cI (v_sum H O G (by omega) (by omega) (by have : (1 : Int32).toInt = 1 := rfl; have := bd_i v3; have := bd_i (1 : Int32); have : (v3 + (1 : Int32)).toInt = v3.toInt + (1 : Int32).toInt := ad_i (by omega) (by omega); omega) (by have : (1 : Int32).toInt = 1 := rfl; have := bd_i v3; have := bd_i (1 : Int32); have : (v3 + (1 : Int32)).toInt = v3.toInt + (1 : Int32).toInt := ad_i (by omega) (by omega); omega)) ?_
          rintro y25 h19 ⟨⟨s21, H22, O23, G24⟩, p20⟩
          exact wq_t p20 (wq_some (rI_i ⟨⟨_, H22, O23, G24⟩, p20⟩))
        · refine wq_at H.1 ?_
          refine wq_cI (v_sum H O G (by omega) (by omega) (by have : (1 : Int32).toInt = 1 := rfl; have := bd_i v3; have := bd_i (1 : Int32); have : (v3 + (1 : Int32)).toInt = v3.toInt + (1 : Int32).toInt := ad_i (by omega) (by omega); omega) (by have : (1 : Int32).toInt = 1 := rfl; have := bd_i v3; have := bd_i (1 : Int32); have : (v3 + (1 : Int32)).toInt = v3.toInt + (1 : Int32).toInt := ad_i (by omega) (by omega); omega)) ?_
          rintro y32 h26 ⟨⟨s28, H29, O30, G31⟩, p27⟩
          exact wq_t p27 (wq_some (rI_i ⟨⟨_, H29, O30, G31⟩, p27⟩))
      · refine wq_if _ (fun c33 => ?_) (fun c33 => ?_)
        · refine wq_at H.1 ?_
          refine wq_cI (v_joined H O G (by omega) (by omega) (by have : (1 : Int32).toInt = 1 := rfl; have := bd_i v3; have := bd_i (1 : Int32); have : (v3 + (1 : Int32)).toInt = v3.toInt + (1 : Int32).toInt := ad_i (by omega) (by omega); omega) (by have : (1 : Int32).toInt = 1 := rfl; have := bd_i v3; have := bd_i (1 : Int32); have : (v3 + (1 : Int32)).toInt = v3.toInt + (1 : Int32).toInt := ad_i (by omega) (by omega); omega)) ?_
          rintro y40 h34 ⟨⟨s36, H37, O38, G39⟩, p35⟩
          exact wq_t p35 (wq_some (rI_i ⟨⟨_, H37, O38, G39⟩, p35⟩))
        · refine wq_if _ (fun c41 => ?_) (fun c41 => ?_)
          · refine wq_at H.1 ?_
            refine wq_cI (v_reckon H O G (by omega) (by omega) (by have : (1 : Int32).toInt = 1 := rfl; have := bd_i v3; have := bd_i (1 : Int32); have : (v3 + (1 : Int32)).toInt = v3.toInt + (1 : Int32).toInt := ad_i (by omega) (by omega); omega) (by have : (1 : Int32).toInt = 1 := rfl; have := bd_i v3; have := bd_i (1 : Int32); have : (v3 + (1 : Int32)).toInt = v3.toInt + (1 : Int32).toInt := ad_i (by omega) (by omega); omega)) ?_
            rintro y48 h42 ⟨⟨s44, H45, O46, G47⟩, p43⟩
            exact wq_t p43 (wq_some (rI_i ⟨⟨_, H45, O46, G47⟩, p43⟩))
          · refine wq_if _ (fun c49 => ?_) (fun c49 => ?_)
            · refine wq_at H.1 ?_
              refine wq_cI (v_shift H O G (by omega) (by omega) (by have : (1 : Int32).toInt = 1 := rfl; have := bd_i v3; have := bd_i (1 : Int32); have : (v3 + (1 : Int32)).toInt = v3.toInt + (1 : Int32).toInt := ad_i (by omega) (by omega); omega) (by have : (1 : Int32).toInt = 1 := rfl; have := bd_i v3; have := bd_i (1 : Int32); have : (v3 + (1 : Int32)).toInt = v3.toInt + (1 : Int32).toInt := ad_i (by omega) (by omega); omega)) ?_
              rintro y56 h50 ⟨⟨s52, H53, O54, G55⟩, p51⟩
              exact wq_t p51 (wq_some (rI_i ⟨⟨_, H53, O54, G55⟩, p51⟩))
            · refine wq_at H.1 ?_
              refine wq_cI (v_shift H O G (by omega) (by omega) (by have : (1 : Int32).toInt = 1 := rfl; have := bd_i v3; have := bd_i (1 : Int32); have : (v3 + (1 : Int32)).toInt = v3.toInt + (1 : Int32).toInt := ad_i (by omega) (by omega); omega) (by have : (1 : Int32).toInt = 1 := rfl; have := bd_i v3; have := bd_i (1 : Int32); have : (v3 + (1 : Int32)).toInt = v3.toInt + (1 : Int32).toInt := ad_i (by omega) (by omega); omega)) ?_
              rintro y63 h57 ⟨⟨s59, H60, O61, G62⟩, p58⟩
              exact wq_t p58 (wq_some (rI_i ⟨⟨_, H60, O61, G62⟩, p58⟩))
end RfB
