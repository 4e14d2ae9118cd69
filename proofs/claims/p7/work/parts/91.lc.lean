/-! THE LAW'S CALLS OF THE CLASS, by program (wip/tools/law.py) -/
section La
variable {lim : Nat × Nat} {K d b x m o L : Nat} {xs : Nat → Int32} {κ : kM} {σ : rS} {h : ah_H} {cnt : sV}
theorem X_variable {k : Nat} {v1 v2 v3 : Int32} (B : LB b x m o L xs K κ σ h) (S : sgR x cnt h) (hk : [200, 201].contains k = true) : wq (ah_hx lim d 262 7 [some (.inr (.inr (some x))), some (.inl v1), some (.inl v2), some (.inl v3), some (.inr (.inr (some o))), none] h (k, h.2.1) (ah_new h (k, []) 6)) (lwP b x m o L xs (K + 1) σ cnt h) := by
  have hk : k = 200 ∨ k = 201 := by simpa using hk
  rcases hk with rfl | rfl
  · exact wq_hx rfl rfl hM_262 rfl (wq_eq q_262_15 (wq_some (lwP_x B S (by omega))))
  · exact wq_hx rfl rfl hM_262 rfl (wq_eq q_262_19 (wq_some (lwP_x B S (by omega))))
theorem X_add {k : Nat} {v1 v2 v3 : Int32} (B : LB b x m o L xs K κ σ h) (S : sgR x cnt h) (hk : [200, 201].contains k = true) : wq (ah_hx lim d 263 7 [some (.inr (.inr (some x))), some (.inl v1), some (.inl v2), some (.inl v3), some (.inr (.inr (some o))), none] h (k, h.2.1) (ah_new h (k, []) 6)) (lwP b x m o L xs (K + 1) σ cnt h) := by
  have hk : k = 200 ∨ k = 201 := by simpa using hk
  rcases hk with rfl | rfl
  · exact wq_hx rfl rfl hM_263 rfl (wq_eq q_263_15 (wq_some (lwP_x B S (by omega))))
  · exact wq_hx rfl rfl hM_263 rfl (wq_eq q_263_19 (wq_some (lwP_x B S (by omega))))
theorem L_add {v1 v2 v3 : Int32} (B : LB b x m o L xs K κ σ h) (S : sgR x cnt h) (hr : rm lim h) : wq (vc lim (d + 21) m_Law_add [.inr (.inr (some x)), .inl v1, .inl v2, .inl v3, .inr (.inr (some o))] h) (lwP b x m o L xs (K + 1) σ cnt h) := by
  have W1 := cI_K (show K ≤ K + 1 by omega) B.2.1
  have hc : ∀ vs mk, h.1 x = some (0, vs) → vs[1]? = some (aR mk) → ∀ vs nd, h.1 mk = some (4, vs) → vs[0]? = some (aR nd) → ∀ ws, h.1 nd = some (5, ws) → ∀ c, ws[8]? = some (aI c) → c.toInt + 1 ≤ (K + 1 : Nat) := by
    intro vs mk e1 e2 vs2 nd e3 e4 ws e5 c e6
    obtain ⟨x1, x2, x3, x4, x5, x6, x7, x8, ex, p1, p2, p3, p4, -⟩ := o0 B.2.1 B.2.2.2.1
    rw [e1] at ex
    cases ex
    cases e2
    obtain ⟨y1, y2, y3, y4, y5, ey, q1, -⟩ := o4 B.2.1 p2
    rw [e3] at ey
    cases ey
    cases e4
    obtain ⟨z1, z2, z3, z4, z5, z6, z7, z8, z9, z10, ez, -, -, -, -, -, -, -, -, -, -, w1, -⟩ := o5 B.2.1 q1
    rw [e5] at ez
    cases ez
    cases e6
    omega
  refine wq_eq e_Law_add (L_ax B ?_)
  obtain ⟨z, e, hz⟩ := s_Code_add (lim := lim) (d := d + 16) (v1 := v1) (v2 := v2) (v3 := v3) W1 B.2.2.2.1 hc hr
  rcases hz with ⟨i, h1, rfl, W, g, -⟩ | ⟨k, hk, rfl⟩
  · refine wq_eq (congrArg (fun r => ah_cI r _ _) e) ?_
    exact L_fin B S (cS_le (cS_w B W) (by omega) (by omega)) (sgR_f B S g rfl)
  · refine wq_eq (congrArg (fun r => ah_cI r _ _) e) ?_
    exact X_add B S hk
theorem X_put {k : Nat} {v1 v2 v3 v4 : Int32} (B : LB b x m o L xs K κ σ h) (S : sgR x cnt h) (hk : [200, 202].contains k = true) : wq (ah_hx lim d 265 6 [some (.inr (.inr (some x))), some (.inl v1), some (.inl v2), some (.inl v3), some (.inl v4), none] h (k, h.2.1) (ah_new h (k, []) 6)) (lwP b x m o L xs (K + 1) σ cnt h) := by
  have hk : k = 200 ∨ k = 202 := by simpa using hk
  rcases hk with rfl | rfl
  · exact wq_hx rfl rfl hM_265 rfl (wq_eq q_265_16 (wq_some (lwP_x B S (by omega))))
  · exact wq_hx rfl rfl hM_265 rfl (wq_eq q_265_12 (wq_some (lwP_x B S (by omega))))
theorem X_mark {k : Nat} {v1 v2 v3 : Int32} (B : LB b x m o L xs K κ σ h) (S : sgR x cnt h) (hk : [202].contains k = true) : wq (ah_hx lim d 266 4 [some (.inr (.inr (some x))), some (.inl v1), some (.inl v2), some (.inl v3), none] h (k, h.2.1) (ah_new h (k, []) 6)) (lwP b x m o L xs (K + 1) σ cnt h) := by
  have hk : k = 202 := by simpa using hk
  subst hk
  exact wq_hx rfl rfl hM_266 rfl (wq_eq q_266_10 (wq_some (lwP_x B S (by omega))))
theorem X_get {k : Nat} {v1 v2 : Int32} (B : LB b x m o L xs K κ σ h) (S : sgR x cnt h) (hk : [202].contains k = true) : wq (ah_hx lim d 267 5 [some (.inr (.inr (some x))), some (.inl v1), some (.inl v2), some (.inr (.inr (some o))), none] h (k, h.2.1) (ah_new h (k, []) 6)) (lwP b x m o L xs (K + 1) σ cnt h) := by
  have hk : k = 202 := by simpa using hk
  subst hk
  exact wq_hx rfl rfl hM_267 rfl (wq_eq q_267_13 (wq_some (lwP_x B S (by omega))))
theorem L_get {v1 v2 : Int32} (B : LB b x m o L xs K κ σ h) (S : sgR x cnt h) (hr : rm lim h) : wq (vc lim (d + 21) m_Law_get [.inr (.inr (some x)), .inl v1, .inl v2, .inr (.inr (some o))] h) (lwP b x m o L xs (K + 1) σ cnt h) := by
  refine wq_eq e_Law_get (L_ax B ?_)
  obtain ⟨z, e, hz⟩ := s_Code_get (lim := lim) (d := d + 18) (v1 := v1) (v2 := v2) B.2.1 B.2.2.2.1 hr
  rcases hz with ⟨i, h1, rfl, rfl, -⟩ | ⟨k, hk, rfl⟩
  · refine wq_eq (congrArg (fun r => ah_cI r _ _) e) ?_
    exact L_fin B S (cS_le (cS_0 B (by omega)) (by omega) (by omega)) S
  · refine wq_eq (congrArg (fun r => ah_cI r _ _) e) ?_
    exact X_get B S hk
theorem X_set {k : Nat} {v1 v2 v3 v4 : Int32} (B : LB b x m o L xs K κ σ h) (S : sgR x cnt h) (hk : [200, 202].contains k = true) : wq (ah_hx lim d 268 6 [some (.inr (.inr (some x))), some (.inl v1), some (.inl v2), some (.inl v3), some (.inl v4), none] h (k, h.2.1) (ah_new h (k, []) 6)) (lwP b x m o L xs (K + 1) σ cnt h) := by
  have hk : k = 200 ∨ k = 202 := by simpa using hk
  rcases hk with rfl | rfl
  · exact wq_hx rfl rfl hM_268 rfl (wq_eq q_268_16 (wq_some (lwP_x B S (by omega))))
  · exact wq_hx rfl rfl hM_268 rfl (wq_eq q_268_12 (wq_some (lwP_x B S (by omega))))
theorem L_set {v1 v2 v3 v4 : Int32} (B : LB b x m o L xs K κ σ h) (S : sgR x cnt h) (hr : rm lim h) : wq (vc lim (d + 21) m_Law_set [.inr (.inr (some x)), .inl v1, .inl v2, .inl v3, .inl v4] h) (lwP b x m o L xs (K + 1) σ cnt h) := by
  refine wq_eq e_Law_set (L_ax B ?_)
  obtain ⟨z, e, hz⟩ := s_Code_set (lim := lim) (d := d + 17) (v1 := v1) (v2 := v2) (v3 := v3) (v4 := v4) B.2.1 B.2.2.2.1 hr
  rcases hz with ⟨h1, rfl, W, g⟩ | ⟨k, hk, rfl⟩
  · refine wq_eq (congrArg (fun r => ah_cV r _ _) e) ?_
    exact wq_some (lwP_v B (cS_le (cS_w B (cI_K (by omega) W)) (by omega) (by omega)) (sgR_f B S g rfl))
  · refine wq_eq (congrArg (fun r => ah_cV r _ _) e) ?_
    exact X_set B S hk
theorem X_variableOf {k : Nat} {v1 v2 v3 : Int32} (B : LB b x m o L xs K κ σ h) (S : sgR x cnt h) (hk : [202].contains k = true) : wq (ah_hx lim d 269 7 [some (.inr (.inr (some x))), some (.inl v1), some (.inl v2), some (.inl v3), some (.inr (.inr (some o))), none] h (k, h.2.1) (ah_new h (k, []) 6)) (lwP b x m o L xs (K + 1) σ cnt h) := by
  have hk : k = 202 := by simpa using hk
  subst hk
  exact wq_hx rfl rfl hM_269 rfl (wq_eq q_269_15 (wq_some (lwP_x B S (by omega))))
theorem L_variableOf {v1 v2 v3 : Int32} (B : LB b x m o L xs K κ σ h) (S : sgR x cnt h) (hr : rm lim h) : wq (vc lim (d + 21) m_Law_variableOf [.inr (.inr (some x)), .inl v1, .inl v2, .inl v3, .inr (.inr (some o))] h) (lwP b x m o L xs (K + 1) σ cnt h) := by
  refine wq_eq e_Law_variableOf (L_ax B ?_)
  obtain ⟨z, e, hz⟩ := s_Code_variableOf (lim := lim) (d := d + 17) (v1 := v1) (v2 := v2) (v3 := v3) B.2.1 B.2.2.2.1 hr
  rcases hz with ⟨i, h1, rfl, rfl, -⟩ | ⟨k, hk, rfl⟩
  · refine wq_eq (congrArg (fun r => ah_cI r _ _) e) ?_
    exact L_fin B S (cS_le (cS_0 B (by omega)) (by omega) (by omega)) S
  · refine wq_eq (congrArg (fun r => ah_cI r _ _) e) ?_
    exact X_variableOf B S hk
theorem X_resume {k : Nat} {v1 v2 : Int32} (B : LB b x m o L xs K κ σ h) (S : sgR x cnt h) (hk : [200, 201, 202].contains k = true) : wq (ah_hx lim d 270 5 [some (.inr (.inr (some x))), some (.inl v1), some (.inl v2), some (.inr (.inr (some o))), none] h (k, h.2.1) (ah_new h (k, []) 6)) (lwP b x m o L xs (K + 1) σ cnt h) := by
  have hk : k = 200 ∨ k = 201 ∨ k = 202 := by simpa using hk
  rcases hk with rfl | rfl | rfl
  · exact wq_hx rfl rfl hM_270 rfl (wq_eq q_270_17 (wq_some (lwP_x B S (by omega))))
  · exact wq_hx rfl rfl hM_270 rfl (wq_eq q_270_21 (wq_some (lwP_x B S (by omega))))
  · exact wq_hx rfl rfl hM_270 rfl (wq_eq q_270_13 (wq_some (lwP_x B S (by omega))))
theorem L_resume {v1 v2 : Int32} (B : LB b x m o L xs K κ σ h) (S : sgR x cnt h) (hr : rm lim h) : wq (vc lim (d + 21) m_Law_resume [.inr (.inr (some x)), .inl v1, .inl v2, .inr (.inr (some o))] h) (lwP b x m o L xs (K + 1) σ cnt h) := by
  refine wq_eq e_Law_resume (L_ax B ?_)
  obtain ⟨z, e, hz⟩ := s_Code_resume (lim := lim) (d := d + 12) (v1 := v1) (v2 := v2) B.2.1 B.2.2.2.1 hr
  rcases hz with ⟨i, h1, rfl, W, g, -⟩ | ⟨k, hk, rfl⟩
  · refine wq_eq (congrArg (fun r => ah_cI r _ _) e) ?_
    exact L_fin B S (cS_le (cS_w B (cI_K (by omega) W)) (by omega) (by omega)) (sgR_f B S g rfl)
  · refine wq_eq (congrArg (fun r => ah_cI r _ _) e) ?_
    exact X_resume B S hk
theorem X_holds {k : Nat} {v1 : Int32} (B : LB b x m o L xs K κ σ h) (S : sgR x cnt h) (hk : [201, 202].contains k = true) : wq (ah_hx lim d 271 4 [some (.inr (.inr (some x))), some (.inl v1), some (.inr (.inr (some o))), none] h (k, h.2.1) (ah_new h (k, []) 6)) (lwP b x m o L xs (K + 1) σ cnt h) := by
  have hk : k = 201 ∨ k = 202 := by simpa using hk
  rcases hk with rfl | rfl
  · exact wq_hx rfl rfl hM_271 rfl (wq_eq q_271_15 (wq_some (lwP_x B S (by omega))))
  · exact wq_hx rfl rfl hM_271 rfl (wq_eq q_271_12 (wq_some (lwP_x B S (by omega))))
theorem L_holds {v1 : Int32} (B : LB b x m o L xs K κ σ h) (S : sgR x cnt h) (hr : rm lim h) : wq (vc lim (d + 21) m_Law_holds [.inr (.inr (some x)), .inl v1, .inr (.inr (some o))] h) (lwP b x m o L xs (K + 1) σ cnt h) := by
  refine wq_eq e_Law_holds (L_ax B ?_)
  obtain ⟨z, e, hz⟩ := s_Code_holds (lim := lim) (d := d + 13) (v1 := v1) B.2.1 B.2.2.2.1 hr
  rcases hz with ⟨i, h1, rfl, W, g, -⟩ | ⟨k, hk, rfl⟩
  · refine wq_eq (congrArg (fun r => ah_cI r _ _) e) ?_
    exact L_fin B S (cS_le (cS_w B (cI_K (by omega) W)) (by omega) (by omega)) (sgR_f B S g rfl)
  · refine wq_eq (congrArg (fun r => ah_cI r _ _) e) ?_
    exact X_holds B S hk
theorem X_about {k : Nat} {v1 v2 : Int32} (B : LB b x m o L xs K κ σ h) (S : sgR x cnt h) (hk : [200, 202].contains k = true) : wq (ah_hx lim d 272 5 [some (.inr (.inr (some x))), some (.inl v1), some (.inl v2), some (.inr (.inr (some o))), none] h (k, h.2.1) (ah_new h (k, []) 6)) (lwP b x m o L xs (K + 1) σ cnt h) := by
  have hk : k = 200 ∨ k = 202 := by simpa using hk
  rcases hk with rfl | rfl
  · exact wq_hx rfl rfl hM_272 rfl (wq_eq q_272_17 (wq_some (lwP_x B S (by omega))))
  · exact wq_hx rfl rfl hM_272 rfl (wq_eq q_272_13 (wq_some (lwP_x B S (by omega))))
theorem L_about {v1 v2 : Int32} (B : LB b x m o L xs K κ σ h) (S : sgR x cnt h) (hr : rm lim h) : wq (vc lim (d + 21) m_Law_about [.inr (.inr (some x)), .inl v1, .inl v2, .inr (.inr (some o))] h) (lwP b x m o L xs (K + 1) σ cnt h) := by
  refine wq_eq e_Law_about (L_ax B ?_)
  obtain ⟨z, e, hz⟩ := s_Code_about (lim := lim) (d := d + 17) (v1 := v1) (v2 := v2) B.2.1 B.2.2.2.1 hr
  rcases hz with ⟨i, h1, rfl, rfl, -⟩ | ⟨k, hk, rfl⟩
  · refine wq_eq (congrArg (fun r => ah_cI r _ _) e) ?_
    exact L_fin B S (cS_le (cS_0 B (by omega)) (by omega) (by omega)) S
  · refine wq_eq (congrArg (fun r => ah_cI r _ _) e) ?_
    exact X_about B S hk
theorem X_waits {k : Nat} {v1 v2 : Int32} (B : LB b x m o L xs K κ σ h) (S : sgR x cnt h) (hk : [202].contains k = true) : wq (ah_hx lim d 273 5 [some (.inr (.inr (some x))), some (.inl v1), some (.inl v2), some (.inr (.inr (some o))), none] h (k, h.2.1) (ah_new h (k, []) 6)) (lwP b x m o L xs (K + 1) σ cnt h) := by
  have hk : k = 202 := by simpa using hk
  subst hk
  exact wq_hx rfl rfl hM_273 rfl (wq_eq q_273_13 (wq_some (lwP_x B S (by omega))))
theorem L_waits {v1 v2 : Int32} (B : LB b x m o L xs K κ σ h) (S : sgR x cnt h) (hr : rm lim h) : wq (vc lim (d + 21) m_Law_waits [.inr (.inr (some x)), .inl v1, .inl v2, .inr (.inr (some o))] h) (lwP b x m o L xs (K + 1) σ cnt h) := by
  refine wq_eq e_Law_waits (L_ax B ?_)
  obtain ⟨z, e, hz⟩ := s_Code_waits (lim := lim) (d := d + 17) (v1 := v1) (v2 := v2) B.2.1 B.2.2.2.1 hr
  rcases hz with ⟨i, h1, rfl, rfl, -⟩ | ⟨k, hk, rfl⟩
  · refine wq_eq (congrArg (fun r => ah_cI r _ _) e) ?_
    exact L_fin B S (cS_le (cS_0 B (by omega)) (by omega) (by omega)) S
  · refine wq_eq (congrArg (fun r => ah_cI r _ _) e) ?_
    exact X_waits B S hk
theorem X_until {k : Nat} {v1 : Int32} (B : LB b x m o L xs K κ σ h) (S : sgR x cnt h) (hk : [202].contains k = true) : wq (ah_hx lim d 274 4 [some (.inr (.inr (some x))), some (.inl v1), some (.inr (.inr (some o))), none] h (k, h.2.1) (ah_new h (k, []) 6)) (lwP b x m o L xs (K + 1) σ cnt h) := by
  have hk : k = 202 := by simpa using hk
  subst hk
  exact wq_hx rfl rfl hM_274 rfl (wq_eq q_274_11 (wq_some (lwP_x B S (by omega))))
theorem L_until {v1 : Int32} (B : LB b x m o L xs K κ σ h) (S : sgR x cnt h) (hr : rm lim h) : wq (vc lim (d + 21) m_Law_until [.inr (.inr (some x)), .inl v1, .inr (.inr (some o))] h) (lwP b x m o L xs (K + 1) σ cnt h) := by
  refine wq_eq e_Law_until (L_ax B ?_)
  obtain ⟨z, e, hz⟩ := s_Code_until (lim := lim) (d := d + 18) (v1 := v1) B.2.1 B.2.2.2.1 hr
  rcases hz with ⟨i, h1, rfl, rfl, -⟩ | ⟨k, hk, rfl⟩
  · refine wq_eq (congrArg (fun r => ah_cJ r _ _) e) ?_
    exact L_fin B S (cS_le (cS_0 B (by omega)) (by omega) (by omega)) S
  · refine wq_eq (congrArg (fun r => ah_cJ r _ _) e) ?_
    exact X_until B S hk
theorem X_act {k : Nat} {v1 v2 : Int32} (B : LB b x m o L xs K κ σ h) (S : sgR x cnt h) (hk : [200, 202].contains k = true) : wq (ah_hx lim d 275 5 [some (.inr (.inr (some x))), some (.inl v1), some (.inl v2), some (.inr (.inr (some o))), none] h (k, h.2.1) (ah_new h (k, []) 6)) (lwP b x m o L xs (K + 1) σ cnt h) := by
  have hk : k = 200 ∨ k = 202 := by simpa using hk
  rcases hk with rfl | rfl
  · exact wq_hx rfl rfl hM_275 rfl (wq_eq q_275_17 (wq_some (lwP_x B S (by omega))))
  · exact wq_hx rfl rfl hM_275 rfl (wq_eq q_275_13 (wq_some (lwP_x B S (by omega))))
theorem L_act {v1 v2 : Int32} (B : LB b x m o L xs K κ σ h) (S : sgR x cnt h) (hr : rm lim h) : wq (vc lim (d + 21) m_Law_act [.inr (.inr (some x)), .inl v1, .inl v2, .inr (.inr (some o))] h) (lwP b x m o L xs (K + 1) σ cnt h) := by
  refine wq_eq e_Law_act (L_ax B ?_)
  obtain ⟨z, e, hz⟩ := s_Code_act (lim := lim) (d := d + 18) (v1 := v1) (v2 := v2) B.2.1 B.2.2.2.1 hr
  rcases hz with ⟨i, h1, rfl, rfl, -⟩ | ⟨k, hk, rfl⟩
  · refine wq_eq (congrArg (fun r => ah_cI r _ _) e) ?_
    exact L_fin B S (cS_le (cS_0 B (by omega)) (by omega) (by omega)) S
  · refine wq_eq (congrArg (fun r => ah_cI r _ _) e) ?_
    exact X_act B S hk
theorem X_value {k : Nat} {v1 v2 v3 : Int32} (B : LB b x m o L xs K κ σ h) (S : sgR x cnt h) (hk : [202].contains k = true) : wq (ah_hx lim d 276 7 [some (.inr (.inr (some x))), some (.inl v1), some (.inl v2), some (.inl v3), some (.inr (.inr (some o))), none] h (k, h.2.1) (ah_new h (k, []) 6)) (lwP b x m o L xs (K + 1) σ cnt h) := by
  have hk : k = 202 := by simpa using hk
  subst hk
  exact wq_hx rfl rfl hM_276 rfl (wq_eq q_276_15 (wq_some (lwP_x B S (by omega))))
theorem L_value {v1 v2 v3 : Int32} (B : LB b x m o L xs K κ σ h) (S : sgR x cnt h) (hr : rm lim h) : wq (vc lim (d + 21) m_Law_value [.inr (.inr (some x)), .inl v1, .inl v2, .inl v3, .inr (.inr (some o))] h) (lwP b x m o L xs (K + 1) σ cnt h) := by
  refine wq_eq e_Law_value (L_ax B ?_)
  obtain ⟨z, e, hz⟩ := s_Code_value (lim := lim) (d := d + 16) (v1 := v1) (v2 := v2) (v3 := v3) B.2.1 B.2.2.2.1 hr
  rcases hz with ⟨i, h1, rfl, rfl, -⟩ | ⟨k, hk, rfl⟩
  · refine wq_eq (congrArg (fun r => ah_cI r _ _) e) ?_
    exact L_fin B S (cS_le (cS_0 B (by omega)) (by omega) (by omega)) S
  · refine wq_eq (congrArg (fun r => ah_cI r _ _) e) ?_
    exact X_value B S hk
theorem X_delay {k : Nat} {v1 v2 : Int32} (B : LB b x m o L xs K κ σ h) (S : sgR x cnt h) (hk : [202].contains k = true) : wq (ah_hx lim d 277 5 [some (.inr (.inr (some x))), some (.inl v1), some (.inl v2), some (.inr (.inr (some o))), none] h (k, h.2.1) (ah_new h (k, []) 6)) (lwP b x m o L xs (K + 1) σ cnt h) := by
  have hk : k = 202 := by simpa using hk
  subst hk
  exact wq_hx rfl rfl hM_277 rfl (wq_eq q_277_12 (wq_some (lwP_x B S (by omega))))
theorem L_delay {v1 v2 : Int32} (B : LB b x m o L xs K κ σ h) (S : sgR x cnt h) (hr : rm lim h) : wq (vc lim (d + 21) m_Law_delay [.inr (.inr (some x)), .inl v1, .inl v2, .inr (.inr (some o))] h) (lwP b x m o L xs (K + 1) σ cnt h) := by
  refine wq_eq e_Law_delay (L_ax B ?_)
  obtain ⟨z, e, hz⟩ := s_Code_delay (lim := lim) (d := d + 17) (v1 := v1) (v2 := v2) B.2.1 B.2.2.2.1 hr
  rcases hz with ⟨i, h1, rfl, rfl, -⟩ | ⟨k, hk, rfl⟩
  · refine wq_eq (congrArg (fun r => ah_cJ r _ _) e) ?_
    exact L_fin B S (cS_le (cS_0 B (by omega)) (by omega) (by omega)) S
  · refine wq_eq (congrArg (fun r => ah_cJ r _ _) e) ?_
    exact X_delay B S hk
theorem X_signal {k : Nat} {v1 v2 v3 : Int32} (B : LB b x m o L xs K κ σ h) (S : sgR x cnt h) (hk : [200, 201].contains k = true) : wq (ah_hx lim d 261 7 [some (.inr (.inr (some x))), some (.inl v1), some (.inl v2), some (.inl v3), some (.inr (.inr (some o))), none] h (k, h.2.1) (ah_new h (k, []) 6)) (lwP b x m o L xs (K + 1) σ cnt h) := by
  have hk : k = 200 ∨ k = 201 := by simpa using hk
  rcases hk with rfl | rfl
  · exact wq_hx rfl rfl hM_261 rfl (wq_eq q_261_15 (wq_some (lwP_x B S (by omega))))
  · exact wq_hx rfl rfl hM_261 rfl (wq_eq q_261_19 (wq_some (lwP_x B S (by omega))))
theorem X_process {k : Nat}  (B : LB b x m o L xs K κ σ h) (S : sgR x cnt h) (hk : [201].contains k = true) : wq (ah_hx lim d 264 3 [some (.inr (.inr (some x))), some (.inr (.inr (some o))), none] h (k, h.2.1) (ah_new h (k, []) 6)) (lwP b x m o L xs (K + 1) σ cnt h) := by
  have hk : k = 201 := by simpa using hk
  subst hk
  exact wq_hx rfl rfl hM_264 rfl (wq_eq q_264_11 (wq_some (lwP_x B S (by omega))))
/-- one signal more -/
def svF (i x y : Int32) : Nat → Int32
  | 0 => i
  | 1 => if i = 1 then x else 1
  | 2 => if i = 2 then x else 0
  | _ => if i = 2 then y else 8
def svS (cnt : sV) (i x y : Int32) : sV := (cnt.1 + 1, fun j k => if k = cnt.1.toInt.toNat then svF i x y j else cnt.2 j k)
def lwK (cnt cnt' : sV) (i y z k : Int32) (o : Nat) (h' : ah_H) : Prop := (k = 1 ∧ ¬ cb i y z ∧ cnt' = cnt) ∨ (k = 2 ∧ cb i y z ∧ 512 ≤ cnt.1.toInt ∧ cnt' = cnt) ∨ (k = 0 ∧ cb i y z ∧ cnt.1.toInt < 512 ∧ cnt' = svS cnt i y z ∧ h'.1 o = some (101, [aJ cnt.1.toInt64]))
def lwS (b x m o L : Nat) (xs : Nat → Int32) (K : Nat) (σ : rS) (cnt : sV) (i y z : Int32) (h : ah_H) : ah_R → Prop := rI fun k h' => ∃ κ' cnt', LB b x m o L xs K κ' σ h' ∧ sgR x cnt' h' ∧ h'.2.1 ≤ h.2.1 + 20 ∧ h'.2.2.1 ≤ h.2.2.1 + 6000 ∧ lwK cnt cnt' i y z k o h'
theorem L_signal {v1 v2 v3 : Int32} (B : LB b x m o L xs K κ σ h) (S : sgR x cnt h) (hr : h.2.1 + 20 ≤ lim.1 ∧ h.2.2.1 + 6000 ≤ lim.2) : wq (vc lim (d + 21) m_Law_signal [.inr (.inr (some x)), .inl v1, .inl v2, .inl v3, .inr (.inr (some o))] h) (lwS b x m o L xs (K + 1) σ cnt v1 v2 v3 h) := by
  obtain ⟨sg, mk, lk, un, uc, nk, td, rn, rs, row, e1, e2, e3, e4⟩ := id S
  obtain ⟨k1, -⟩ := sg_k B e1
  obtain ⟨t1, b0, b1⟩ := sg_r B k1 e2
  obtain ⟨w1, -⟩ := sg_w B t1 e3
  refine wq_eq e_Law_signal (L_ax B ?_)
  obtain ⟨z, e, hz⟩ := n_signal (lim := lim) (d := d + 17) (i := v1) (x := v2) (y := v3) B.2.1 B.2.2.1 e1 k1 e2 t1 b0 ⟨by omega, by omega⟩
  refine wq_eq (congrArg (fun r => ah_cI r _ _) e) ?_
  rcases hz with ⟨c1, rfl⟩ | ⟨c1, c2, rfl⟩ | ⟨c1, c2, h', κ', t, nw, ls, vs, rfl, A, f1, f2, f3, f4, f5, -⟩
  · show wq (ah_hx lim (d + 20) 261 7 _ h (200, h.2.1) (ah_new h (200, []) 6)) _
    exact wq_hx rfl rfl hM_261 rfl (wq_eq q_261_15 (wq_some (rI_i ⟨κ, cnt, LB_class B (cS_x B (by omega)), sgR_x B S, by show h.2.1 + 1 ≤ _; omega, by show h.2.2.1 + 6 ≤ _; omega, Or.inl ⟨rfl, c1, rfl⟩⟩)))
  · show wq (ah_hx lim (d + 20) 261 7 _ h (201, h.2.1) (ah_new h (201, []) 6)) _
    exact wq_hx rfl rfl hM_261 rfl (wq_eq q_261_19 (wq_some (rI_i ⟨κ, cnt, LB_class B (cS_x B (by omega)), sgR_x B S, by show h.2.1 + 1 ≤ _; omega, by show h.2.2.1 + 6 ≤ _; omega, Or.inr (Or.inl ⟨rfl, c1, c2, rfl⟩)⟩)))
  · have C := cS_a A
    have C1 : cS κ κ' (K + 1) 3 22 h h' := ⟨cI_K (by omega) C.1, C.2⟩
    have B1 := LB_class B C1
    have ex : h'.1 x = some (0, [aR sg, aR mk, aR lk, aR un, aI uc, aI nk, aR td, aR rn]) := (A.2.2.2.2.1 x (0, 0) B.2.2.2.1 rfl).trans e1
    have fv : row = vs := by
      have g := e3.symm.trans f2
      cases g
      rfl
    rw [← fv] at f3
    have n0 : cnt.1.toNatClampNeg < row.length := by rw [w1]; exact ix_lt b0 c2
    have o1 : (1 : Int32).toInt = 1 := rfl
    have hx : (cnt.1 + 1).toInt = cnt.1.toInt + 1 := by rw [ad_i (by omega) (by omega), o1]
    have S1 : sgR x (svS cnt v1 v2 v3) h' := by
      refine ⟨sg, mk, lk, un, uc, nk, td, rn, rs, _, ex, f1, f3, fun i hi => ?_⟩
      have hi : (i : Int) < (cnt.1 + 1).toInt := hi
      rw [hx] at hi
      by_cases hk : i = cnt.1.toInt.toNat
      · refine ⟨t, nw, ls, 0, 0, ?_, ?_⟩
        · rw [hk]
          exact List.getElem?_set_self n0
        · have q : ∀ j, (svS cnt v1 v2 v3).2 j i = svF v1 v2 v3 j := fun j => if_pos hk
          rw [q 0, q 1, q 2, q 3]
          exact f5
      · have hi2 : (i : Int) < cnt.1.toInt := by omega
        obtain ⟨th, nw2, ls2, ev2, ac2, r1, r2⟩ := e4 i hi2
        refine ⟨th, nw2, ls2, ev2, ac2, ?_, ?_⟩
        · exact (List.getElem?_set_ne (show cnt.1.toNatClampNeg ≠ i from fun e => hk e.symm)).trans r1
        · rw [A.2.2.2.2.1 th (7, 0) (sg_t B t1 e3 r1) rfl, r2]
          have q : ∀ j, (svS cnt v1 v2 v3).2 j i = cnt.2 j i := fun j => if_neg hk
          rw [q 0, q 1, q 2, q 3]
    refine L_lay B1 (fun B2 => wq_some (rI_i ⟨κ', _, B2, sgR_out B1 S1, ?_, ?_, Or.inr (Or.inr ⟨rfl, c1, c2, rfl, up_eq⟩)⟩))
    · have := C.2.2.2.2.2.1; show h'.2.1 ≤ _; omega
    · have := C.2.2.2.2.2.2; show h'.2.2.1 ≤ _; omega
theorem n_Things_pick {a rw n : Nat} {c i : Int32} {row : List AV} (e : h.1 a = some (8, [aR rw, aI c])) (er : h.1 rw = some (117, row)) (hl : row.length = n) (hn : n ≤ 4000) (hc : c.toInt ≤ n) (ok : ∀ i, i < n → ∃ r, row[i]? = some (.inr (.inr r)) ∧ ∀ t, r = some t → κ t = some (7, 0)) : wq (vc lim (d + 1) m_Things_pick [.inr (.inr (some a)), .inl i] h) (rR fun r h' => h' = h ∧ ((0 ≤ i.toInt ∧ i.toInt < c.toInt ∧ row[i.toInt.toNat]? = some (.inr (.inr r))) ∨ (¬ (0 ≤ i.toInt ∧ i.toInt < c.toInt) ∧ r = none))) := by
  have e0 : (0 : Int32).toInt = 0 := rfl
  refine wq_eq e_Things_pick (wq_if _ (fun c1 => wq_some (rR_i ⟨rfl, Or.inr ⟨?_, rfl⟩⟩)) (fun c1 => wq_gI e rfl (wq_if _ (fun c2 => ?_) (fun c2 => wq_some (rR_i ⟨rfl, Or.inr ⟨?_, rfl⟩⟩)))))
  · have := lt_i c1
    omega
  · have g1 := nlt_i c1
    have g2 := lt_i c2
    refine wq_gR e rfl (wq_len er (by decide) ?_)
    rw [hl]
    have hm : (Nat.toInt32 n).toInt = n := i32n (by omega)
    refine wq_if _ (fun c3 => wq_gR e rfl ?_) (fun c3 => ?_)
    · obtain ⟨r, hr, -⟩ := ok i.toInt.toNat (by omega)
      exact wq_lR er (by decide) c1 hr (wq_some (rR_i ⟨rfl, Or.inl ⟨by omega, g2, hr⟩⟩))
    · exfalso
      have := nlt_i c3
      omega
  · have := nlt_i c2
    omega
theorem n_mark {v1 v2 v3 : Int32} (B : LB b x m o L xs K κ σ h) (S : sgR x cnt h) (z2 : v2 = 0 ∨ v2 = 1) (z3 : v3 = 0 ∨ v3 = 1) (hr : rm lim h) : wq (vc lim (d + 2) m_Code_mark [.inr (.inr (some x)), .inl v1, .inl v2, .inl v3] h) (fun z => (rV fun h' => cI K κ h h' ∧ sgR x cnt h' ∧ 0 ≤ v1.toInt ∧ v1.toInt < cnt.1.toInt) z ∨ (¬ (0 ≤ v1.toInt ∧ v1.toInt < cnt.1.toInt) ∧ z = (.inr (202, h.2.1), ah_new h (202, []) 6))) := by
  obtain ⟨sg, mk, lk, un, uc, nk, td, rn, rs, row, e1, e2, e3, e4⟩ := id S
  obtain ⟨k1, -⟩ := sg_k B e1
  obtain ⟨kr, c0, c1⟩ := sg_r B k1 e2
  obtain ⟨hl, ok⟩ := sg_w B kr e3
  refine wq_eq e_Code_mark (wq_gR e1 rfl (wk_at B.2.1 k1 rfl (fun _ => wq_cR (n_Things_pick e2 e3 hl (by omega) c1 ok) ?_)))
  rintro r h2 ⟨e, q⟩
  cases e
  rcases q with ⟨q0, q1, q2⟩ | ⟨q0, rfl⟩
  · obtain ⟨th, nw, ls, ev, ac, r1, r2⟩ := e4 v1.toInt.toNat (by omega)
    rw [r1] at q2
    cases q2
    have t7 := sg_t B kr e3 r1
    obtain ⟨i', l', lo', hi', nw', ls', ev', ac', e7, tn, tl⟩ := o7 B.2.1 t7
    rw [r2] at e7
    cases e7
    refine wq_f nofun (wq_t z2 (wk_wr B.2.1 t7 rfl r2 (Nat.le_of_ble_eq_true rfl) (i7 tn tl) ?_))
    intro h9 W10 e11 o12
    refine wq_t z3 (wk_wr W10 t7 rfl e11 (Nat.le_of_ble_eq_true rfl) (i7 tn tl) ?_)
    intro h15 W16 e17 o18
    refine wq_some (Or.inl (rV_i ⟨W16, sgR_gen B S (fun q hq => ?_) (fun q i l lo hi ev2 ac2 nw2 ls2 tq eq => ?_), q0, q1⟩))
    · have ne : q ≠ th := by
        rcases hq with hq | hq | hq
        · exact kne hq t7 rfl
        · exact kne hq t7 rfl
        · exact kne hq t7 rfl
      exact (o18 q ne).trans (o12 q ne)
    · by_cases hq : q = th
      · subst hq
        rw [r2] at eq
        cases eq
        exact ⟨_, _, _, _, e17⟩
      · exact ⟨_, _, _, _, (o18 q hq).trans ((o12 q hq).trans eq)⟩
  · exact wq_t rfl (thX hr (Or.inr ⟨q0, rfl⟩))
/-- the class's mark: its code -/
theorem L_mark {v1 v2 v3 : Int32} (B : LB b x m o L xs K κ σ h) (S : sgR x cnt h) (zv2 : v2 = 0 ∨ v2 = 1) (zv3 : v3 = 0 ∨ v3 = 1) (hr : rm lim h) : wq (vc lim (d + 21) m_Law_mark [.inr (.inr (some x)), .inl v1, .inl v2, .inl v3] h) (rI fun k h' => ∃ κ', LB b x m o L xs (K + 1) κ' σ h' ∧ sgR x cnt h' ∧ h'.2.1 ≤ h.2.1 + 20 ∧ h'.2.2.1 ≤ h.2.2.1 + 6000 ∧ ((k = 1 ∧ ¬ (0 ≤ v1.toInt ∧ v1.toInt < cnt.1.toInt)) ∨ (k = 0 ∧ 0 ≤ v1.toInt ∧ v1.toInt < cnt.1.toInt))) := by
  refine wq_eq e_Law_mark (L_ax B ?_)
  obtain ⟨z, e, hz⟩ := n_mark (lim := lim) (d := d + 18) (v1 := v1) (v2 := v2) (v3 := v3) B S zv2 zv3 hr
  refine wq_eq (congrArg (fun r => ah_cV r _ _) e) ?_
  rcases hz with ⟨h1, rfl, W, S1, q0, q1⟩ | ⟨q0, rfl⟩
  · have C : cS κ κ (K + 1) 0 0 h h1 := cS_w B (cI_K (by omega) W)
    exact wq_some (rI_i ⟨κ, LB_class B C, S1, by have := C.2.2.2.2.2.1; omega, by have := C.2.2.2.2.2.2; omega, Or.inr ⟨rfl, q0, q1⟩⟩)
  · show wq (ah_hx lim (d + 20) 266 4 _ h (202, h.2.1) (ah_new h (202, []) 6)) _
    exact wq_hx rfl rfl hM_266 rfl (wq_eq q_266_10 (wq_some (rI_i ⟨κ, LB_class B (cS_x B (by omega)), sgR_x B S, by show h.2.1 + 1 ≤ _; omega, by show h.2.2.1 + 6 ≤ _; omega, Or.inl ⟨rfl, q0⟩⟩)))
theorem L_variable {v1 v2 v3 : Int32} (B : LB b x m o L xs K κ σ h) (S : sgR x cnt h) (hr : h.2.1 + 20 ≤ lim.1 ∧ h.2.2.1 + 6000 ≤ lim.2) : wq (vc lim (d + 21) m_Law_variable [.inr (.inr (some x)), .inl v1, .inl v2, .inl v3, .inr (.inr (some o))] h) (lwP b x m o L xs (K + 1) σ cnt h) := by
  obtain ⟨sg, mk, lk, un, uc, nk, td, rn, rs, row, e1, e2, e2', e2''⟩ := id S
  obtain ⟨k1, k2, -⟩ := sg_k B e1
  obtain ⟨nd, vr, ht, rt, rc, e3, p1, p2, -⟩ := o4 B.2.1 k2
  obtain ⟨rw, cv, e4, t1, b0, b1, -⟩ := o8 B.2.1 p2
  refine wq_eq e_Law_variable (L_ax B ?_)
  obtain ⟨z, e, hz⟩ := n_variable (lim := lim) (d := d + 17) (i := v1) (x := v2) (y := v3) B.2.1 B.2.2.1 e1 e3 p2 e4 t1 b0 ⟨by omega, by omega⟩
  refine wq_eq (congrArg (fun r => ah_cI r _ _) e) ?_
  rcases hz with ⟨c1, rfl⟩ | ⟨c1, c2, rfl⟩ | ⟨c1, c2, h', κ', t, nw, ls, vs, rfl, A, f1, f2, f3, -⟩
  · exact X_variable B S rfl
  · exact X_variable B S rfl
  · have C := cS_a A
    have C1 : cS κ κ' (K + 1) 14 5990 h h' := cS_le (c := 3) (n := 22) ⟨cI_K (by omega) C.1, C.2⟩ (by omega) (by omega)
    refine L_fin B S C1 (sgR_same B S (fun q v hq hv => ?_))
    rcases hv with rfl | rfl | rfl | rfl
    · exact A.2.2.2.2.1 q _ hq rfl
    · exact A.2.2.2.2.1 q _ hq rfl
    · exact A.2.2.2.2.1 q _ hq rfl
    · exact A.2.2.2.2.1 q _ hq rfl
theorem L_process (B : LB b x m o L xs K κ σ h) (S : sgR x cnt h) (hK : K ≤ 520) (hr : h.2.1 + 20 ≤ lim.1 ∧ h.2.2.1 + 6000 ≤ lim.2) : wq (vc lim (d + 21) m_Law_process [.inr (.inr (some x)), .inr (.inr (some o))] h) (lwP b x m o L xs (K + 1) σ cnt h) := by
  obtain ⟨sg, mk, lk, un, uc, nk, td, rn, rs, row, e1, e2, e2', e2''⟩ := id S
  obtain ⟨k1, k2, k3, k4⟩ := sg_k B e1
  obtain ⟨nd, vr, ht, rt, rc, e3, p1, p2, p3, p4, -⟩ := o4 B.2.1 k2
  obtain ⟨rw, cv, e4, t1, b0, b1, -⟩ := o8 B.2.1 p2
  obtain ⟨a0, a1, a2, a3, a4, a5, a6, a7, cn, kt, e5, s0, s1, s2, s3, s4, s5, s6, s7, -⟩ := o5 B.2.1 p1
  obtain ⟨us, eu, -⟩ := B.2.1.1 _ _ _ t1
  obtain ⟨vu, ev, -⟩ := B.2.1.1 _ _ _ k4
  obtain ⟨l0, f0, -⟩ := B.2.1.1 _ _ _ s0
  obtain ⟨l1, f1, -⟩ := B.2.1.1 _ _ _ s1
  obtain ⟨l2, f2, -⟩ := B.2.1.1 _ _ _ s2
  obtain ⟨l3, f3, -⟩ := B.2.1.1 _ _ _ s3
  obtain ⟨l4, f4, -⟩ := B.2.1.1 _ _ _ s4
  obtain ⟨l5, f5, -⟩ := B.2.1.1 _ _ _ s5
  obtain ⟨l6, f6, -⟩ := B.2.1.1 _ _ _ s6
  obtain ⟨l7, f7, -⟩ := B.2.1.1 _ _ _ s7
  have hS : ∀ i, i < 8 → κ ([a0, a1, a2, a3, a4, a5, a6, a7].getD i 0) = some (100, 4000) ∧ h.1 ([a0, a1, a2, a3, a4, a5, a6, a7].getD i 0) = some (100, [l0, l1, l2, l3, l4, l5, l6, l7].getD i []) := by
    intro i hi
    match i, hi with
    | 0, _ => exact ⟨s0, f0⟩
    | 1, _ => exact ⟨s1, f1⟩
    | 2, _ => exact ⟨s2, f2⟩
    | 3, _ => exact ⟨s3, f3⟩
    | 4, _ => exact ⟨s4, f4⟩
    | 5, _ => exact ⟨s5, f5⟩
    | 6, _ => exact ⟨s6, f6⟩
    | 7, _ => exact ⟨s7, f7⟩
  obtain ⟨w, hw⟩ : ∃ w, wq (vc lim (d + 11 + 8) m_Looker_firstWrong [aR lk] h) (rI fun x h' => h' = h ∧ x = w) := by
    obtain ⟨z, e, i, h', rfl, rfl, -⟩ := s_Looker_firstWrong (lim := lim) (d := d + 12) B.2.1 k3
    exact ⟨i, _, e, i, _, rfl, rfl, rfl⟩
  obtain ⟨w2, hw2⟩ : ∃ w, wq (vc lim (d + 11 + 8) m_Looker_isOneBody [aR lk] h) (rI fun x h' => h' = h ∧ x = w) := by
    obtain ⟨z, e, i, h', rfl, rfl, -⟩ := s_Looker_isOneBody (lim := lim) (d := d + 15) B.2.1 k3
    exact ⟨i, _, e, i, _, rfl, rfl, rfl⟩
  refine wq_eq e_Law_process (L_ax B ?_)
  obtain ⟨z, e, hz⟩ := n_process (lim := lim) (d := d + 11) (S := fun i => [a0, a1, a2, a3, a4, a5, a6, a7].getD i 0) (L := fun i => [l0, l1, l2, l3, l4, l5, l6, l7].getD i []) B.2.1 B.2.2.1 (by omega) B.2.2.2.1 e1 ⟨e3, e5, e4, k2, p1, p2, t1, p3, p4, fun i hi => (hS i hi).1⟩ (fun i hi => (hS i hi).2) eu ev hw hw2 ⟨by omega, by omega⟩
  refine wq_eq (congrArg (fun r => ah_cI r _ _) e) ?_
  rcases hz with ⟨-, rfl⟩ | ⟨-, -, h', κ', v, uc', nk', rfl, A, ex, -⟩
  · exact X_process B S rfl
  · have C := cS_a A
    have C1 : cS κ κ' (K + 1) 14 5990 h h' := cS_le (c := 14) (n := 280 + 10 * K) ⟨cI_K (by omega) C.1, C.2⟩ (by omega) (by omega)
    have kr := (sg_r B k1 e2).1
    refine L_fin B S C1 ⟨sg, mk, lk, un, uc', nk', td, rn, rs, row, ex, (A.2.2.2.2.1 sg (8, 512) k1 rfl).trans e2, (A.2.2.2.2.1 rs (117, 512) kr rfl).trans e2', fun i hi => ?_⟩
    obtain ⟨th, nw, ls, ev, ac, r1, r2⟩ := e2'' i hi
    exact ⟨th, nw, ls, ev, ac, r1, (A.2.2.2.2.1 th (7, 0) (sg_t B kr e2' r1) rfl).trans r2⟩
end La
