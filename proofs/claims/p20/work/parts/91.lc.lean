/-! THE LAW'S CALLS OF THE CLASS, by program (wip/tools/law.py) -/
section La
variable {lim : Nat × Nat} {K d b x m o L : Nat} {xs : Nat → Int32} {κ : kM} {σ : rS} {h : ah_H} {cnt : sV}
theorem X_variable {k : Nat} {v1 v2 v3 : Int32} (B : LB b x m o L xs K κ σ h) (S : sgR x cnt h) (hk : [200, 201].contains k = true) : wq (ah_hx lim d 262 7 [some (.inr (.inr (some x))), some (.inl v1), some (.inl v2), some (.inl v3), some (.inr (.inr (some o))), none] h (k, h.2.1) (ah_new h (k, []) 6)) (lwP b x m o L xs (K + 1) σ cnt h) := by
  have hk : k = 200 ∨ k = 201 := by simpa using hk
  rcases hk with rfl | rfl
  · exact wq_hx rfl rfl hM_262 rfl (wq_eq q_262_15 (wq_some (lwP_x B S (by omega))))
  · exact wq_hx rfl rfl hM_262 rfl (wq_eq q_262_19 (wq_some (lwP_x B S (by omega))))
theorem X_add {k : Nat} {v1 v2 v3 : Int32} (B : LB b x m o L xs K κ σ h) (S : sgR x cnt h) (hk : [200, 201].contains k = true) : wq (ah_hx lim d 263 7 [some (.inr (.inr (some x))), some (.inl v1), some (.inl v2), some (.inl v3), some (.inr (.inr (some o))), none] h (k, h.2.1) (ah_new h (k, []) 6)) (lwP b x m o L xs (K + 1) σ cnt h) := by
  have hk : k = 200 ∨ k = 201 := by simpa using hk
  rcases hk with rfl | rfl
  · exact wq_hx rfl rfl hM_263 rfl (wq_eq q_263_15 (wq_some (lwP_x B S (by omega))))
  · exact wq_hx rfl rfl hM_263 rfl (wq_eq q_263_19 (wq_some (lwP_x B S (by omega))))
theorem X_put {k : Nat} {v1 v2 v3 v4 : Int32} (B : LB b x m o L xs K κ σ h) (S : sgR x cnt h) (hk : [200, 202].contains k = true) : wq (ah_hx lim d 265 6 [some (.inr (.inr (some x))), some (.inl v1), some (.inl v2), some (.inl v3), some (.inl v4), none] h (k, h.2.1) (ah_new h (k, []) 6)) (lwP b x m o L xs (K + 1) σ cnt h) := by
  have hk : k = 200 ∨ k = 202 := by simpa using hk
  rcases hk with rfl | rfl
  · exact wq_hx rfl rfl hM_265 rfl (wq_eq q_265_16 (wq_some (lwP_x B S (by omega))))
  · exact wq_hx rfl rfl hM_265 rfl (wq_eq q_265_12 (wq_some (lwP_x B S (by omega))))
theorem X_mark {k : Nat} {v1 v2 v3 : Int32} (B : LB b x m o L xs K κ σ h) (S : sgR x cnt h) (hk : [202].contains k = true) : wq (ah_hx lim d 266 4 [some (.inr (.inr (some x))), some (.inl v1), some (.inl v2), some (.inl v3), none] h (k, h.2.1) (ah_new h (k, []) 6)) (lwP b x m o L xs (K + 1) σ cnt h) := by
  have hk : k = 202 := by simpa using hk
  subst hk
  exact wq_hx rfl rfl hM_266 rfl (wq_eq q_266_10 (wq_some (lwP_x B S (by omega))))
theorem X_get {k : Nat} {v1 v2 : Int32} (B : LB b x m o L xs K κ σ h) (S : sgR x cnt h) (hk : [202].contains k = true) : wq (ah_hx lim d 267 5 [some (.inr (.inr (some x))), some (.inl v1), some (.inl v2), some (.inr (.inr (some o))), none] h (k, h.2.1) (ah_new h (k, []) 6)) (lwP b x m o L xs (K + 1) σ cnt h) := by
  have hk : k = 202 := by simpa using hk
  subst hk
  exact wq_hx rfl rfl hM_267 rfl (wq_eq q_267_13 (wq_some (lwP_x B S (by omega))))
theorem L_get {v1 v2 : Int32} (B : LB b x m o L xs K κ σ h) (S : sgR x cnt h) (hr : rm lim h) : wq (vc lim (d + 21) m_Law_get [.inr (.inr (some x)), .inl v1, .inl v2, .inr (.inr (some o))] h) (lwP b x m o L xs (K + 1) σ cnt h) := by
  refine wq_eq e_Law_get (L_ax B ?_)
  obtain ⟨z, e, hz⟩ := s_Code_get (lim := lim) (d := d + 18) (v1 := v1) (v2 := v2) B.2.1 B.2.2.2.1 hr
  rcases hz with ⟨i, h1, rfl, rfl, -⟩ | ⟨k, hk, rfl⟩
  · refine wq_eq (congrArg (fun r => ah_cI r _ _) e) ?_
    exact L_fin B S (cS_le (cS_0 B (by omega)) (by omega) (by omega)) S
  · refine wq_eq (congrArg (fun r => ah_cI r _ _) e) ?_
    exact X_get B S hk
theorem X_set {k : Nat} {v1 v2 v3 v4 : Int32} (B : LB b x m o L xs K κ σ h) (S : sgR x cnt h) (hk : [200, 202].contains k = true) : wq (ah_hx lim d 268 6 [some (.inr (.inr (some x))), some (.inl v1), some (.inl v2), some (.inl v3), some (.inl v4), none] h (k, h.2.1) (ah_new h (k, []) 6)) (lwP b x m o L xs (K + 1) σ cnt h) := by
  have hk : k = 200 ∨ k = 202 := by simpa using hk
  rcases hk with rfl | rfl
  · exact wq_hx rfl rfl hM_268 rfl (wq_eq q_268_16 (wq_some (lwP_x B S (by omega))))
  · exact wq_hx rfl rfl hM_268 rfl (wq_eq q_268_12 (wq_some (lwP_x B S (by omega))))
theorem X_variableOf {k : Nat} {v1 v2 v3 : Int32} (B : LB b x m o L xs K κ σ h) (S : sgR x cnt h) (hk : [202].contains k = true) : wq (ah_hx lim d 269 7 [some (.inr (.inr (some x))), some (.inl v1), some (.inl v2), some (.inl v3), some (.inr (.inr (some o))), none] h (k, h.2.1) (ah_new h (k, []) 6)) (lwP b x m o L xs (K + 1) σ cnt h) := by
  have hk : k = 202 := by simpa using hk
  subst hk
  exact wq_hx rfl rfl hM_269 rfl (wq_eq q_269_15 (wq_some (lwP_x B S (by omega))))
theorem L_variableOf {v1 v2 v3 : Int32} (B : LB b x m o L xs K κ σ h) (S : sgR x cnt h) (hr : rm lim h) : wq (vc lim (d + 21) m_Law_variableOf [.inr (.inr (some x)), .inl v1, .inl v2, .inl v3, .inr (.inr (some o))] h) (lwP b x m o L xs (K + 1) σ cnt h) := by
  refine wq_eq e_Law_variableOf (L_ax B ?_)
  obtain ⟨z, e, hz⟩ := s_Code_variableOf (lim := lim) (d := d + 17) (v1 := v1) (v2 := v2) (v3 := v3) B.2.1 B.2.2.2.1 hr
  rcases hz with ⟨i, h1, rfl, rfl, -⟩ | ⟨k, hk, rfl⟩
  · refine wq_eq (congrArg (fun r => ah_cI r _ _) e) ?_
    exact L_fin B S (cS_le (cS_0 B (by omega)) (by omega) (by omega)) S
  · refine wq_eq (congrArg (fun r => ah_cI r _ _) e) ?_
    exact X_variableOf B S hk
theorem X_resume {k : Nat} {v1 v2 : Int32} (B : LB b x m o L xs K κ σ h) (S : sgR x cnt h) (hk : [200, 201, 202].contains k = true) : wq (ah_hx lim d 270 5 [some (.inr (.inr (some x))), some (.inl v1), some (.inl v2), some (.inr (.inr (some o))), none] h (k, h.2.1) (ah_new h (k, []) 6)) (lwP b x m o L xs (K + 1) σ cnt h) := by
  have hk : k = 200 ∨ k = 201 ∨ k = 202 := by simpa using hk
  rcases hk with rfl | rfl | rfl
  · exact wq_hx rfl rfl hM_270 rfl (wq_eq q_270_17 (wq_some (lwP_x B S (by omega))))
  · exact wq_hx rfl rfl hM_270 rfl (wq_eq q_270_21 (wq_some (lwP_x B S (by omega))))
  · exact wq_hx rfl rfl hM_270 rfl (wq_eq q_270_13 (wq_some (lwP_x B S (by omega))))
theorem L_resume {v1 v2 : Int32} (B : LB b x m o L xs K κ σ h) (S : sgR x cnt h) (hr : rm lim h) : wq (vc lim (d + 21) m_Law_resume [.inr (.inr (some x)), .inl v1, .inl v2, .inr (.inr (some o))] h) (lwP b x m o L xs (K + 1) σ cnt h) := by
  refine wq_eq e_Law_resume (L_ax B ?_)
  obtain ⟨z, e, hz⟩ := s_Code_resume (lim := lim) (d := d + 12) (v1 := v1) (v2 := v2) B.2.1 B.2.2.2.1 hr
  rcases hz with ⟨i, h1, rfl, W, g, -⟩ | ⟨k, hk, rfl⟩
  · refine wq_eq (congrArg (fun r => ah_cI r _ _) e) ?_
    exact L_fin B S (cS_le (cS_w B (cI_K (by omega) W)) (by omega) (by omega)) (sgR_f B S W g rfl)
  · refine wq_eq (congrArg (fun r => ah_cI r _ _) e) ?_
    exact X_resume B S hk
theorem X_holds {k : Nat} {v1 : Int32} (B : LB b x m o L xs K κ σ h) (S : sgR x cnt h) (hk : [201, 202].contains k = true) : wq (ah_hx lim d 271 4 [some (.inr (.inr (some x))), some (.inl v1), some (.inr (.inr (some o))), none] h (k, h.2.1) (ah_new h (k, []) 6)) (lwP b x m o L xs (K + 1) σ cnt h) := by
  have hk : k = 201 ∨ k = 202 := by simpa using hk
  rcases hk with rfl | rfl
  · exact wq_hx rfl rfl hM_271 rfl (wq_eq q_271_15 (wq_some (lwP_x B S (by omega))))
  · exact wq_hx rfl rfl hM_271 rfl (wq_eq q_271_12 (wq_some (lwP_x B S (by omega))))
theorem L_holds {v1 : Int32} (B : LB b x m o L xs K κ σ h) (S : sgR x cnt h) (hr : rm lim h) : wq (vc lim (d + 21) m_Law_holds [.inr (.inr (some x)), .inl v1, .inr (.inr (some o))] h) (lwP b x m o L xs (K + 1) σ cnt h) := by
  refine wq_eq e_Law_holds (L_ax B ?_)
  obtain ⟨z, e, hz⟩ := s_Code_holds (lim := lim) (d := d + 13) (v1 := v1) B.2.1 B.2.2.2.1 hr
  rcases hz with ⟨i, h1, rfl, W, g, -⟩ | ⟨k, hk, rfl⟩
  · refine wq_eq (congrArg (fun r => ah_cI r _ _) e) ?_
    exact L_fin B S (cS_le (cS_w B (cI_K (by omega) W)) (by omega) (by omega)) (sgR_f B S W g rfl)
  · refine wq_eq (congrArg (fun r => ah_cI r _ _) e) ?_
    exact X_holds B S hk
theorem X_about {k : Nat} {v1 v2 : Int32} (B : LB b x m o L xs K κ σ h) (S : sgR x cnt h) (hk : [200, 202].contains k = true) : wq (ah_hx lim d 272 5 [some (.inr (.inr (some x))), some (.inl v1), some (.inl v2), some (.inr (.inr (some o))), none] h (k, h.2.1) (ah_new h (k, []) 6)) (lwP b x m o L xs (K + 1) σ cnt h) := by
  have hk : k = 200 ∨ k = 202 := by simpa using hk
  rcases hk with rfl | rfl
  · exact wq_hx rfl rfl hM_272 rfl (wq_eq q_272_17 (wq_some (lwP_x B S (by omega))))
  · exact wq_hx rfl rfl hM_272 rfl (wq_eq q_272_13 (wq_some (lwP_x B S (by omega))))
theorem L_about {v1 v2 : Int32} (B : LB b x m o L xs K κ σ h) (S : sgR x cnt h) (hr : rm lim h) : wq (vc lim (d + 21) m_Law_about [.inr (.inr (some x)), .inl v1, .inl v2, .inr (.inr (some o))] h) (lwP b x m o L xs (K + 1) σ cnt h) := by
  refine wq_eq e_Law_about (L_ax B ?_)
  obtain ⟨z, e, hz⟩ := s_Code_about (lim := lim) (d := d + 17) (v1 := v1) (v2 := v2) B.2.1 B.2.2.2.1 hr
  rcases hz with ⟨i, h1, rfl, rfl, -⟩ | ⟨k, hk, rfl⟩
  · refine wq_eq (congrArg (fun r => ah_cI r _ _) e) ?_
    exact L_fin B S (cS_le (cS_0 B (by omega)) (by omega) (by omega)) S
  · refine wq_eq (congrArg (fun r => ah_cI r _ _) e) ?_
    exact X_about B S hk
theorem X_waits {k : Nat} {v1 v2 : Int32} (B : LB b x m o L xs K κ σ h) (S : sgR x cnt h) (hk : [202].contains k = true) : wq (ah_hx lim d 273 5 [some (.inr (.inr (some x))), some (.inl v1), some (.inl v2), some (.inr (.inr (some o))), none] h (k, h.2.1) (ah_new h (k, []) 6)) (lwP b x m o L xs (K + 1) σ cnt h) := by
  have hk : k = 202 := by simpa using hk
  subst hk
  exact wq_hx rfl rfl hM_273 rfl (wq_eq q_273_13 (wq_some (lwP_x B S (by omega))))
theorem L_waits {v1 v2 : Int32} (B : LB b x m o L xs K κ σ h) (S : sgR x cnt h) (hr : rm lim h) : wq (vc lim (d + 21) m_Law_waits [.inr (.inr (some x)), .inl v1, .inl v2, .inr (.inr (some o))] h) (lwP b x m o L xs (K + 1) σ cnt h) := by
  refine wq_eq e_Law_waits (L_ax B ?_)
  obtain ⟨z, e, hz⟩ := s_Code_waits (lim := lim) (d := d + 17) (v1 := v1) (v2 := v2) B.2.1 B.2.2.2.1 hr
  rcases hz with ⟨i, h1, rfl, rfl, -⟩ | ⟨k, hk, rfl⟩
  · refine wq_eq (congrArg (fun r => ah_cI r _ _) e) ?_
    exact L_fin B S (cS_le (cS_0 B (by omega)) (by omega) (by omega)) S
  · refine wq_eq (congrArg (fun r => ah_cI r _ _) e) ?_
    exact X_waits B S hk
theorem X_until {k : Nat} {v1 : Int32} (B : LB b x m o L xs K κ σ h) (S : sgR x cnt h) (hk : [202].contains k = true) : wq (ah_hx lim d 274 4 [some (.inr (.inr (some x))), some (.inl v1), some (.inr (.inr (some o))), none] h (k, h.2.1) (ah_new h (k, []) 6)) (lwP b x m o L xs (K + 1) σ cnt h) := by
  have hk : k = 202 := by simpa using hk
  subst hk
  exact wq_hx rfl rfl hM_274 rfl (wq_eq q_274_11 (wq_some (lwP_x B S (by omega))))
theorem L_until {v1 : Int32} (B : LB b x m o L xs K κ σ h) (S : sgR x cnt h) (hr : rm lim h) : wq (vc lim (d + 21) m_Law_until [.inr (.inr (some x)), .inl v1, .inr (.inr (some o))] h) (lwP b x m o L xs (K + 1) σ cnt h) := by
  refine wq_eq e_Law_until (L_ax B ?_)
  obtain ⟨z, e, hz⟩ := s_Code_until (lim := lim) (d := d + 18) (v1 := v1) B.2.1 B.2.2.2.1 hr
  rcases hz with ⟨i, h1, rfl, rfl, -⟩ | ⟨k, hk, rfl⟩
  · refine wq_eq (congrArg (fun r => ah_cJ r _ _) e) ?_
    exact L_fin B S (cS_le (cS_0 B (by omega)) (by omega) (by omega)) S
  · refine wq_eq (congrArg (fun r => ah_cJ r _ _) e) ?_
    exact X_until B S hk
theorem X_act {k : Nat} {v1 v2 : Int32} (B : LB b x m o L xs K κ σ h) (S : sgR x cnt h) (hk : [200, 202].contains k = true) : wq (ah_hx lim d 275 5 [some (.inr (.inr (some x))), some (.inl v1), some (.inl v2), some (.inr (.inr (some o))), none] h (k, h.2.1) (ah_new h (k, []) 6)) (lwP b x m o L xs (K + 1) σ cnt h) := by
  have hk : k = 200 ∨ k = 202 := by simpa using hk
  rcases hk with rfl | rfl
  · exact wq_hx rfl rfl hM_275 rfl (wq_eq q_275_17 (wq_some (lwP_x B S (by omega))))
  · exact wq_hx rfl rfl hM_275 rfl (wq_eq q_275_13 (wq_some (lwP_x B S (by omega))))
theorem L_act {v1 v2 : Int32} (B : LB b x m o L xs K κ σ h) (S : sgR x cnt h) (hr : rm lim h) : wq (vc lim (d + 21) m_Law_act [.inr (.inr (some x)), .inl v1, .inl v2, .inr (.inr (some o))] h) (lwP b x m o L xs (K + 1) σ cnt h) := by
  refine wq_eq e_Law_act (L_ax B ?_)
  obtain ⟨z, e, hz⟩ := s_Code_act (lim := lim) (d := d + 18) (v1 := v1) (v2 := v2) B.2.1 B.2.2.2.1 hr
  rcases hz with ⟨i, h1, rfl, rfl, -⟩ | ⟨k, hk, rfl⟩
  · refine wq_eq (congrArg (fun r => ah_cI r _ _) e) ?_
    exact L_fin B S (cS_le (cS_0 B (by omega)) (by omega) (by omega)) S
  · refine wq_eq (congrArg (fun r => ah_cI r _ _) e) ?_
    exact X_act B S hk
theorem X_value {k : Nat} {v1 v2 v3 : Int32} (B : LB b x m o L xs K κ σ h) (S : sgR x cnt h) (hk : [202].contains k = true) : wq (ah_hx lim d 276 7 [some (.inr (.inr (some x))), some (.inl v1), some (.inl v2), some (.inl v3), some (.inr (.inr (some o))), none] h (k, h.2.1) (ah_new h (k, []) 6)) (lwP b x m o L xs (K + 1) σ cnt h) := by
  have hk : k = 202 := by simpa using hk
  subst hk
  exact wq_hx rfl rfl hM_276 rfl (wq_eq q_276_15 (wq_some (lwP_x B S (by omega))))
theorem L_value {v1 v2 v3 : Int32} (B : LB b x m o L xs K κ σ h) (S : sgR x cnt h) (hr : rm lim h) : wq (vc lim (d + 21) m_Law_value [.inr (.inr (some x)), .inl v1, .inl v2, .inl v3, .inr (.inr (some o))] h) (lwP b x m o L xs (K + 1) σ cnt h) := by
  refine wq_eq e_Law_value (L_ax B ?_)
  obtain ⟨z, e, hz⟩ := s_Code_value (lim := lim) (d := d + 16) (v1 := v1) (v2 := v2) (v3 := v3) B.2.1 B.2.2.2.1 hr
  rcases hz with ⟨i, h1, rfl, rfl, -⟩ | ⟨k, hk, rfl⟩
  · refine wq_eq (congrArg (fun r => ah_cI r _ _) e) ?_
    exact L_fin B S (cS_le (cS_0 B (by omega)) (by omega) (by omega)) S
  · refine wq_eq (congrArg (fun r => ah_cI r _ _) e) ?_
    exact X_value B S hk
theorem X_delay {k : Nat} {v1 v2 : Int32} (B : LB b x m o L xs K κ σ h) (S : sgR x cnt h) (hk : [202].contains k = true) : wq (ah_hx lim d 277 5 [some (.inr (.inr (some x))), some (.inl v1), some (.inl v2), some (.inr (.inr (some o))), none] h (k, h.2.1) (ah_new h (k, []) 6)) (lwP b x m o L xs (K + 1) σ cnt h) := by
  have hk : k = 202 := by simpa using hk
  subst hk
  exact wq_hx rfl rfl hM_277 rfl (wq_eq q_277_12 (wq_some (lwP_x B S (by omega))))
theorem L_delay {v1 v2 : Int32} (B : LB b x m o L xs K κ σ h) (S : sgR x cnt h) (hr : rm lim h) : wq (vc lim (d + 21) m_Law_delay [.inr (.inr (some x)), .inl v1, .inl v2, .inr (.inr (some o))] h) (lwP b x m o L xs (K + 1) σ cnt h) := by
  refine wq_eq e_Law_delay (L_ax B ?_)
  obtain ⟨z, e, hz⟩ := s_Code_delay (lim := lim) (d := d + 17) (v1 := v1) (v2 := v2) B.2.1 B.2.2.2.1 hr
  rcases hz with ⟨i, h1, rfl, rfl, -⟩ | ⟨k, hk, rfl⟩
  · refine wq_eq (congrArg (fun r => ah_cJ r _ _) e) ?_
    exact L_fin B S (cS_le (cS_0 B (by omega)) (by omega) (by omega)) S
  · refine wq_eq (congrArg (fun r => ah_cJ r _ _) e) ?_
    exact X_delay B S hk
theorem X_signal {k : Nat} {v1 v2 v3 : Int32} (B : LB b x m o L xs K κ σ h) (S : sgR x cnt h) (hk : [200, 201].contains k = true) : wq (ah_hx lim d 261 7 [some (.inr (.inr (some x))), some (.inl v1), some (.inl v2), some (.inl v3), some (.inr (.inr (some o))), none] h (k, h.2.1) (ah_new h (k, []) 6)) (lwP b x m o L xs (K + 1) σ cnt h) := by
  have hk : k = 200 ∨ k = 201 := by simpa using hk
  rcases hk with rfl | rfl
  · exact wq_hx rfl rfl hM_261 rfl (wq_eq q_261_15 (wq_some (lwP_x B S (by omega))))
  · exact wq_hx rfl rfl hM_261 rfl (wq_eq q_261_19 (wq_some (lwP_x B S (by omega))))
theorem X_process {k : Nat}  (B : LB b x m o L xs K κ σ h) (S : sgR x cnt h) (hk : [201].contains k = true) : wq (ah_hx lim d 264 3 [some (.inr (.inr (some x))), some (.inr (.inr (some o))), none] h (k, h.2.1) (ah_new h (k, []) 6)) (lwP b x m o L xs (K + 1) σ cnt h) := by
  have hk : k = 201 := by simpa using hk
  subst hk
  exact wq_hx rfl rfl hM_264 rfl (wq_eq q_264_11 (wq_some (lwP_x B S (by omega))))
theorem PR_s {sg mk lk un td rn rs : Nat} {uc nk cs : Int32} {σ' : rS} (P : PR x σ' h) (e1 : h.1 x = some (0, [aR sg, aR mk, aR lk, aR un, aI uc, aI nk, aR td, aR rn])) (e2 : h.1 sg = some (8, [aR rs, aI cs])) : sg < x + 656 ∧ rs < x + 656 := by
  obtain ⟨sg', un', vr', rs', rw', ⟨mk', lk', td', rn', uc', nk', nd', ht', ro', rc', cs', cv', a1, a2, a3, a4⟩, ⟨b1, b2, b3, b4, b5⟩, -⟩ := P
  rw [e1] at a1
  cases a1
  rw [e2] at a3
  cases a3
  exact ⟨b1, b3⟩
theorem PR_v {sg mk lk un td rn nd vr ht ro rw : Nat} {uc nk rc cv : Int32} {σ' : rS} (P : PR x σ' h) (e1 : h.1 x = some (0, [aR sg, aR mk, aR lk, aR un, aI uc, aI nk, aR td, aR rn])) (em : h.1 mk = some (4, [aR nd, aR vr, aR ht, aR ro, aI rc])) (e4 : h.1 vr = some (8, [aR rw, aI cv])) : vr < x + 656 ∧ rw < x + 656 := by
  obtain ⟨sg', un', vr', rs', rw', ⟨mk', lk', td', rn', uc', nk', nd', ht', ro', rc', cs', cv', a1, a2, a3, a4⟩, ⟨b1, b2, b3, b4, b5⟩, -⟩ := P
  rw [e1] at a1
  cases a1
  rw [em] at a2
  cases a2
  rw [e4] at a4
  cases a4
  exact ⟨b2, b4⟩
theorem PR_d {σ' : rS} (P : PR x σ' h) : DW σ' := by
  obtain ⟨-, -, -, -, -, -, -, dw, -⟩ := P
  exact dw
theorem vaR_K {σ' : rS} {c a e : Int32} (v : vaR σ σ' c a e) : KG σ σ' := ⟨v.2.1 23 (by omega), fun j i hj => v.2.2.1 j i (by omega) (by omega), fun j i h1 h2 h3 => v.2.2.2.1 j i h1 (by omega) (by omega) (by omega)⟩
theorem vaR_D {σ' : rS} {c a e : Int32} (R : RI σ) (v : vaR σ σ' c a e) (dw : DW σ) : DW σ' := by
  obtain ⟨w1, w2, w3, w4, w5, w6, w7, w8⟩ := v
  obtain ⟨-, -, -, -, c0, c1, -⟩ := R.2.2.2.1.1
  intro i hi h1
  by_cases c : i = (σ.1 9).toInt.toNat
  · subst c
    rw [w5] at h1
    rw [w6, w7, if_pos h1]
  · have h2 : (i : Int) < (σ.1 9).toInt := by omega
    by_cases l : 9216 + i < 9344
    · rw [w4 0 _ (by omega) (by omega) l (by omega)] at h1
      rw [w4 1 _ (by omega) (by omega) l (by omega), w4 2 _ (by omega) (by omega) l (by omega)]
      exact dw i h2 h1
    · omega
theorem adR_K {σ' : rS} {v1 v2 v3 : Int32} (a : adR σ σ' v1 v2 v3) : KG σ σ' ∧ σ'.1 8 = σ.1 8 ∧ (DW σ → DW σ') := by
  obtain ⟨N, R, n, τ, q1, q2, q3, q4, l, q5, q6, q7, q8, q9, q10, q11, q12⟩ := a
  have l2 := l.2.1
  have e : ∀ j i, j ≤ 7 ∨ 16 ≤ j → ia σ' j i = ia σ j i := fun j i hj => (q11 j i (by omega)).trans (l2 j i (by omega))
  refine ⟨⟨q10 23 (by omega), fun j i hj => e j i (by omega), fun j i h1 _ _ => e j i (by omega)⟩, q10 8 (by omega), fun dw v hv => ?_⟩
  rw [q10 9 (by omega)] at hv
  rw [e 0 _ (by omega), e 1 _ (by omega), e 2 _ (by omega)]
  exact dw v hv
/-- one signal more -/
def svF (i x y : Int32) : Nat → Int32
  | 0 => i
  | 1 => if i = 1 then x else 1
  | 2 => if i = 2 then x else 0
  | _ => if i = 2 then y else 8
def svS (cnt : sV) (i x y : Int32) : sV := (cnt.1 + 1, (fun j k => if k = cnt.1.toInt.toNat then svF i x y j else cnt.2.1 j k), cnt.2.2)
def lwK (cnt cnt' : sV) (i y z k : Int32) (o : Nat) (h' : ah_H) : Prop := (k = 1 ∧ ¬ cb i y z ∧ cnt' = cnt) ∨ (k = 2 ∧ cb i y z ∧ 512 ≤ cnt.1.toInt ∧ cnt' = cnt) ∨ (k = 0 ∧ cb i y z ∧ cnt.1.toInt < 512 ∧ cnt' = svS cnt i y z ∧ h'.1 o = some (101, [aJ cnt.1.toInt64]))
def lwS (b x m o L : Nat) (xs : Nat → Int32) (K : Nat) (σ : rS) (cnt : sV) (i y z : Int32) (h : ah_H) : ah_R → Prop := rI fun k h' => ∃ κ' cnt', LB b x m o L xs K κ' σ h' ∧ sgR x cnt' h' ∧ h'.2.1 ≤ h.2.1 + 20 ∧ h'.2.2.1 ≤ h.2.2.1 + 6000 ∧ lwK cnt cnt' i y z k o h'
theorem L_signal {v1 v2 v3 : Int32} (B : LB b x m o L xs K κ σ h) (S : sgR x cnt h) (hr : h.2.1 + 20 ≤ lim.1 ∧ h.2.2.1 + 6000 ≤ lim.2) : wq (vc lim (d + 21) m_Law_signal [.inr (.inr (some x)), .inl v1, .inl v2, .inl v3, .inr (.inr (some o))] h) (lwS b x m o L xs (K + 1) σ cnt v1 v2 v3 h) := by
  obtain ⟨sg, mk, lk, un, uc, nk, td, rn, rs, row, e1, e2, e3, e4⟩ := id S.1
  obtain ⟨k1, -⟩ := sg_k B e1
  obtain ⟨t1, b0, b1⟩ := sg_r B k1 e2
  obtain ⟨w1, -⟩ := sg_w B t1 e3
  refine wq_eq e_Law_signal (L_ax B ?_)
  obtain ⟨z, e, hz⟩ := n_signal (lim := lim) (d := d + 17) (i := v1) (x := v2) (y := v3) B.2.1 B.2.2.1 e1 k1 e2 t1 b0 ⟨by omega, by omega⟩
  refine wq_eq (congrArg (fun r => ah_cI r _ _) e) ?_
  rcases hz with ⟨c1, rfl⟩ | ⟨c1, c2, rfl⟩ | ⟨c1, c2, h', κ', t, nw, ls, vs, rfl, A, f1, f2, f3, f4, f5, -, -, -, fx⟩
  · show wq (ah_hx lim (d + 20) 261 7 _ h (200, h.2.1) (ah_new h (200, []) 6)) _
    exact wq_hx rfl rfl hM_261 rfl (wq_eq q_261_15 (wq_some (rI_i ⟨κ, cnt, LB_class B (cS_x B (by omega)), sgR_x B S, by show h.2.1 + 1 ≤ _; omega, by show h.2.2.1 + 6 ≤ _; omega, Or.inl ⟨rfl, c1, rfl⟩⟩)))
  · show wq (ah_hx lim (d + 20) 261 7 _ h (201, h.2.1) (ah_new h (201, []) 6)) _
    exact wq_hx rfl rfl hM_261 rfl (wq_eq q_261_19 (wq_some (rI_i ⟨κ, cnt, LB_class B (cS_x B (by omega)), sgR_x B S, by show h.2.1 + 1 ≤ _; omega, by show h.2.2.1 + 6 ≤ _; omega, Or.inr (Or.inl ⟨rfl, c1, c2, rfl⟩)⟩)))
  · have C := cS_a A
    have C1 : cS κ κ' (K + 1) 3 22 h h' := ⟨cI_K (by omega) C.1, C.2⟩
    have B1 := LB_class B C1
    have ex : h'.1 x = some (0, [aR sg, aR mk, aR lk, aR un, aI uc, aI nk, aR td, aR rn]) := (A.2.2.2.2.1 x (0, 0) B.2.2.2.1 rfl).trans e1
    have fv : row = vs := by
      have g := e3.symm.trans f2
      cases g
      rfl
    rw [← fv] at f3
    have n0 : cnt.1.toNatClampNeg < row.length := by rw [w1]; exact ix_lt b0 c2
    have o1 : (1 : Int32).toInt = 1 := rfl
    have hx : (cnt.1 + 1).toInt = cnt.1.toInt + 1 := by rw [ad_i (by omega) (by omega), o1]
    have S1 : sgR x (svS cnt v1 v2 v3) h' := by
      refine ⟨⟨sg, mk, lk, un, uc, nk, td, rn, rs, _, ex, f1, f3, fun i hi => ?_⟩, CR_gen B.2.1 B.2.2.2.1 S.2.1 (fun q v hq hv => ?_) (fun q i l lo hi ev ac nw ls t e => ⟨nw, ls, ev, ac, (A.2.2.2.2.1 q _ t rfl).trans e⟩), PR_gen B.2.1 B.2.2.2.1 S.2.2 C.1 C.2.2.1 C.2.2.2.2.1 (fun sg' un' vr' rs' rw' pa => ?_) (fun q n hq => A.2.2.2.2.1 q _ hq rfl) (fun q v hq hv hb => fx q v hq (by rcases hv with g | g <;> rw [g] <;> rfl) (by have := PR_s S.2.2 e1 e2; omega) (by have := PR_s S.2.2 e1 e2; omega)) (fun q i l lo hi ev ac nw ls t e => ⟨nw, ls, ev, ac, (A.2.2.2.2.1 q _ t rfl).trans e⟩)⟩
      rotate_left
      rotate_left
      · obtain ⟨-, -, kv, -, -⟩ := PA_k B.2.1 B.2.2.2.1 pa
        obtain ⟨mk', lk', td', rn', uc', nk', nd', ht', ro', rc', cs', cv', a1, a2, a3, a4⟩ := pa
        rw [e1] at a1
        cases a1
        rw [e2] at a3
        cases a3
        exact ⟨mk, lk, td, rn, uc, nk, nd', ht', ro', rc', _, cv', ex, (A.2.2.2.2.1 mk (4, 0) (sg_k B e1).2.1 rfl).trans a2, f1, (A.2.2.2.2.1 vr' (8, 128) kv rfl).trans a4⟩
      rotate_left
      · rcases hv with rfl | rfl | rfl | rfl | rfl | rfl | rfl <;> exact A.2.2.2.2.1 q _ hq rfl
      have hi : (i : Int) < (cnt.1 + 1).toInt := hi
      rw [hx] at hi
      by_cases hk : i = cnt.1.toInt.toNat
      · refine ⟨t, nw, ls, 0, 0, ?_, ?_⟩
        · rw [hk]
          exact List.getElem?_set_self n0
        · have q : ∀ j, (svS cnt v1 v2 v3).2.1 j i = svF v1 v2 v3 j := fun j => if_pos hk
          rw [q 0, q 1, q 2, q 3]
          exact f5
      · have hi2 : (i : Int) < cnt.1.toInt := by omega
        obtain ⟨th, nw2, ls2, ev2, ac2, r1, r2⟩ := e4 i hi2
        refine ⟨th, nw2, ls2, ev2, ac2, ?_, ?_⟩
        · exact (List.getElem?_set_ne (show cnt.1.toNatClampNeg ≠ i from fun e => hk e.symm)).trans r1
        · rw [A.2.2.2.2.1 th (7, 0) (sg_t B t1 e3 r1) rfl, r2]
          have q : ∀ j, (svS cnt v1 v2 v3).2.1 j i = cnt.2.1 j i := fun j => if_neg hk
          rw [q 0, q 1, q 2, q 3]
    refine L_lay B1 (fun B2 => wq_some (rI_i ⟨κ', _, B2, sgR_out B1 S1, ?_, ?_, Or.inr (Or.inr ⟨rfl, c1, c2, rfl, up_eq⟩)⟩))
    · have := C.2.2.2.2.2.1; show h'.2.1 ≤ _; omega
    · have := C.2.2.2.2.2.2; show h'.2.2.1 ≤ _; omega
theorem n_mark {v1 v2 v3 : Int32} (B : LB b x m o L xs K κ σ h) (S : sgR x cnt h) (z2 : v2 = 0 ∨ v2 = 1) (z3 : v3 = 0 ∨ v3 = 1) (hr : rm lim h) : wq (vc lim (d + 2) m_Code_mark [.inr (.inr (some x)), .inl v1, .inl v2, .inl v3] h) (fun z => (rV fun h' => cI K κ h h' ∧ sgR x cnt h' ∧ 0 ≤ v1.toInt ∧ v1.toInt < cnt.1.toInt) z ∨ (¬ (0 ≤ v1.toInt ∧ v1.toInt < cnt.1.toInt) ∧ z = (.inr (202, h.2.1), ah_new h (202, []) 6))) := by
  obtain ⟨sg, mk, lk, un, uc, nk, td, rn, rs, row, e1, e2, e3, e4⟩ := id S.1
  obtain ⟨k1, -⟩ := sg_k B e1
  obtain ⟨kr, c0, c1⟩ := sg_r B k1 e2
  obtain ⟨hl, ok⟩ := sg_w B kr e3
  refine wq_eq e_Code_mark (wq_gR e1 rfl (wk_at B.2.1 k1 rfl (fun _ => wq_cR (n_Things_pick e2 e3 hl (by omega) c1 ok) ?_)))
  rintro r h2 ⟨e, q⟩
  cases e
  rcases q with ⟨q0, q1, q2⟩ | ⟨q0, rfl⟩
  · obtain ⟨th, nw, ls, ev, ac, r1, r2⟩ := e4 v1.toInt.toNat (by omega)
    rw [r1] at q2
    cases q2
    have t7 := sg_t B kr e3 r1
    obtain ⟨i', l', lo', hi', nw', ls', ev', ac', e7, tn, tl⟩ := o7 B.2.1 t7
    rw [r2] at e7
    cases e7
    refine wq_f nofun (wq_t z2 (wk_wr B.2.1 t7 rfl r2 (Nat.le_of_ble_eq_true rfl) (i7 tn tl) ?_))
    intro h9 W10 e11 o12
    refine wq_t z3 (wk_wr W10 t7 rfl e11 (Nat.le_of_ble_eq_true rfl) (i7 tn tl) ?_)
    intro h15 W16 e17 o18
    refine wq_some (Or.inl (rV_i ⟨W16, sgR_gen B S (cI_self W16) (fun _ _ e => e) (by rw [W16.2.2.1]; exact Nat.le_refl _) (fun q v hq hv => ?_) (fun q i l lo hi ev2 ac2 nw2 ls2 tq eq => ?_), q0, q1⟩))
    · have ne : q ≠ th := by
        intro e
        subst e
        rw [t7] at hq
        cases hq
        rcases hv with g | g | (g | g | g | g | g | g | g) | g | g | g <;> exact absurd g (by decide)
      exact (o18 q ne).trans (o12 q ne)
    · by_cases hq : q = th
      · subst hq
        rw [r2] at eq
        cases eq
        exact ⟨_, _, _, _, e17⟩
      · exact ⟨_, _, _, _, (o18 q hq).trans ((o12 q hq).trans eq)⟩
  · exact wq_t rfl (thX hr (Or.inr ⟨q0, rfl⟩))
/-- the class's mark: its code -/
theorem L_mark {v1 v2 v3 : Int32} (B : LB b x m o L xs K κ σ h) (S : sgR x cnt h) (zv2 : v2 = 0 ∨ v2 = 1) (zv3 : v3 = 0 ∨ v3 = 1) (hr : rm lim h) : wq (vc lim (d + 21) m_Law_mark [.inr (.inr (some x)), .inl v1, .inl v2, .inl v3] h) (rI fun k h' => ∃ κ', LB b x m o L xs (K + 1) κ' σ h' ∧ sgR x cnt h' ∧ h'.2.1 ≤ h.2.1 + 20 ∧ h'.2.2.1 ≤ h.2.2.1 + 6000 ∧ ((k = 1 ∧ ¬ (0 ≤ v1.toInt ∧ v1.toInt < cnt.1.toInt)) ∨ (k = 0 ∧ 0 ≤ v1.toInt ∧ v1.toInt < cnt.1.toInt))) := by
  refine wq_eq e_Law_mark (L_ax B ?_)
  obtain ⟨z, e, hz⟩ := n_mark (lim := lim) (d := d + 18) (v1 := v1) (v2 := v2) (v3 := v3) B S zv2 zv3 hr
  refine wq_eq (congrArg (fun r => ah_cV r _ _) e) ?_
  rcases hz with ⟨h1, rfl, W, S1, q0, q1⟩ | ⟨q0, rfl⟩
  · have C : cS κ κ (K + 1) 0 0 h h1 := cS_w B (cI_K (by omega) W)
    exact wq_some (rI_i ⟨κ, LB_class B C, S1, by have := C.2.2.2.2.2.1; omega, by have := C.2.2.2.2.2.2; omega, Or.inr ⟨rfl, q0, q1⟩⟩)
  · show wq (ah_hx lim (d + 20) 266 4 _ h (202, h.2.1) (ah_new h (202, []) 6)) _
    exact wq_hx rfl rfl hM_266 rfl (wq_eq q_266_10 (wq_some (rI_i ⟨κ, LB_class B (cS_x B (by omega)), sgR_x B S, by show h.2.1 + 1 ≤ _; omega, by show h.2.2.1 + 6 ≤ _; omega, Or.inl ⟨rfl, q0⟩⟩)))
theorem TR_sg (B : LB b x m o L xs K κ σ h) (S : sg0 x (sv σ) h) {sg mk lk un td rn : Nat} {uc nk : Int32} (e : h.1 x = some (0, [aR sg, aR mk, aR lk, aR un, aI uc, aI nk, aR td, aR rn])) : TR sg (σ.1 7) (fun j i => sF σ i j) h := by
  obtain ⟨sg', mk', lk', un', uc', nk', td', rn', rs, row, e1, e2, e3, e4⟩ := S
  rw [e] at e1
  cases e1
  obtain ⟨k1, -⟩ := sg_k B e
  obtain ⟨kr, c0, c1⟩ := sg_r B k1 e2
  obtain ⟨hl, ok⟩ := sg_w B kr e3
  exact ⟨rs, row, 512, e2, e3, hl, by omega, c1, fun i hi => by obtain ⟨r, hr, -⟩ := ok i hi; exact ⟨r, hr⟩, e4⟩
theorem PR_out {z : Int64} {σ' : rS} (B : LB b x m o L xs K κ σ h) (P : PR x σ' h) : PR x σ' (ah_up h o (101, [aJ z])) := by
  have hs : ∀ q v, κ q = some v → (ah_up h o (101, [aJ z])).1 q = h.1 q := fun q v hq => up_ne (fun e => by
    subst e
    have b6 := B.2.2.2.2.2.1
    rw [hq] at b6; cases b6) rfl
  exact PR_gen B.2.1 B.2.2.2.1 P (cI_same B.2.1 hs) (fun _ _ e => e) (Nat.le_refl _) (fun sg un vr rs rw pa => PA_gen B.2.1 B.2.2.2.1 pa (fun q v hq _ => hs q v hq)) (fun q n hq => hs q _ hq) (fun q v hq _ _ => hs q v hq) (fun q i l lo hi ev ac nw ls t e => ⟨nw, ls, ev, ac, (hs q _ t).trans e⟩)
/-- the class's variable -/
theorem L_variable {v1 v2 v3 : Int32} (B : LB b x m o L xs K κ σ h) (S : sgR x (sv σ) h) (hr : h.2.1 + 20 ≤ lim.1 ∧ h.2.2.1 + 6000 ≤ lim.2) : wq (vc lim (d + 21) m_Law_variable [.inr (.inr (some x)), .inl v1, .inl v2, .inl v3, .inr (.inr (some o))] h) (rI fun k h' => ∃ κ', LB b x m o L xs (K + 1) κ' σ h' ∧ h'.2.1 ≤ h.2.1 + 20 ∧ h'.2.2.1 ≤ h.2.2.1 + 6000 ∧ ((k = 1 ∧ ¬ cb v1 v2 v3 ∧ sgR x (sv σ) h') ∨ (k = 2 ∧ cb v1 v2 v3 ∧ 128 ≤ (σ.1 9).toInt ∧ sgR x (sv σ) h') ∨ (k = 0 ∧ cb v1 v2 v3 ∧ (σ.1 9).toInt < 128 ∧ h'.1 o = some (101, [aJ (σ.1 9).toInt64]) ∧ (∀ σ', sg0 x (sv σ') h' → vaR σ σ' v1 v2 v3 → sgR x (sv σ') h') ∧ sg0 x (sv σ) h'))) := by
  have C0 : CR x σ h := S.2.1
  obtain ⟨sg, mk, lk, un, td, rn, nd, vr, ht, ro, A0, Ls, kt, e1, e2, em, N0, T, Hh, Oo, ds⟩ := id C0
  obtain ⟨k1, k2, k3, -⟩ := sg_k B e1
  obtain ⟨y1, y2, y3, y4, y5, ey, p1, p2, p3, p4, -⟩ := o4 B.2.1 k2
  have em : h.1 mk = some (4, [aR nd, aR vr, aR ht, aR ro, aI (σ.1 21)]) := em
  rw [em] at ey
  cases ey
  obtain ⟨rs, row, Q, f1, f2, f3, f4, f5, f6, f7⟩ := id T
  have f1 : h.1 vr = some (8, [aR rs, aI (σ.1 9)]) := f1
  obtain ⟨z1, z2, ez, t1, b0, b1, -⟩ := o8 B.2.1 p2
  rw [f1] at ez
  cases ez
  have o1 : (1 : Int32).toInt = 1 := rfl
  refine wq_eq e_Law_variable (L_ax B ?_)
  obtain ⟨z, e, hz⟩ := n_variable (lim := lim) (d := d + 17) (i := v1) (x := v2) (y := v3) B.2.1 B.2.2.1 e1 em p2 f1 t1 b0 ⟨by omega, by omega⟩
  refine wq_eq (congrArg (fun r => ah_cI r _ _) e) ?_
  rcases hz with ⟨c1, rfl⟩ | ⟨c1, c2, rfl⟩ | ⟨c1, c2, h', κ', t, nw, ls, vs, rfl, A, g1, g2, g3, g4, g5, -, -, -, fx⟩
  · show wq (ah_hx lim (d + 20) 262 7 _ h (200, h.2.1) (ah_new h (200, []) 6)) _
    exact wq_hx rfl rfl hM_262 rfl (wq_eq q_262_15 (wq_some (rI_i ⟨κ, LB_class B (cS_x B (by omega)), by show h.2.1 + 1 ≤ _; omega, by show h.2.2.1 + 6 ≤ _; omega, Or.inl ⟨rfl, c1, sgR_x B S⟩⟩)))
  · show wq (ah_hx lim (d + 20) 262 7 _ h (201, h.2.1) (ah_new h (201, []) 6)) _
    exact wq_hx rfl rfl hM_262 rfl (wq_eq q_262_19 (wq_some (rI_i ⟨κ, LB_class B (cS_x B (by omega)), by show h.2.1 + 1 ≤ _; omega, by show h.2.2.1 + 6 ≤ _; omega, Or.inr (Or.inl ⟨rfl, c1, c2, sgR_x B S⟩)⟩)))
  · have C := cS_a A
    have C1 : cS κ κ' (K + 1) 3 22 h h' := ⟨cI_K (by omega) C.1, C.2⟩
    have B1 := LB_class B C1
    have fv : row = vs := by
      have g := f2.symm.trans g2
      cases g
      rfl
    rw [← fv] at g3
    have hQ : Q = 128 := by
      obtain ⟨vs', ev', ol, -⟩ := B.2.1.1 rs 117 128 t1
      have ev' : h.1 rs = some (117, vs') := ev'
      rw [f2] at ev'
      cases ev'
      omega
    have n0 : (σ.1 9).toNatClampNeg < row.length := by rw [f3, hQ]; exact ix_lt b0 c2
    have hx : (σ.1 9 + 1).toInt = (σ.1 9).toInt + 1 := by rw [ad_i (by omega) (by omega), o1]
    have S0 : sg0 x (sv σ) h' := by
      refine sg0_gen B S.1 (fun q hq => ?_) (fun q i l lo hi ev ac nw ls t e => ⟨nw, ls, ev, ac, (A.2.2.2.2.1 q _ t rfl).trans e⟩)
      rcases hq with hq | hq | hq <;> exact A.2.2.2.2.1 q _ hq rfl
    have kA := NR_k B.2.1 N0 p1
    refine L_lay B1 (fun B2 => wq_some (rI_i ⟨κ', B2, ?_, ?_, Or.inr (Or.inr ⟨rfl, c1, c2, up_eq, fun σ' s0 va => ⟨s0, ?_⟩, ?_⟩)⟩))
    · have := C.2.2.2.2.2.1; show h'.2.1 ≤ _; omega
    · have := C.2.2.2.2.2.2; show h'.2.2.1 ≤ _; omega
    · have va0 := va
      obtain ⟨w1, w2, w3, w4, w5, w6, w7, w8⟩ := va
      have s9 : σ'.1 9 = σ.1 9 + 1 := Int32.toInt_inj.mp (by rw [w1, hx])
      have C' : CR x σ' h' := by
        obtain ⟨n1, n2, n3, n4⟩ := N0
        obtain ⟨Lh, l1, l2, l3⟩ := Hh
        obtain ⟨Lr, i1, i2, i3⟩ := Oo
        have sqe := sq_e (σ := σ) (σ' := σ') (fun i => w3 12 i (by omega) (by omega))
        have q19 := w2 19 (by omega)
        have q21 := w2 21 (by omega)
        have fr : ∀ q v, κ q = some v → (v = (0, 0) ∨ v = (3, 0) ∨ v = (4, 0) ∨ v = (5, 4000) ∨ v = (100, 4000) ∨ v = (7, 0)) → h'.1 q = h.1 q := fun q v hq hv => by
          rcases hv with rfl | rfl | rfl | rfl | rfl | rfl <;> exact A.2.2.2.2.1 q _ hq rfl
        refine ⟨sg, mk, lk, un, td, rn, nd, vr, ht, ro, A0, Ls, kt, ?_, (fr lk _ k3 (Or.inr (Or.inl rfl))).trans e2, ?_, ⟨?_, fun j hj => ⟨(fr _ _ (kA j hj) (Or.inr (Or.inr (Or.inr (Or.inr (Or.inl rfl)))))).trans (n2 j hj).1, (n2 j hj).2⟩, by rw [q21, q19]; exact n3, fun k hk => ?_⟩, ?_, ⟨Lh, (fr ht _ p3 (Or.inr (Or.inr (Or.inr (Or.inr (Or.inl rfl)))))).trans l1, l2, fun k hk => ?_⟩, ⟨Lr, (fr ro _ p4 (Or.inr (Or.inr (Or.inr (Or.inr (Or.inl rfl)))))).trans i1, i2, fun j hj => ?_⟩, ds⟩
        · rw [w2 23 (by omega), w2 22 (by omega)]
          exact (fr x _ B.2.2.2.1 (Or.inl rfl)).trans e1
        · rw [q21]
          exact (fr mk _ k2 (Or.inr (Or.inr (Or.inl rfl)))).trans em
        · rw [q19]
          exact (fr nd _ p1 (Or.inr (Or.inr (Or.inr (Or.inl rfl))))).trans n1
        · rw [q19] at hk
          obtain ⟨k1, k2, k3, k4, ka, k5, k6, k7, k8⟩ := n4 k hk
          rw [w3 8 k (by omega) (by omega), w3 9 k (by omega) (by omega), w3 13 k (by omega) (by omega), w3 10 k (by omega) (by omega), w3 11 k (by omega) (by omega)]
          exact ⟨k1, k2, k3, k4, ka, k5, k6, k7, fun i hi => by rw [sqe]; exact k8 i hi⟩
        · rw [s9]
          refine ⟨rs, _, Q, g1, g3, by rw [List.length_set]; exact f3, f4, by omega, fun i hi => ?_, fun i hi => ?_⟩
          · by_cases e : i = (σ.1 9).toNatClampNeg
            · rw [e]
              exact ⟨some t, List.getElem?_set_self n0⟩
            · rw [List.getElem?_set_ne (fun q => e q.symm)]
              exact f6 i hi
          · rw [hx] at hi
            by_cases e : i = (σ.1 9).toInt.toNat
            · refine ⟨t, nw, ls, 0, 0, ?_, ?_⟩
              · rw [e]
                exact List.getElem?_set_self n0
              · show h'.1 t = some (7, [aI (sF σ' (9216 + i) 0), aI (sF σ' (9216 + i) 1), aI (sF σ' (9216 + i) 2), aI (sF σ' (9216 + i) 3), aR nw, aR ls, aI 0, aI 0])
                have m0 : sF σ' (9216 + i) 0 = v1 := by rw [e]; exact w5
                have m1 : sF σ' (9216 + i) 1 = if v1 = 1 then v2 else 1 := by
                  rw [e]
                  show (if ia σ' 0 (9216 + (σ.1 9).toInt.toNat) = 1 then ia σ' 1 (9216 + (σ.1 9).toInt.toNat) else 1) = _
                  rw [w5, w6]
                  by_cases q : v1 = 1
                  · rw [if_pos q, if_pos q, if_pos q]
                  · rw [if_neg q, if_neg q]
                have m2 : sF σ' (9216 + i) 2 = if v1 = 2 then v2 else 0 := by
                  rw [e]
                  show (if ia σ' 0 (9216 + (σ.1 9).toInt.toNat) = 2 then ia σ' 2 (9216 + (σ.1 9).toInt.toNat) else 0) = _
                  rw [w5, w7]
                have m3 : sF σ' (9216 + i) 3 = if v1 = 2 then v3 else 8 := by
                  rw [e]
                  show (if ia σ' 0 (9216 + (σ.1 9).toInt.toNat) = 2 then ia σ' 3 (9216 + (σ.1 9).toInt.toNat) else 8) = _
                  rw [w5, w8]
                rw [m0, m1, m2, m3]
                exact g5
            · have hi2 : (i : Int) < (σ.1 9).toInt := by omega
              obtain ⟨th, nw2, ls2, ev2, ac2, r1, r2⟩ := f7 i hi2
              refine ⟨th, nw2, ls2, ev2, ac2, ?_, ?_⟩
              · exact (List.getElem?_set_ne (show (σ.1 9).toNatClampNeg ≠ i from fun q => e q.symm)).trans r1
              · have kt7 : κ th = some (7, 0) := by
                  obtain ⟨vs', ev', ol, -, ov⟩ := B.2.1.1 rs 117 128 t1
                  have ev' : h.1 rs = some (117, vs') := ev'
                  rw [f2] at ev'
                  cases ev'
                  obtain ⟨r, y1, y2⟩ := ov i (by omega)
                  rw [r1] at y1
                  cases y1
                  exact y2 th rfl
                rw [fr th _ kt7 (Or.inr (Or.inr (Or.inr (Or.inr (Or.inr rfl))))), r2]
                have g : ∀ j, sF σ' (9216 + i) j = sF σ (9216 + i) j := sF_e (fun j hj => w4 j _ hj (by omega) (by omega) (by omega))
                show _ = some (7, [aI (sF σ' (9216 + i) 0), aI (sF σ' (9216 + i) 1), aI (sF σ' (9216 + i) 2), aI (sF σ' (9216 + i) 3), aR nw2, aR ls2, aI ev2, aI ac2])
                rw [g, g, g, g] <;> rfl
        · rw [q19] at hk
          rw [w3 14 k (by omega) (by omega)]
          exact l3 k hk
        · rw [q21] at hj
          rw [w3 15 j (by omega) (by omega)]
          exact i3 j hj
      have W2 := B1.2.1
      have P1 : PR x σ h' := PR_gen B.2.1 B.2.2.2.1 S.2.2 C.1 C.2.2.1 C.2.2.2.2.1 (fun sg' un' vr' rs' rw' pa => by
        obtain ⟨kg, -, -, -, -⟩ := PA_k B.2.1 B.2.2.2.1 pa
        obtain ⟨mk', lk', td', rn', uc', nk', nd', ht', ro', rc', cs', cv', a1, a2, a3, a4⟩ := pa
        rw [e1] at a1
        cases a1
        rw [em] at a2
        cases a2
        rw [f1] at a4
        cases a4
        exact ⟨mk, lk, td, rn, _, _, nd, ht, ro, _, cs', _, (A.2.2.2.2.1 x (0, 0) B.2.2.2.1 rfl).trans e1, (A.2.2.2.2.1 mk (4, 0) k2 rfl).trans em, (A.2.2.2.2.1 sg (8, 512) kg rfl).trans a3, g1⟩) (fun q n hq => A.2.2.2.2.1 q _ hq rfl) (fun q v hq hv hb => fx q v hq (by rcases hv with g | g <;> rw [g] <;> rfl) (by have := PR_v S.2.2 e1 em f1; omega) (by have := PR_v S.2.2 e1 em f1; omega)) (fun q i l lo hi ev ac nw ls t e => ⟨nw, ls, ev, ac, (A.2.2.2.2.1 q _ t rfl).trans e⟩)
      have P2 : PR x σ' h' := PR_eq B.2.2.2.2.2.2.2.2.1 P1 (vaR_K va0) (by rw [va0.2.1 8 (by omega)]; exact Int.le_refl _) (vaR_D B.2.2.2.2.2.2.2.2.1 va0 (PR_d P1))
      refine ⟨?_, PR_out B1 P2⟩
      exact CR_gen W2 B1.2.2.2.1 C' (fun q v hq _ => up_ne (fun e => by
        subst e
        have b6 := B1.2.2.2.2.2.1
        rw [hq] at b6; cases b6) rfl) (fun q i l lo hi ev ac nw ls t e => ⟨nw, ls, ev, ac, up_ne (fun e => by
        subst e
        have b6 := B1.2.2.2.2.2.1
        rw [t] at b6; cases b6) e⟩)
    · exact sg0_gen B1 S0 (fun q hq => up_ne (fun e => by
        subst e
        have b6 := B1.2.2.2.2.2.1
        rcases hq with hq | hq | hq <;> rw [hq] at b6 <;> cases b6) rfl) (fun q i l lo hi ev ac nw ls t e => ⟨nw, ls, ev, ac, up_ne (fun e => by
        subst e
        have b6 := B1.2.2.2.2.2.1
        rw [t] at b6; cases b6) e⟩)
/-- trees and variables do not hang on the place for answers -/
theorem CR_out {z : Int64} {σ' : rS} (B : LB b x m o L xs K κ σ h) (C : CR x σ' h) : CR x σ' (ah_up h o (101, [aJ z])) := CR_gen B.2.1 B.2.2.2.1 C (fun q v hq _ => up_ne (fun e => by
  subst e
  have b6 := B.2.2.2.2.2.1
  rw [hq] at b6; cases b6) rfl) (fun q i l lo hi ev ac nw ls t e => ⟨nw, ls, ev, ac, up_ne (fun e => by
  subst e
  have b6 := B.2.2.2.2.2.1
  rw [t] at b6; cases b6) e⟩)
theorem sg0_out {z : Int64} (B : LB b x m o L xs K κ σ h) (S : sg0 x cnt h) : sg0 x cnt (ah_up h o (101, [aJ z])) := sg0_gen B S (fun q hq => up_ne (fun e => by
  subst e
  have b6 := B.2.2.2.2.2.1
  rcases hq with hq | hq | hq <;> rw [hq] at b6 <;> cases b6) rfl) (fun q i l lo hi ev ac nw ls t e => ⟨nw, ls, ev, ac, up_ne (fun e => by
  subst e
  have b6 := B.2.2.2.2.2.1
  rw [t] at b6; cases b6) e⟩)
/-- the class's add -/
theorem L_add {v1 v2 v3 : Int32} (B : LB b x m o L xs K κ σ h) (S : sgR x (sv σ) h) (hr : rm lim h) : wq (vc lim (d + 21) m_Law_add [.inr (.inr (some x)), .inl v1, .inl v2, .inl v3, .inr (.inr (some o))] h) (rI fun k h' => ∃ κ', LB b x m o L xs (K + 1) κ' σ h' ∧ h'.2.1 ≤ h.2.1 + 20 ∧ h'.2.2.1 ≤ h.2.2.1 + 6000 ∧ ((k = 1 ∧ adB σ v1 v3 ∧ sgR x (sv σ) h') ∨ (k = 2 ∧ ¬ adB σ v1 v3 ∧ (σ.1 19).toInt = 4000 ∧ sgR x (sv σ) h') ∨ (k = 0 ∧ ¬ adB σ v1 v3 ∧ (σ.1 19).toInt < 4000 ∧ h'.1 o = some (101, [aJ (σ.1 19).toInt64]) ∧ (∀ σ', sg0 x (sv σ') h' → adR σ σ' v1 v2 v3 → sgR x (sv σ') h') ∧ sg0 x (sv σ) h'))) := by
  have W1 := cI_K (show K ≤ K + 1 by omega) B.2.1
  have hc : ∀ vs mk, h.1 x = some (0, vs) → vs[1]? = some (aR mk) → ∀ vs nd, h.1 mk = some (4, vs) → vs[0]? = some (aR nd) → ∀ ws, h.1 nd = some (5, ws) → ∀ c, ws[8]? = some (aI c) → c.toInt + 1 ≤ (K + 1 : Nat) := by
    intro vs mk e1 e2 vs2 nd e3 e4 ws e5 c e6
    obtain ⟨x1, x2, x3, x4, x5, x6, x7, x8, ex, p1, p2, p3, p4, -⟩ := o0 B.2.1 B.2.2.2.1
    rw [e1] at ex
    cases ex
    cases e2
    obtain ⟨y1, y2, y3, y4, y5, ey, q1, -⟩ := o4 B.2.1 p2
    rw [e3] at ey
    cases ey
    cases e4
    obtain ⟨z1, z2, z3, z4, z5, z6, z7, z8, z9, z10, ez, -, -, -, -, -, -, -, -, -, -, w1, -⟩ := o5 B.2.1 q1
    rw [e5] at ez
    cases ez
    cases e6
    omega
  refine wq_eq e_Law_add (L_ax B ?_)
  obtain ⟨z, e, hz⟩ := s_Code_add (lim := lim) (d := d + 16) (v1 := v1) (v2 := v2) (v3 := v3) W1 B.2.2.2.1 hc hr
  obtain ⟨z', e', hn⟩ := n_add (lim := lim) (d := d + 16) (v1 := v1) (v2 := v2) (v3 := v3) (σ := σ) B.2.1 B.2.2.2.1 B.2.2.2.2.2.2.2.2.1.2.1 S.2.1 hr
  have ee : z = z' := by
    have := e.symm.trans e'
    cases this
    rfl
  subst ee
  refine wq_eq (congrArg (fun r => ah_cI r _ _) e) ?_
  rcases hn with ⟨ab, rfl⟩ | ⟨nb, fu, rfl⟩ | ⟨nb, lt, h1, rfl, cr, fr, fr4⟩
  · show wq (ah_hx lim (d + 20) 263 7 _ h (200, h.2.1) (ah_new h (200, []) 6)) _
    exact wq_hx rfl rfl hM_263 rfl (wq_eq q_263_15 (wq_some (rI_i ⟨κ, LB_class B (cS_x B (by omega)), by show h.2.1 + 1 ≤ _; omega, by show h.2.2.1 + 6 ≤ _; omega, Or.inl ⟨rfl, ab, sgR_x B S⟩⟩)))
  · show wq (ah_hx lim (d + 20) 263 7 _ h (201, h.2.1) (ah_new h (201, []) 6)) _
    exact wq_hx rfl rfl hM_263 rfl (wq_eq q_263_19 (wq_some (rI_i ⟨κ, LB_class B (cS_x B (by omega)), by show h.2.1 + 1 ≤ _; omega, by show h.2.2.1 + 6 ≤ _; omega, Or.inr (Or.inl ⟨rfl, nb, fu, sgR_x B S⟩)⟩)))
  · rcases hz with ⟨i, h1', q, W, g, -⟩ | ⟨k, hk, q⟩
    · cases q
      have C : cS κ κ (K + 1) 0 0 h h1 := cS_w B W
      have B1 := LB_class B C
      have S0 := sg0_f B S.1 g rfl
      have sm : ∀ q v, κ q = some v → v.1 = 0 ∨ v.1 = 8 ∨ v.1 = 117 ∨ v.1 = 120 ∨ v.1 = 7 → h1.1 q = h.1 q := fun q v hq hv => by
        obtain ⟨kd, nn⟩ := v
        obtain ⟨vs, e, -⟩ := B.2.1.1 q kd nn hq
        rw [e]
        rcases hv with g | g | g | g | g
        · have g : kd = 0 := g
          subst g; exact fr q _ _ e rfl rfl rfl
        · have g : kd = 8 := g
          subst g; exact fr q _ _ e rfl rfl rfl
        · have g : kd = 117 := g
          subst g; exact fr q _ _ e rfl rfl rfl
        · have g : kd = 120 := g
          subst g; exact fr q _ _ e rfl rfl rfl
        · have g : kd = 7 := g
          subst g; exact fr q _ _ e rfl rfl rfl
      have P1 : PR x σ h1 := PR_gen B.2.1 B.2.2.2.1 S.2.2 C.1 (fun _ _ e => e) C.2.2.2.2.1 (fun sg un vr rs rw pa => by
        obtain ⟨kg, -, kv, -, -⟩ := PA_k B.2.1 B.2.2.2.1 pa
        obtain ⟨mk', lk', td', rn', uc', nk', nd', ht', ro', rc', cs', cv', a1, a2, a3, a4⟩ := pa
        obtain ⟨rc2, a2'⟩ := fr4 _ _ _ _ _ _ a2
        exact ⟨mk', lk', td', rn', uc', nk', nd', ht', ro', rc2, cs', cv', (sm x _ B.2.2.2.1 (Or.inl rfl)).trans a1, a2', (sm sg _ kg (Or.inr (Or.inl rfl))).trans a3, (sm vr _ kv (Or.inr (Or.inl rfl))).trans a4⟩) (fun q n hq => sm q _ hq (Or.inr (Or.inr (Or.inr (Or.inl rfl))))) (fun q v hq hv _ => sm q v hq (hv.elim (fun g => Or.inr (Or.inl g)) (fun g => Or.inr (Or.inr (Or.inl g))))) (fun q i l lo hi ev ac nw ls t e => ⟨nw, ls, ev, ac, (sm q _ t (Or.inr (Or.inr (Or.inr (Or.inr rfl))))).trans e⟩)
      have P2 : ∀ σ', adR σ σ' v1 v2 v3 → PR x σ' h1 := fun σ' ad => PR_eq B.2.2.2.2.2.2.2.2.1 P1 (adR_K ad).1 (by rw [(adR_K ad).2.1]; exact Int.le_refl _) ((adR_K ad).2.2 (PR_d P1))
      exact L_lay B1 (fun B2 => wq_some (rI_i ⟨κ, B2, by have := C.2.2.2.2.2.1; show h1.2.1 ≤ _; omega, by have := C.2.2.2.2.2.2; show h1.2.2.1 ≤ _; omega, Or.inr (Or.inr ⟨rfl, nb, lt, up_eq, fun σ' s0 ad => ⟨s0, CR_out B1 (cr σ' ad), PR_out B1 (P2 σ' ad)⟩, sg0_out B1 S0⟩)⟩))
    · cases q
/-- the class's process -/
theorem L_process (B : LB b x m o L xs K κ σ h) (S : sgR x (sv σ) h) (hK : K ≤ 520) (hr : h.2.1 + 20 ≤ lim.1 ∧ h.2.2.1 + 6000 ≤ lim.2) : wq (vc lim (d + 21) m_Law_process [.inr (.inr (some x)), .inr (.inr (some o))] h) (rI fun k h' => ∃ κ', LB b x m o L xs (K + 1) κ' σ h' ∧ h'.2.1 ≤ h.2.1 + 20 ∧ h'.2.2.1 ≤ h.2.2.1 + 6000 ∧ ((k = 1 ∧ pF σ ∧ sgR x (sv σ) h') ∨ (k = 0 ∧ ¬ pF σ ∧ ∃ w y, fwP (sG σ 0 0) w ∧ prA (sG σ 0 0) w y ∧ h'.1 o = some (101, [aJ y.toInt64]) ∧ (∀ σ', sg0 x (sv σ') h' → pcR (sG σ 0 0) σ' w → sgR x (sv σ') h') ∧ sg0 x (sv σ) h'))) := by
  have R := B.2.2.2.2.2.2.2.2.1
  have C0 : CR x (sG σ 0 0) h := CR_eq R S.2.1 SG_c.2.2
  have P0 : PR x (sG σ 0 0) h := PR_t R S.2.2 SG_c.2.2
  have T1 := fun {sg mk lk un td rn : Nat} {uc nk : Int32} (e : h.1 x = some (0, [aR sg, aR mk, aR lk, aR un, aI uc, aI nk, aR td, aR rn])) => TR_sg B S.1 e
  obtain ⟨sg, mk, lk, un, td, rn, nd, vr, ht, ro, A0, Ls, kt, e1, e2, em, N0, T, Hh, Oo, ds⟩ := id C0
  have T1 := T1 e1
  obtain ⟨k1, k2, k3, k4⟩ := sg_k B e1
  obtain ⟨y1, y2, y3, y4, y5, ey, p1, p2, p3, p4, -⟩ := o4 B.2.1 k2
  rw [em] at ey
  cases ey
  obtain ⟨rs, row, Q, f1, f2, f3, f4, f5, f6, f7⟩ := id T
  obtain ⟨z1, z2, ez, t1, b0, b1, -⟩ := o8 B.2.1 p2
  rw [f1] at ez
  cases ez
  have kA := NR_k B.2.1 N0 p1
  obtain ⟨vu, ev, -⟩ := B.2.1.1 _ _ _ k4
  obtain ⟨n1, n2, n3, n4⟩ := id N0
  obtain ⟨Lh, l1, l2, l3⟩ := id Hh
  obtain ⟨Lr, i1, i2, i3⟩ := id Oo
  have R0 := RI_c (x := 0) R
  have Nj := R0.2.2.2.1.1
  obtain ⟨j1, j2, j3, j4, j5, j6, j7, j8, j9, j10⟩ := id Nj
  have d1 := R0.2.1.1
  have d2 := R0.2.1.2.1
  have LCx : LC lk mk nd sg vr ht ro A0 Ls kt ((sG σ 0 0).1 21) (sG σ 0 0) h := ⟨e2, em, R0.2.1, N0, T1, T, R0.1, j2, j6⟩
  obtain ⟨zw, ew, w, hw', rfl, ehw, fw⟩ := n_firstWrong (lim := lim) (d := d + 12) LCx Hh
  obtain ⟨zo, eo, w2, ho', rfl, eho, bo2⟩ := n_isOneBody (lim := lim) (d := d + 15) LCx rfl
  refine wq_eq e_Law_process (L_ax B ?_)
  obtain ⟨z, e, hz⟩ := n_process (lim := lim) (d := d + 11) (S := A0) (L := Ls) (w := w) (o := w2) B.2.1 B.2.2.1 (by omega) B.2.2.2.1 e1 ⟨em, n1, f1, k2, p1, p2, t1, p3, p4, kA⟩ (fun i hi => (n2 i hi).1) f2 ev ⟨_, ew, w, hw', rfl, ehw, rfl⟩ ⟨_, eo, w2, ho', rfl, eho, rfl⟩ ⟨by omega, by omega⟩
  refine wq_eq (congrArg (fun r => ah_cI r _ _) e) ?_
  have e2k : (20000 : Int32).toInt = 20000 := rfl
  have es : ((sG σ 0 0).1 22 + (sG σ 0 0).1 19).toInt = ((sG σ 0 0).1 22).toInt + ((sG σ 0 0).1 19).toInt := ad_i (by omega) (by omega)
  have pf : pF σ ↔ (64 ≤ ((sG σ 0 0).1 23).toInt ∨ ¬ (sG σ 0 0).1 22 + (sG σ 0 0).1 19 ≤ (20000 : Int32)) := by
    have q23 : (sG σ 0 0).1 23 = σ.1 23 := sG_ne (by omega)
    have q22 : (sG σ 0 0).1 22 = σ.1 22 := sG_ne (by omega)
    have q19 : (sG σ 0 0).1 19 = σ.1 19 := sG_ne (by omega)
    rw [Int32.le_iff_toInt_le, es, e2k]
    unfold pF
    rw [← q23, ← q22, ← q19]
    omega
  rcases hz with ⟨cf, rfl⟩ | ⟨cu, cn, h', κ', v, uc', nk', rfl, A, ex, exm, exn, exv, exf, cs⟩
  · show wq (ah_hx lim (d + 20) 264 3 _ h (201, h.2.1) (ah_new h (201, []) 6)) _
    exact wq_hx rfl rfl hM_264 rfl (wq_eq q_264_11 (wq_some (rI_i ⟨κ, LB_class B (cS_x B (by omega)), by show h.2.1 + 1 ≤ _; omega, by show h.2.2.1 + 6 ≤ _; omega, Or.inl ⟨rfl, pf.mpr cf, sgR_x B S⟩⟩)))
  · have npf : ¬ pF σ := fun q => (pf.mp q).elim (fun g => by omega) (fun g => g cn)
    have C := cS_a A
    have C1 : cS κ κ' (K + 1) 14 5990 h h' := cS_le (c := 14) (n := 280 + 10 * K) ⟨cI_K (by omega) C.1, C.2⟩ (by omega) (by omega)
    have B1 := LB_class B C1
    have S0 : sg0 x (sv σ) h' := by
      obtain ⟨sg', mk', lk', un', uc2, nk2, td', rn', rs2, row2, a1, a2, a3, a4⟩ := S.1
      rw [e1] at a1
      cases a1
      have kr := (sg_r B k1 a2).1
      refine ⟨sg, mk, lk, un, uc', nk', td, rn, rs2, row2, ex, (A.2.2.2.2.1 sg (8, 512) k1 rfl).trans a2, (A.2.2.2.2.1 rs2 (117, 512) kr rfl).trans a3, fun i hi => ?_⟩
      obtain ⟨th, nw, ls, ev, ac, r1, r2⟩ := a4 i hi
      exact ⟨th, nw, ls, ev, ac, r1, (A.2.2.2.2.1 th (7, 0) (sg_t B kr a3 r1) rfl).trans r2⟩
    have frx : ∀ q v, κ q = some v → x + 656 ≤ q → v.1 = 8 ∨ v.1 = 117 ∨ v.1 = 7 → h'.1 q = h.1 q := fun q v hq hb hv => by
      have := PR_v P0 e1 em f1
      refine exf q v hq ?_ ?_ ?_ (by omega) ?_
      · exact fun e => by rw [e, B.2.2.2.1] at hq; cases hq; rcases hv with g | g | g <;> exact absurd g (by decide)
      · exact fun e => by rw [e, k2] at hq; cases hq; rcases hv with g | g | g <;> exact absurd g (by decide)
      · exact fun e => by rw [e, p1] at hq; cases hq; rcases hv with g | g | g <;> exact absurd g (by decide)
      · exact fun e => by rw [e, k4] at hq; cases hq; rcases hv with g | g | g <;> exact absurd g (by decide)
    have fr7 : ∀ q, κ q = some (7, 0) → h'.1 q = h.1 q := fun q hq => A.2.2.2.2.1 q _ hq rfl
    have pc_PR : ∀ {σ' : rS}, pcR (sG σ 0 0) σ' w → PR x σ' h' := by
      intro σ' pc
      obtain ⟨-, c19, c21, c9, cc⟩ := pc
      have e0 : (0 : Int32).toInt = 0 := rfl
      have dz : DW σ' := fun v hv => by rw [c9, e0] at hv; omega
      obtain ⟨sg2, un2, vr2, rs2, rw2, pa2, ⟨bb1, bb2, bb3, bb4, bb5⟩, dw2, kb2, vu2, eu2, ep2⟩ := id P0
      obtain ⟨kg2, ku2, kv2, kr2, kw2⟩ := PA_k B.2.1 B.2.2.2.1 pa2
      obtain ⟨mk2, lk2, td2, rn2, uc2, nk2, nd2, ht2, ro2, rc2, cs2, cv2, a1, a2, a3, a4⟩ := id pa2
      rw [e1] at a1
      cases a1
      rw [em] at a2
      cases a2
      rw [f1] at a4
      cases a4
      have ev : h.1 un = some (120, vu) := ev
      rw [ev] at eu2
      cases eu2
      have PA' : PA x sg un vr rs2 rs h' := ⟨mk, lk, td, rn, uc', nk', nd, ht, ro, 0, cs2, 0, ex, exm, (A.2.2.2.2.1 sg (8, 512) kg2 rfl).trans a3, exv⟩
      have W1 := C.1
      have le1 := C.2.2.1
      have oldU : ∀ p : Nat, (p : Int) < ((sG σ 0 0).1 23).toInt → ∃ u m rest, vu[p]? = some (aR u) ∧ h'.1 u = some (10, aR (m + 1) :: aR (m + 10) :: rest) ∧ x + 656 ≤ m ∧ UV (m + 10) (sG σ 0 0) p h' := by
        intro p hp
        obtain ⟨u, mm, rest, q1, q2, q3, q4⟩ := ep2 p hp
        obtain ⟨kq, ⟨vn, kq2⟩, -⟩ := un_m B.2.1 k4 ev q1 q2
        obtain ⟨nd9, nn9, vr9, vn9, s2, s3, s4, s5, s6, s7, s8, w9, nx9, en9, ec, -⟩ := o10 W1 (le1 _ _ kq)
        exact ⟨u, mm, _, q1, ec, q3, UV_gen B.2.1 kq2 (show x + 656 ≤ mm + 10 by omega) q4 (fun q v hq hv hb => frx q v hq hb (hv.elim Or.inl (fun g => Or.inr (Or.inl g)))) (fun q i l lo hi ev ac nw ls t e => ⟨nw, ls, ev, ac, (fr7 q t).trans e⟩)⟩
      have hl' : h.2.1 ≤ h'.2.1 := C.2.2.2.2.1
      rcases cs with ⟨q1, q2, q3, q4, q5⟩ | ⟨q1, q2, q3, q4, q5, q6⟩ | ⟨q1, q2, q3, q4, q5, q6, q7⟩
      · rcases cc with ⟨g1, -⟩ | ⟨-, g2, g3, g4, g5⟩
        · exact absurd g1 q1
        · have P1 : PR x (sG σ 0 0) h' := ⟨sg, un, vr, rs2, rs, PA', ⟨bb1, bb2, bb3, bb4, by omega⟩, dw2, kb2, vu, q5.trans ev, oldU⟩
          exact PR_eq R0 P1 g4 (by rw [g5]; exact Int.le_refl _) dz
      · rcases cc with ⟨g1, g2, -⟩ | ⟨-, g2, g3, g4, g5⟩
        · exact absurd g2 (bo_n bo2 q2)
        · have P1 : PR x (sG σ 0 0) h' := ⟨sg, un, vr, rs2, rs, PA', ⟨bb1, bb2, bb3, bb4, by omega⟩, dw2, kb2, vu, q6.trans ev, oldU⟩
          exact PR_eq R0 P1 g4 (by rw [g5]; exact Int.le_refl _) dz
      · rcases cc with ⟨g1, g2, g3, g4, g5⟩ | ⟨g1, -⟩
        · obtain ⟨w1, w2, w3, w4, w5, w6⟩ := g5
          have o1 : (1 : Int32).toInt = 1 := rfl
          have c23 : (σ'.1 23).toInt = ((sG σ 0 0).1 23).toInt + 1 := by rw [g3, ad_i (by omega) (by omega), o1]
          have vul : vu.length = 64 := by
            obtain ⟨vs', ev', ol, -⟩ := B.2.1.1 un 120 64 k4
            have ev' : h.1 un = some (120, vs') := ev'
            rw [ev] at ev'
            cases ev'
            exact ol
          refine ⟨sg, un, vr, rs2, rs, PA', ⟨bb1, bb2, bb3, bb4, by omega⟩, dz, fun p hp => ?_, _, q6, fun p hp => ?_⟩
          · by_cases c : p = ((sG σ 0 0).1 23).toInt.toNat
            · rw [c, w2, w3]
              omega
            · have kk := kb2 p (by omega)
              rw [w4 18 p (Or.inl rfl) c, w4 19 p (Or.inr rfl) c]
              omega
          · by_cases c : p = ((sG σ 0 0).1 23).toInt.toNat
            · obtain ⟨n1', n2', n3', n4', n5', n6', n7', ⟨ts, n8', n9'⟩, -⟩ := q7
              refine ⟨h.2.1, h.2.1, _, ?_, n2', by omega, ?_, ts, n8', fun i hi => ?_⟩
              · rw [c]
                exact List.getElem?_set_self (by rw [vul]; exact ix_lt (by omega) (by omega))
              · rw [c, w3]
                exact n7'
              · rw [c, w3] at hi
                obtain ⟨th, nw, ls, ev, ac, y1, y2⟩ := f7 i hi
                have kth : κ th = some (7, 0) := by
                  obtain ⟨vs', ev', ol, -, ov⟩ := B.2.1.1 rs 117 128 t1
                  have ev' : h.1 rs = some (117, vs') := ev'
                  rw [f2] at ev'
                  cases ev'
                  have hl2 : i < row.length := (List.getElem?_eq_some_iff.mp y1).1
                  obtain ⟨r, z1, z2⟩ := ov i (by omega)
                  rw [y1] at z1
                  cases z1
                  exact z2 th rfl
                refine ⟨th, nw, ls, ev, ac, (n9' i (by omega)).trans y1, ?_⟩
                rw [fr7 th kth, y2]
                have kc := w6 i (by omega)
                have sfe : ∀ j, sF σ' (1024 + (ia σ' 18 p).toInt.toNat + i) j = sF (sG σ 0 0) (9216 + i) j := by
                  rw [c, w2]
                  obtain ⟨m0, m1, m2, m3⟩ := kc
                  have dwi := dw2 i (by omega)
                  intro j
                  match j with
                  | 0 => exact m0
                  | 1 =>
                    show (if ia σ' 0 (1024 + ((sG σ 0 0).1 8).toInt.toNat + i) = 1 then ia σ' 1 (1024 + ((sG σ 0 0).1 8).toInt.toNat + i) else 1) = (if ia (sG σ 0 0) 0 (9216 + i) = 1 then ia (sG σ 0 0) 1 (9216 + i) else 1)
                    rw [m0, m1]
                    by_cases c1 : ia (sG σ 0 0) 0 (9216 + i) = 1
                    · rw [if_pos c1, if_pos c1, if_pos c1]
                      exact (dwi c1).symm
                    · rw [if_neg c1, if_neg c1]
                  | 2 =>
                    show (if ia σ' 0 (1024 + ((sG σ 0 0).1 8).toInt.toNat + i) = 2 then ia σ' 2 (1024 + ((sG σ 0 0).1 8).toInt.toNat + i) else 0) = (if ia (sG σ 0 0) 0 (9216 + i) = 2 then ia (sG σ 0 0) 2 (9216 + i) else 0)
                    rw [m0, m2]
                  | n + 3 =>
                    show (if ia σ' 0 (1024 + ((sG σ 0 0).1 8).toInt.toNat + i) = 2 then ia σ' 3 (1024 + ((sG σ 0 0).1 8).toInt.toNat + i) else 8) = (if ia (sG σ 0 0) 0 (9216 + i) = 2 then ia (sG σ 0 0) 3 (9216 + i) else 8)
                    rw [m0, m3]
                rw [sfe, sfe, sfe, sfe]
            · obtain ⟨u, mm, rest, y1, y2, y3, y4⟩ := oldU p (by omega)
              have kk := kb2 p (by omega)
              refine ⟨u, mm, rest, ?_, y2, y3, UV_e y4 (w4 18 p (Or.inl rfl) c) (w4 19 p (Or.inr rfl) c) (fun i hi => sF_e (fun j hj => w5 j _ hj (by omega)))⟩
              exact (List.getElem?_set_ne (fun e => c e.symm)).trans y1
        · exact absurd ⟨q1, bo_p bo2 q2⟩ g1
    have pa : prA (sG σ 0 0) w v := by
      rcases cs with ⟨q1, q2, -⟩ | ⟨q1, q2, q3, -⟩ | ⟨q1, q2, q3, -⟩
      · exact Or.inl ⟨q1, q2⟩
      · exact Or.inr (Or.inl ⟨q1, bo_n bo2 q2, q3⟩)
      · exact Or.inr (Or.inr ⟨q1, bo_p bo2 q2, q3⟩)
    refine L_lay B1 (fun B2 => wq_some (rI_i ⟨κ', B2, ?_, ?_, Or.inr ⟨rfl, npf, w, v, fw, pa, up_eq, fun σ' s0 pc => ⟨s0, CR_out B1 ?_, PR_out B1 (pc_PR pc)⟩, sg0_out B1 S0⟩⟩))
    · have := C1.2.2.2.2.2.1; show h'.2.1 ≤ _; omega
    · have := C1.2.2.2.2.2.2; show h'.2.2.1 ≤ _; omega
    · show CR x σ' h'
      obtain ⟨-, c19, c21, c9, cc⟩ := pc
      have e0 : (0 : Int32).toInt = 0 := rfl
      have u1 : uc' = σ'.1 23 ∧ nk' = σ'.1 22 := by
        rcases cs with ⟨q1, q2, q3, q4, -⟩ | ⟨q1, q2, q3, q4, q5, -⟩ | ⟨q1, q2, q3, q4, q5, -⟩
        · rcases cc with ⟨g1, -⟩ | ⟨-, g2, g3, -⟩
          · exact absurd g1 q1
          · exact ⟨q3.trans g2.symm, q4.trans g3.symm⟩
        · rcases cc with ⟨g1, g2, -⟩ | ⟨-, g2, g3, -⟩
          · exact absurd g2 (bo_n bo2 q2)
          · exact ⟨q4.trans g2.symm, q5.trans g3.symm⟩
        · rcases cc with ⟨g1, g2, g3, g4, -⟩ | ⟨g1, -⟩
          · exact ⟨q4.trans g3.symm, q5.trans g4.symm⟩
          · exact absurd ⟨q1, bo_p bo2 q2⟩ g1
      refine ⟨sg, mk, lk, un, td, rn, nd, vr, ht, ro, A0, Ls, 0, by rw [← u1.1, ← u1.2]; exact ex, (A.2.2.2.2.1 lk (3, 0) k3 rfl).trans e2, by rw [c21]; exact exm, ⟨by rw [c19]; exact exn, fun j hj => ⟨(A.2.2.2.2.1 _ (100, 4000) (kA j hj) rfl).trans (n2 j hj).1, (n2 j hj).2⟩, by rw [c21, c19]; rfl, fun k hk => ?_⟩, ?_, ⟨Lh, (A.2.2.2.2.1 ht (100, 4000) p3 rfl).trans l1, l2, fun k hk => ?_⟩, ⟨Lr, (A.2.2.2.2.1 ro (100, 4000) p4 rfl).trans i1, i2, fun j hj => ?_⟩, ds⟩
      · rw [c19, e0] at hk
        omega
      · rw [c9]
        refine ⟨rs, row, Q, exv, (A.2.2.2.2.1 rs (117, 128) t1 rfl).trans f2, f3, f4, by rw [e0]; omega, f6, fun i hi => ?_⟩
        rw [e0] at hi
        omega
      · rw [c19, e0] at hk
        omega
      · rw [c21, e0] at hj
        omega
end La
