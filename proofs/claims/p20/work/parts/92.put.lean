/-! PUT: the class's codes -/
section Pu
variable {lim : Nat × Nat} {K d b x m o L : Nat} {xs : Nat → Int32} {κ : kM} {σ : rS} {h : ah_H} {cnt : sV}
theorem lg_lt {a c : Int64} : (lg_cmp a c) < 0 ↔ a.toInt < c.toInt := by
  unfold lg_cmp
  by_cases g : a > c
  · have := Int64.lt_iff_toInt_lt.mp g
    rw [if_pos g]
    exact ⟨fun h => absurd h (by decide), fun h => by omega⟩
  · by_cases g2 : a = c
    · rw [if_neg g, if_pos g2, g2]
      exact ⟨fun h => absurd h (by decide), fun h => by omega⟩
    · have n1 : ¬ c.toInt < a.toInt := fun q => g (Int64.lt_iff_toInt_lt.mpr q)
      have n2 : ¬ a.toInt = c.toInt := fun q => g2 (Int64.toInt_inj.mp q)
      rw [if_neg g, if_neg g2]
      exact ⟨fun _ => by omega, fun _ => by decide⟩
theorem lg_le {a c : Int64} : (lg_cmp a c) ≤ 0 ↔ a.toInt ≤ c.toInt := by
  unfold lg_cmp
  by_cases g : a > c
  · have := Int64.lt_iff_toInt_lt.mp g
    rw [if_pos g]
    exact ⟨fun h => absurd h (by decide), fun h => by omega⟩
  · by_cases g2 : a = c
    · rw [if_neg g, if_pos g2, g2]
      exact ⟨fun _ => by omega, fun _ => by decide⟩
    · have n1 : ¬ c.toInt < a.toInt := fun q => g (Int64.lt_iff_toInt_lt.mpr q)
      rw [if_neg g, if_neg g2]
      exact ⟨fun _ => by omega, fun _ => by decide⟩
theorem n_has {a nw ls : Nat} {i l lo hi ev ac v : Int32} (e : h.1 a = some (7, [aI i, aI l, aI lo, aI hi, aR nw, aR ls, aI ev, aI ac])) : wq (vc lim (d + 1) m_Thing_hasElement [.inr (.inr (some a)), .inl v] h) (rI fun z h' => h' = h ∧ ((z = 0 ∧ ¬ (0 ≤ v.toInt ∧ v.toInt < l.toInt)) ∨ (z = 1 ∧ 0 ≤ v.toInt ∧ v.toInt < l.toInt))) := by
  have e0 : (0 : Int32).toInt = 0 := rfl
  refine wq_eq e_Thing_hasElement (wq_if _ (fun c1 => wq_t (Or.inl rfl) (wq_some (rI_i ⟨rfl, Or.inl ⟨rfl, ?_⟩⟩))) (fun c1 => wq_gI e rfl (wq_if _ (fun c2 => wq_t (Or.inr rfl) (wq_some (rI_i ⟨rfl, Or.inr ⟨rfl, ?_, ?_⟩⟩))) (fun c2 => wq_t (Or.inl rfl) (wq_some (rI_i ⟨rfl, Or.inl ⟨rfl, ?_⟩⟩))))))
  · have := lt_i c1
    omega
  · have := nlt_i c1
    omega
  · exact lt_i c2
  · have := nlt_i c2
    omega
theorem n_allows {a nw ls : Nat} {i l lo hi ev ac v : Int32} (e : h.1 a = some (7, [aI i, aI l, aI lo, aI hi, aR nw, aR ls, aI ev, aI ac])) : wq (vc lim (d + 1) m_Thing_allows [.inr (.inr (some a)), .inr (.inl v.toInt64)] h) (rI fun z h' => h' = h ∧ ((z = 0 ∧ ¬ (lo.toInt ≤ v.toInt ∧ v.toInt ≤ hi.toInt)) ∨ (z = 1 ∧ lo.toInt ≤ v.toInt ∧ v.toInt ≤ hi.toInt))) := by
  have q : ∀ y : Int32, y.toInt64.toInt = y.toInt := Int32.toInt_toInt64
  refine wq_eq e_Thing_allows (wq_gI e rfl (wq_if _ (fun c1 => wq_t (Or.inl rfl) (wq_some (rI_i ⟨rfl, Or.inl ⟨rfl, ?_⟩⟩))) (fun c1 => wq_gI e rfl (wq_if _ (fun c2 => wq_t (Or.inr rfl) (wq_some (rI_i ⟨rfl, Or.inr ⟨rfl, ?_, ?_⟩⟩))) (fun c2 => wq_t (Or.inl rfl) (wq_some (rI_i ⟨rfl, Or.inl ⟨rfl, ?_⟩⟩)))))))
  · rw [lg_lt, q, q] at c1
    omega
  · rw [lg_lt, q, q] at c1
    omega
  · rw [lg_le, q, q] at c2
    exact c2
  · rw [lg_le, q, q] at c2
    omega
/-- there is such an element -/
def inE (cnt : sV) (s k : Int32) : Prop := 0 ≤ s.toInt ∧ s.toInt < cnt.1.toInt ∧ 0 ≤ k.toInt ∧ k.toInt < (cnt.2.1 1 s.toInt.toNat).toInt
def okE (cnt : sV) (s v : Int32) : Prop := (cnt.2.1 2 s.toInt.toNat).toInt ≤ v.toInt ∧ v.toInt ≤ (cnt.2.1 3 s.toInt.toNat).toInt
theorem n_put {v1 v2 v3 v4 : Int32} (B : LB b x m o L xs K κ σ h) (S : sgR x cnt h) (hr : rm lim h) : wq (vc lim (d + 3) m_Code_put [.inr (.inr (some x)), .inl v1, .inl v2, .inl v3, .inl v4] h) (fun z => (rV fun h' => cI K κ h h' ∧ sgR x cnt h' ∧ inE cnt v1 v3 ∧ okE cnt v1 v4) z ∨ (¬ inE cnt v1 v3 ∧ z = (.inr (202, h.2.1), ah_new h (202, []) 6)) ∨ (inE cnt v1 v3 ∧ ¬ okE cnt v1 v4 ∧ z = (.inr (200, h.2.1), ah_new h (200, []) 6))) := by
  obtain ⟨sg, mk, lk, un, uc, nk, td, rn, rs, row, e1, e2, e3, e4⟩ := id S.1
  obtain ⟨k1, -⟩ := sg_k B e1
  obtain ⟨kr, c0, c1⟩ := sg_r B k1 e2
  obtain ⟨hl, ok⟩ := sg_w B kr e3
  refine wq_eq e_Code_put (wq_gR e1 rfl (wk_at B.2.1 k1 rfl (fun _ => wq_cR (n_Things_pick e2 e3 hl (by omega) c1 ok) ?_)))
  rintro r h2 ⟨e, q⟩
  cases e
  rcases q with ⟨q0, q1, q2⟩ | ⟨q0, rfl⟩
  · obtain ⟨th, nw, ls, ev, ac, r1, r2⟩ := e4 v1.toInt.toNat (by omega)
    rw [r1] at q2
    cases q2
    have t7 := sg_t B kr e3 r1
    obtain ⟨i', l', lo', hi', nw', ls', ev', ac', e7, tn, tl⟩ := o7 B.2.1 t7
    rw [r2] at e7
    cases e7
    refine wq_f nofun (wq_at r2 (wq_cI (n_has r2) ?_))
    rintro z h3 ⟨e, p⟩
    cases e
    rcases p with ⟨rfl, p⟩ | ⟨rfl, p0, p1⟩
    · exact wq_t rfl (thX hr (Or.inr (Or.inl ⟨fun g => p ⟨g.2.2.1, g.2.2.2⟩, rfl⟩)))
    · have hin : inE cnt v1 v3 := ⟨q0, q1, p0, p1⟩
      refine wq_f (by decide) (wq_at r2 (wq_cI (n_allows r2) ?_))
      rintro z h4 ⟨e, p⟩
      cases e
      rcases p with ⟨rfl, p⟩ | ⟨rfl, p2, p3⟩
      · exact wq_t rfl (thX hr (Or.inr (Or.inr ⟨hin, p, rfl⟩)))
      · refine wq_f (by decide) (wq_if _ (fun c18 => ?_) (fun c18 => ?_))
        · refine wq_gR r2 rfl (wk_at B.2.1 tn rfl (fun _ => wq_cV (s_Datum_change B.2.1 tn) ?_))
          rintro h5 ⟨W5, g5⟩
          exact wq_some (Or.inl (rV_i ⟨W5, sgR_f B S W5 g5 rfl, hin, p2, p3⟩))
        · refine wq_gR r2 rfl (wk_at B.2.1 tl rfl (fun _ => wq_cV (s_Datum_change B.2.1 tl) ?_))
          rintro h5 ⟨W5, g5⟩
          exact wq_some (Or.inl (rV_i ⟨W5, sgR_f B S W5 g5 rfl, hin, p2, p3⟩))
  · exact wq_t rfl (thX hr (Or.inr (Or.inl ⟨fun g => q0 ⟨g.1, g.2.1⟩, rfl⟩)))
/-- the class's put: its code -/
theorem L_put {v1 v2 v3 v4 : Int32} (B : LB b x m o L xs K κ σ h) (S : sgR x cnt h) (hr : rm lim h) : wq (vc lim (d + 21) m_Law_put [.inr (.inr (some x)), .inl v1, .inl v2, .inl v3, .inl v4] h) (rI fun k h' => ∃ κ', LB b x m o L xs (K + 1) κ' σ h' ∧ sgR x cnt h' ∧ h'.2.1 ≤ h.2.1 + 20 ∧ h'.2.2.1 ≤ h.2.2.1 + 6000 ∧ ((k = 1 ∧ ¬ inE cnt v1 v3) ∨ (inE cnt v1 v3 ∧ ((k = 2 ∧ ¬ okE cnt v1 v4) ∨ (k = 0 ∧ okE cnt v1 v4))))) := by
  refine wq_eq e_Law_put (L_ax B ?_)
  obtain ⟨z, e, hz⟩ := n_put (lim := lim) (d := d + 17) (v1 := v1) (v2 := v2) (v3 := v3) (v4 := v4) B S hr
  refine wq_eq (congrArg (fun r => ah_cV r _ _) e) ?_
  rcases hz with ⟨h1, rfl, W, S1, q0, q1⟩ | ⟨q0, rfl⟩ | ⟨q0, q1, rfl⟩
  · have C : cS κ κ (K + 1) 0 0 h h1 := cS_w B (cI_K (by omega) W)
    exact wq_some (rI_i ⟨κ, LB_class B C, S1, by have := C.2.2.2.2.2.1; omega, by have := C.2.2.2.2.2.2; omega, Or.inr ⟨q0, Or.inr ⟨rfl, q1⟩⟩⟩)
  · show wq (ah_hx lim (d + 20) 265 6 _ h (202, h.2.1) (ah_new h (202, []) 6)) _
    exact wq_hx rfl rfl hM_265 rfl (wq_eq q_265_12 (wq_some (rI_i ⟨κ, LB_class B (cS_x B (by omega)), sgR_x B S, by show h.2.1 + 1 ≤ _; omega, by show h.2.2.1 + 6 ≤ _; omega, Or.inl ⟨rfl, q0⟩⟩)))
  · show wq (ah_hx lim (d + 20) 265 6 _ h (200, h.2.1) (ah_new h (200, []) 6)) _
    exact wq_hx rfl rfl hM_265 rfl (wq_eq q_265_16 (wq_some (rI_i ⟨κ, LB_class B (cS_x B (by omega)), sgR_x B S, by show h.2.1 + 1 ≤ _; omega, by show h.2.2.1 + 6 ≤ _; omega, Or.inr ⟨q0, Or.inl ⟨rfl, q1⟩⟩⟩)))
/-- the class's set -/
theorem L_set {v1 v2 v3 v4 : Int32} (B : LB b x m o L xs K κ σ h) (S : sgR x (sv σ) h) (hr : rm lim h) : wq (vc lim (d + 21) m_Law_set [.inr (.inr (some x)), .inl v1, .inl v2, .inl v3, .inl v4] h) (rI fun k h' => ∃ κ', LB b x m o L xs (K + 1) κ' σ h' ∧ sgR x (sv σ) h' ∧ h'.2.1 ≤ h.2.1 + 20 ∧ h'.2.2.1 ≤ h.2.2.1 + 6000 ∧ setP σ v1 v2 v3 v4 k) := by
  refine wq_eq e_Law_set (L_ax B ?_)
  have C0 : CR x σ h := S.2.1
  have P0 : PR x σ h := S.2.2
  obtain ⟨sg, mk, lk, un, td, rn, nd, vr, ht, ro, A0, Ls, kt, e1, -⟩ := id C0
  have hn : wq (vc lim (d + 17 + 3) m_Code_set [.inr (.inr (some x)), .inl v1, .inl v2, .inl v3, .inl v4] h) (fun z => (rV fun h' => cI K κ h h' ∧ sgR x (sv σ) h' ∧ inU σ v1 v2 v3 ∧ okU σ v1 v2 v4) z ∨ (¬ inU σ v1 v2 v3 ∧ z = (.inr (202, h.2.1), ah_new h (202, []) 6)) ∨ (inU σ v1 v2 v3 ∧ ¬ okU σ v1 v2 v4 ∧ z = (.inr (200, h.2.1), ah_new h (200, []) 6))) := by
    refine wq_eq e_Code_set (wq_at e1 (wq_cR (n_varThing B.2.1 B.2.2.2.1 P0 ⟨sg, mk, lk, un, td, rn, _, e1⟩) ?_))
    rintro r h2 ⟨e, q⟩
    cases e
    rcases q with ⟨rfl, nq⟩ | ⟨⟨q0, q1⟩, th, nw, ls, ev, ac, rfl, t7, r2⟩
    · exact wq_t rfl (thX hr (Or.inr (Or.inl ⟨fun g => nq ⟨g.1, g.2.1⟩, rfl⟩)))
    · obtain ⟨i', l', lo', hi', nw', ls', ev', ac', e7, tn, tl⟩ := o7 B.2.1 t7
      rw [r2] at e7
      cases e7
      refine wq_f nofun (wq_at r2 (wq_cI (n_has r2) ?_))
      rintro z h3 ⟨e, p⟩
      cases e
      rcases p with ⟨rfl, p⟩ | ⟨rfl, p0, p1⟩
      · exact wq_t rfl (thX hr (Or.inr (Or.inl ⟨fun g => p ⟨g.2.2.1, g.2.2.2⟩, rfl⟩)))
      · have hin : inU σ v1 v2 v3 := ⟨q0, q1, p0, p1⟩
        refine wq_f (by decide) (wq_at r2 (wq_cI (n_allows r2) ?_))
        rintro z h4 ⟨e, p⟩
        cases e
        rcases p with ⟨rfl, p⟩ | ⟨rfl, p2, p3⟩
        · exact wq_t rfl (thX hr (Or.inr (Or.inr ⟨hin, p, rfl⟩)))
        · refine wq_f (by decide) (wq_gR r2 rfl (wk_at B.2.1 tn rfl (fun _ => wq_cV (s_Datum_change B.2.1 tn) ?_)))
          rintro h5 ⟨W5, g5⟩
          exact wq_some (Or.inl (rV_i ⟨W5, sgR_f B S W5 g5 rfl, hin, p2, p3⟩))
  obtain ⟨z, e, hz⟩ := hn
  refine wq_eq (congrArg (fun r => ah_cV r _ _) e) ?_
  rcases hz with ⟨h1, rfl, W, S1, q0, q1⟩ | ⟨q0, rfl⟩ | ⟨q0, q1, rfl⟩
  · have C : cS κ κ (K + 1) 0 0 h h1 := cS_w B (cI_K (by omega) W)
    exact wq_some (rI_i ⟨κ, LB_class B C, S1, by have := C.2.2.2.2.2.1; omega, by have := C.2.2.2.2.2.2; omega, Or.inr ⟨q0, Or.inr ⟨rfl, q1⟩⟩⟩)
  · show wq (ah_hx lim (d + 20) 268 6 _ h (202, h.2.1) (ah_new h (202, []) 6)) _
    exact wq_hx rfl rfl hM_268 rfl (wq_eq q_268_12 (wq_some (rI_i ⟨κ, LB_class B (cS_x B (by omega)), sgR_x B S, by show h.2.1 + 1 ≤ _; omega, by show h.2.2.1 + 6 ≤ _; omega, Or.inl ⟨rfl, q0⟩⟩)))
  · show wq (ah_hx lim (d + 20) 268 6 _ h (200, h.2.1) (ah_new h (200, []) 6)) _
    exact wq_hx rfl rfl hM_268 rfl (wq_eq q_268_16 (wq_some (rI_i ⟨κ, LB_class B (cS_x B (by omega)), sgR_x B S, by show h.2.1 + 1 ≤ _; omega, by show h.2.2.1 + 6 ≤ _; omega, Or.inr ⟨q0, Or.inl ⟨rfl, q1⟩⟩⟩)))
end Pu
