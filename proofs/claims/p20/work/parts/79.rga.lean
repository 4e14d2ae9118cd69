/-! RIGHT EXPRESSIONS, by program (wip/tools/drf.py) -/
section RfG
variable {lim : Nat × Nat} {m p : Nat} {σ σ0 : rS} {b : ah_H}
theorem v_ch0 {d : Nat} {h : ah_H} {v1 : Int32} (H : RH m σ b h) (O : OKV σ) (G : sm (QR p) σ0 σ) (hk : vD v1.toInt) (hv : ∀ i, oV (ch σ0 v1.toInt i)) : wq (vc lim (d + 1) m_Ref_child [.inr (.inr (some m)), .inl v1, .inl (0 : Int32)] h) (rI fun x h' => h' = h ∧ x = ch σ0 v1.toInt 0) := v_child H O G hk (by decide) hv
theorem v_ch1 {d : Nat} {h : ah_H} {v1 : Int32} (H : RH m σ b h) (O : OKV σ) (G : sm (QR p) σ0 σ) (hk : vD v1.toInt) (hv : ∀ i, oV (ch σ0 v1.toInt i)) : wq (vc lim (d + 1) m_Ref_child [.inr (.inr (some m)), .inl v1, .inl (1 : Int32)] h) (rI fun x h' => h' = h ∧ x = ch σ0 v1.toInt 1) := v_child H O G hk (by decide) hv
theorem v_ch2 {d : Nat} {h : ah_H} {v1 : Int32} (H : RH m σ b h) (O : OKV σ) (G : sm (QR p) σ0 σ) (hk : vD v1.toInt) (hv : ∀ i, oV (ch σ0 v1.toInt i)) : wq (vc lim (d + 1) m_Ref_child [.inr (.inr (some m)), .inl v1, .inl (2 : Int32)] h) (rI fun x h' => h' = h ∧ x = ch σ0 v1.toInt 2) := v_child H O G hk (by decide) hv
theorem v_ch3 {d : Nat} {h : ah_H} {v1 : Int32} (H : RH m σ b h) (O : OKV σ) (G : sm (QR p) σ0 σ) (hk : vD v1.toInt) (hv : ∀ i, oV (ch σ0 v1.toInt i)) : wq (vc lim (d + 1) m_Ref_child [.inr (.inr (some m)), .inl v1, .inl (3 : Int32)] h) (rI fun x h' => h' = h ∧ x = ch σ0 v1.toInt 3) := v_child H O G hk (by decide) hv
theorem kO_i {c : Int32} (hc : oV c) (h : isO (kO σ0 c).toInt) : vD c.toInt ∧ isO ((ia σ0 8 c.toInt.toNat).toInt) := by
  by_cases e : c = -1
  · rw [kO, if_pos e, li_m1] at h
    unfold isO at h
    omega
  · rw [kO, if_neg e] at h
    exact ⟨vN_ne hc e, h⟩
theorem DI_cc {k c : Int} (D : DI σ0) (h1 : k < (σ0.1 19).toInt) (hc : cOf σ0 k c) : ∃ l, cD σ0 l ((ia σ0 11 c.toNat).toInt) := by
  have hN := D.2.1
  have h2 := hc.2.1
  obtain ⟨-, a1, a2, a3, -⟩ := DI_k D hc.1 (show c < (σ0.1 19).toInt by omega)
  exact ⟨_, ck_chn (by omega) a3⟩
theorem v_rightExpression {d : Nat} {h : ah_H} {v1 : Int32} (H : RH m σ b h) (O : OKV σ) (G : sm (QR p) σ0 σ)  (D : DI σ0) (h0 : 0 ≤ v1.toInt) (h1 : v1.toInt < (σ0.1 19).toInt) (hr : vD (ch σ0 v1.toInt 0).toInt → RV σ0 (ch σ0 v1.toInt 0).toInt) (hs : (σ0.1 7).toInt ≤ 512) (hd : (σ0.1 9).toInt ≤ 128) (hy : isX ((ia σ0 8 v1.toInt.toNat).toInt)) : wq (vc lim (d + 4) m_Ref_rightExpression [.inr (.inr (some m)), .inl v1] h) (rI fun x h' => h' = h ∧ ((x = 0 ∨ x = 1) ∧ (x = 1 → RE σ0 v1.toInt))) := by
  obtain ⟨⟨k0, k1⟩, m0, m1, hck, -, t0, t1, -⟩ := DI_k D h0 h1
  have hN := D.2.1
  have hch := DI_o D h0 h1
  refine wq_eq e_Ref_rightExpression ?_
  refine wq_gR H.1 rfl ?_
  refine rv_n H G (by omega) rfl rfl (nQ_j (by omega)) (by omega) (by show _ < (24000 : Int); omega) ?_
  refine wq_gR H.1 rfl ?_
  refine rv_n H G (by omega) rfl rfl (nQ_j (by omega)) (by omega) (by show _ < (24000 : Int); omega) ?_
  refine wq_at H.1 ?_
  refine wq_cI (v_ch0 H O G ⟨k0, k1⟩ hch) ?_
  rintro y3 h1 ⟨rfl, rfl⟩
  refine wq_at H.1 ?_
  refine wq_cI (v_ch1 H O G ⟨k0, k1⟩ hch) ?_
  rintro y6 h4 ⟨rfl, rfl⟩
  refine wq_gR H.1 rfl ?_
  refine rv_n H G (by omega) rfl rfl (nQ_j (by omega)) (by omega) (by show _ < (24000 : Int); omega) ?_
  refine wq_if _ (fun c7 => ?_) (fun c7 => ?_)
  · refine wq_if _ (fun c8 => ?_) (fun c8 => ?_)
    · refine wq_if _ (fun c9 => ?_) (fun c9 => ?_)
      · exact wq_t (Or.inl rfl) (wq_some (rI_i ⟨rfl, ⟨(Or.inl rfl), fun h => absurd h (by decide)⟩⟩))
      · exact wq_t (Or.inr rfl) (wq_some (rI_i ⟨rfl, ⟨(Or.inr rfl), fun hx1 => by have hK : (ia σ0 8 v1.toInt.toNat).toInt = 2 := (congrArg Int32.toInt c7); exact ⟨fun h => absurd (h.symm.trans hK) (by decide), fun h => absurd (h.symm.trans hK) (by decide), fun h => absurd (h.symm.trans hK) (by decide), fun h => absurd (h.symm.trans hK) (by decide), fun h => absurd (h.symm.trans hK) (by decide), fun h => absurd (h.symm.trans hK) (by decide), fun h => absurd (h.symm.trans hK) (by decide), fun h => absurd (h.symm.trans hK) (by decide), fun h => absurd (h.symm.trans hK) (by decide)⟩⟩⟩))
    · exact wq_t (Or.inl rfl) (wq_some (rI_i ⟨rfl, ⟨(Or.inl rfl), fun h => absurd h (by decide)⟩⟩))
  refine wq_if _ (fun c10 => ?_) (fun c10 => ?_)
  · refine wq_if _ (fun c11 => ?_) (fun c11 => ?_)
    · refine wq_if _ (fun c12 => ?_) (fun c12 => ?_)
      · exact wq_t (Or.inl rfl) (wq_some (rI_i ⟨rfl, ⟨(Or.inl rfl), fun h => absurd h (by decide)⟩⟩))
      · refine wq_if _ (fun c13 => ?_) (fun c13 => ?_)
        · exact wq_t (Or.inr rfl) (wq_some (rI_i ⟨rfl, ⟨(Or.inr rfl), fun hx1 => by have hK : (ia σ0 8 v1.toInt.toNat).toInt = 3 := (congrArg Int32.toInt c10); exact ⟨fun h => absurd (h.symm.trans hK) (by decide), fun h => absurd (h.symm.trans hK) (by decide), fun h => absurd (h.symm.trans hK) (by decide), fun h => absurd (h.symm.trans hK) (by decide), fun h => absurd (h.symm.trans hK) (by decide), fun h => absurd (h.symm.trans hK) (by decide), fun h => absurd (h.symm.trans hK) (by decide), fun h => absurd (h.symm.trans hK) (by decide), fun h => absurd (h.symm.trans hK) (by decide)⟩⟩⟩))
        · exact wq_t (Or.inl rfl) (wq_some (rI_i ⟨rfl, ⟨(Or.inl rfl), fun h => absurd h (by decide)⟩⟩))
    · exact wq_t (Or.inl rfl) (wq_some (rI_i ⟨rfl, ⟨(Or.inl rfl), fun h => absurd h (by decide)⟩⟩))
  refine wq_if _ (fun c14 => ?_) (fun c14 => ?_)
  · refine wq_if _ (fun c15 => ?_) (fun c15 => ?_)
    · exact wq_t (Or.inl rfl) (wq_some (rI_i ⟨rfl, ⟨(Or.inl rfl), fun h => absurd h (by decide)⟩⟩))
    · refine wq_if _ (fun c16 => ?_) (fun c16 => ?_)
      · refine wq_at H.1 ?_
        refine wq_cI (v_all H O G (DI_cl D h0 h1 0)) ?_
        rintro y19 h17 ⟨rfl, p18⟩
        refine wq_if _ (fun c20 => ?_) (fun c20 => ?_)
        · exact wq_t (Or.inl rfl) (wq_some (rI_i ⟨rfl, ⟨(Or.inl rfl), fun h => absurd h (by decide)⟩⟩))
        · exact wq_t (Or.inr rfl) (wq_some (rI_i ⟨rfl, ⟨(Or.inr rfl), fun hx1 => by have hK : (ia σ0 8 v1.toInt.toNat).toInt = 4 := (congrArg Int32.toInt c14); exact ⟨fun _ => ⟨(by have := ne_i c7; have := ne_i c10; have := congrArg Int32.toInt c14; have := nle_i c15; have := le_i c16; have := ne_i c20; have : (0 : Int32).toInt = 0 := rfl; have : (2 : Int32).toInt = 2 := rfl; have : (3 : Int32).toInt = 3 := rfl; have : (4 : Int32).toInt = 4 := rfl; have : (64 : Int32).toInt = 64 := rfl; omega), (by have := ne_i c7; have := ne_i c10; have := congrArg Int32.toInt c14; have := nle_i c15; have := le_i c16; have := ne_i c20; have : (0 : Int32).toInt = 0 := rfl; have : (2 : Int32).toInt = 2 := rfl; have : (3 : Int32).toInt = 3 := rfl; have : (4 : Int32).toInt = 4 := rfl; have : (64 : Int32).toInt = 64 := rfl; omega)⟩, fun h => absurd (h.symm.trans hK) (by decide), fun h => absurd (h.symm.trans hK) (by decide), fun h => absurd (h.symm.trans hK) (by decide), fun h => absurd (h.symm.trans hK) (by decide), fun h => absurd (h.symm.trans hK) (by decide), fun h => absurd (h.symm.trans hK) (by decide), fun h => absurd (h.symm.trans hK) (by decide), fun h => absurd (h.symm.trans hK) (by decide)⟩⟩⟩))
      · exact wq_t (Or.inl rfl) (wq_some (rI_i ⟨rfl, ⟨(Or.inl rfl), fun h => absurd h (by decide)⟩⟩))
  refine wq_if _ (fun c21 => ?_) (fun c21 => ?_)
  · refine wq_if _ (fun c22 => ?_) (fun c22 => ?_)
    · refine wq_if _ (fun c23 => ?_) (fun c23 => ?_)
      · exact wq_t (Or.inl rfl) (wq_some (rI_i ⟨rfl, ⟨(Or.inl rfl), fun h => absurd h (by decide)⟩⟩))
      · refine wq_if _ (fun c24 => ?_) (fun c24 => ?_)
        · refine wq_at H.1 ?_
          refine wq_cI (v_kindOf H O G (hch 0)) ?_
          rintro y27 h25 ⟨rfl, rfl⟩
          refine wq_cI v_expression ?_
          rintro y30 h28 ⟨rfl, p29⟩
          refine wq_if _ (fun c31 => ?_) (fun c31 => ?_)
          · exact wq_t (Or.inl rfl) (wq_some (rI_i ⟨rfl, ⟨(Or.inl rfl), fun h => absurd h (by decide)⟩⟩))
          · exact wq_t (Or.inr rfl) (wq_some (rI_i ⟨rfl, ⟨(Or.inr rfl), fun hx1 => by have hK : (ia σ0 8 v1.toInt.toNat).toInt = 20 := (congrArg Int32.toInt c21); exact ⟨fun h => absurd (h.symm.trans hK) (by decide), fun _ => ⟨(by have := ne_i c7; have := ne_i c10; have := ne_i c14; have := congrArg Int32.toInt c21; have := congrArg Int32.toInt c22; have := nlt_i c23; have := le_i c24; have := ne_i c31; have : (0 : Int32).toInt = 0 := rfl; have : (1 : Int32).toInt = 1 := rfl; have : (2 : Int32).toInt = 2 := rfl; have : (20 : Int32).toInt = 20 := rfl; have : (3 : Int32).toInt = 3 := rfl; have : (4 : Int32).toInt = 4 := rfl; omega), (p29.2.1 (p29.1.resolve_left c31))⟩, fun h => absurd (h.symm.trans hK) (by decide), fun h => absurd (h.symm.trans hK) (by decide), fun h => absurd (h.symm.trans hK) (by decide), fun h => absurd (h.symm.trans hK) (by decide), fun h => absurd (h.symm.trans hK) (by decide), fun h => absurd (h.symm.trans hK) (by decide), fun h => absurd (h.symm.trans hK) (by decide)⟩⟩⟩))
        · exact wq_t (Or.inl rfl) (wq_some (rI_i ⟨rfl, ⟨(Or.inl rfl), fun h => absurd h (by decide)⟩⟩))
    · exact wq_t (Or.inl rfl) (wq_some (rI_i ⟨rfl, ⟨(Or.inl rfl), fun h => absurd h (by decide)⟩⟩))
  refine wq_if _ (fun c32 => ?_) (fun c32 => ?_)
  · refine wq_if _ (fun c33 => ?_) (fun c33 => ?_)
    · refine wq_if _ (fun c34 => ?_) (fun c34 => ?_)
      · exact wq_t (Or.inl rfl) (wq_some (rI_i ⟨rfl, ⟨(Or.inl rfl), fun h => absurd h (by decide)⟩⟩))
      · refine wq_if _ (fun c35 => ?_) (fun c35 => ?_)
        · refine wq_at H.1 ?_
          refine wq_cI (v_kindOf H O G (hch 0)) ?_
          rintro y38 h36 ⟨rfl, rfl⟩
          refine wq_cI v_expression ?_
          rintro y41 h39 ⟨rfl, p40⟩
          refine wq_if _ (fun c42 => ?_) (fun c42 => ?_)
          · exact wq_t (Or.inl rfl) (wq_some (rI_i ⟨rfl, ⟨(Or.inl rfl), fun h => absurd h (by decide)⟩⟩))
          · refine wq_at H.1 ?_
            refine wq_cI (v_kindOf H O G (hch 1)) ?_
            rintro y45 h43 ⟨rfl, rfl⟩
            refine wq_cI v_expression ?_
            rintro y48 h46 ⟨rfl, p47⟩
            refine wq_if _ (fun c49 => ?_) (fun c49 => ?_)
            · exact wq_t (Or.inl rfl) (wq_some (rI_i ⟨rfl, ⟨(Or.inl rfl), fun h => absurd h (by decide)⟩⟩))
            · exact wq_t (Or.inr rfl) (wq_some (rI_i ⟨rfl, ⟨(Or.inr rfl), fun hx1 => by have hK : (ia σ0 8 v1.toInt.toNat).toInt = 21 := (congrArg Int32.toInt c32); exact ⟨fun h => absurd (h.symm.trans hK) (by decide), fun h => absurd (h.symm.trans hK) (by decide), fun _ => ⟨(by have := ne_i c7; have := ne_i c10; have := ne_i c14; have := ne_i c21; have := congrArg Int32.toInt c32; have := congrArg Int32.toInt c33; have := nlt_i c34; have := le_i c35; have := ne_i c42; have := ne_i c49; have : (0 : Int32).toInt = 0 := rfl; have : (2 : Int32).toInt = 2 := rfl; have : (20 : Int32).toInt = 20 := rfl; have : (21 : Int32).toInt = 21 := rfl; have : (3 : Int32).toInt = 3 := rfl; have : (4 : Int32).toInt = 4 := rfl; omega), (p40.2.1 (p40.1.resolve_left c42)), (p47.2.1 (p47.1.resolve_left c49))⟩, fun h => absurd (h.symm.trans hK) (by decide), fun h => absurd (h.symm.trans hK) (by decide), fun h => absurd (h.symm.trans hK) (by decide), fun h => absurd (h.symm.trans hK) (by decide), fun h => absurd (h.symm.trans hK) (by decide), fun h => absurd (h.symm.trans hK) (by decide)⟩⟩⟩))
        · exact wq_t (Or.inl rfl) (wq_some (rI_i ⟨rfl, ⟨(Or.inl rfl), fun h => absurd h (by decide)⟩⟩))
    · exact wq_t (Or.inl rfl) (wq_some (rI_i ⟨rfl, ⟨(Or.inl rfl), fun h => absurd h (by decide)⟩⟩))
  refine wq_if _ (fun c50 => ?_) (fun c50 => ?_)
  · refine wq_if _ (fun c51 => ?_) (fun c51 => ?_)
    · refine wq_if _ (fun c52 => ?_) (fun c52 => ?_)
      · exact wq_t (Or.inl rfl) (wq_some (rI_i ⟨rfl, ⟨(Or.inl rfl), fun h => absurd h (by decide)⟩⟩))
      · refine wq_gI H.1 rfl ?_
        rw [show σ.1 7 = σ0.1 7 from G.1 7 (nQ_f (by omega))]
        refine wq_if _ (fun c53 => ?_) (fun c53 => ?_)
        · exact wq_t (Or.inr rfl) (wq_some (rI_i ⟨rfl, ⟨(Or.inr rfl), fun hx1 => by have hK : (ia σ0 8 v1.toInt.toNat).toInt = 80 := (congrArg Int32.toInt c50); exact ⟨fun h => absurd (h.symm.trans hK) (by decide), fun h => absurd (h.symm.trans hK) (by decide), fun h => absurd (h.symm.trans hK) (by decide), fun _ => ⟨(by have := ne_i c7; have := ne_i c10; have := ne_i c14; have := ne_i c21; have := ne_i c32; have := congrArg Int32.toInt c50; have := congrArg Int32.toInt c51; have := nlt_i c52; have := lt_i c53; have : (0 : Int32).toInt = 0 := rfl; have : (2 : Int32).toInt = 2 := rfl; have : (20 : Int32).toInt = 20 := rfl; have : (21 : Int32).toInt = 21 := rfl; have : (3 : Int32).toInt = 3 := rfl; have : (4 : Int32).toInt = 4 := rfl; have : (80 : Int32).toInt = 80 := rfl; omega), (by have := ne_i c7; have := ne_i c10; have := ne_i c14; have := ne_i c21; have := ne_i c32; have := congrArg Int32.toInt c50; have := congrArg Int32.toInt c51; have := nlt_i c52; have := lt_i c53; have : (0 : Int32).toInt = 0 := rfl; have : (2 : Int32).toInt = 2 := rfl; have : (20 : Int32).toInt = 20 := rfl; have : (21 : Int32).toInt = 21 := rfl; have : (3 : Int32).toInt = 3 := rfl; have : (4 : Int32).toInt = 4 := rfl; have : (80 : Int32).toInt = 80 := rfl; omega)⟩, fun h => absurd (h.symm.trans hK) (by decide), fun h => absurd (h.symm.trans hK) (by decide), fun h => absurd (h.symm.trans hK) (by decide), fun h => absurd (h.symm.trans hK) (by decide), fun h => absurd (h.symm.trans hK) (by decide)⟩⟩⟩))
        · exact wq_t (Or.inl rfl) (wq_some (rI_i ⟨rfl, ⟨(Or.inl rfl), fun h => absurd h (by decide)⟩⟩))
    · exact wq_t (Or.inl rfl) (wq_some (rI_i ⟨rfl, ⟨(Or.inl rfl), fun h => absurd h (by decide)⟩⟩))
  refine wq_if _ (fun c54 => ?_) (fun c54 => ?_)
  · refine wq_if _ (fun c55 => ?_) (fun c55 => ?_)
    · refine wq_if _ (fun c56 => ?_) (fun c56 => ?_)
      · exact wq_t (Or.inl rfl) (wq_some (rI_i ⟨rfl, ⟨(Or.inl rfl), fun h => absurd h (by decide)⟩⟩))
      · refine wq_gI H.1 rfl ?_
        rw [show σ.1 9 = σ0.1 9 from G.1 9 (nQ_f (by omega))]
        refine wq_if _ (fun c57 => ?_) (fun c57 => ?_)
        · exact wq_t (Or.inr rfl) (wq_some (rI_i ⟨rfl, ⟨(Or.inr rfl), fun hx1 => by have hK : (ia σ0 8 v1.toInt.toNat).toInt = 81 := (congrArg Int32.toInt c54); exact ⟨fun h => absurd (h.symm.trans hK) (by decide), fun h => absurd (h.symm.trans hK) (by decide), fun h => absurd (h.symm.trans hK) (by decide), fun h => absurd (h.symm.trans hK) (by decide), fun _ => ⟨(by have := ne_i c7; have := ne_i c10; have := ne_i c14; have := ne_i c21; have := ne_i c32; have := ne_i c50; have := congrArg Int32.toInt c54; have := congrArg Int32.toInt c55; have := nlt_i c56; have := lt_i c57; have : (0 : Int32).toInt = 0 := rfl; have : (2 : Int32).toInt = 2 := rfl; have : (20 : Int32).toInt = 20 := rfl; have : (21 : Int32).toInt = 21 := rfl; have : (3 : Int32).toInt = 3 := rfl; have : (4 : Int32).toInt = 4 := rfl; have : (80 : Int32).toInt = 80 := rfl; have : (81 : Int32).toInt = 81 := rfl; omega), (by have := ne_i c7; have := ne_i c10; have := ne_i c14; have := ne_i c21; have := ne_i c32; have := ne_i c50; have := congrArg Int32.toInt c54; have := congrArg Int32.toInt c55; have := nlt_i c56; have := lt_i c57; have : (0 : Int32).toInt = 0 := rfl; have : (2 : Int32).toInt = 2 := rfl; have : (20 : Int32).toInt = 20 := rfl; have : (21 : Int32).toInt = 21 := rfl; have : (3 : Int32).toInt = 3 := rfl; have : (4 : Int32).toInt = 4 := rfl; have : (80 : Int32).toInt = 80 := rfl; have : (81 : Int32).toInt = 81 := rfl; omega)⟩, fun h => absurd (h.symm.trans hK) (by decide), fun h => absurd (h.symm.trans hK) (by decide), fun h => absurd (h.symm.trans hK) (by decide), fun h => absurd (h.symm.trans hK) (by decide)⟩⟩⟩))
        · exact wq_t (Or.inl rfl) (wq_some (rI_i ⟨rfl, ⟨(Or.inl rfl), fun h => absurd h (by decide)⟩⟩))
    · exact wq_t (Or.inl rfl) (wq_some (rI_i ⟨rfl, ⟨(Or.inl rfl), fun h => absurd h (by decide)⟩⟩))
  refine wq_if _ (fun c58 => ?_) (fun c58 => ?_)
  · refine wq_if _ (fun c59 => ?_) (fun c59 => ?_)
    · refine wq_at H.1 ?_
      refine wq_cI (v_rowObject H O G (hch 0) hr) ?_
      rintro y62 h60 ⟨rfl, p61⟩
      refine wq_if _ (fun c63 => ?_) (fun c63 => ?_)
      · exact wq_t (Or.inl rfl) (wq_some (rI_i ⟨rfl, ⟨(Or.inl rfl), fun h => absurd h (by decide)⟩⟩))
      · refine wq_at H.1 ?_
        refine wq_cI (v_kindOf H O G (hch 1)) ?_
        rintro y66 h64 ⟨rfl, rfl⟩
        refine wq_cI v_expression ?_
        rintro y69 h67 ⟨rfl, p68⟩
        refine wq_if _ (fun c70 => ?_) (fun c70 => ?_)
        · exact wq_t (Or.inl rfl) (wq_some (rI_i ⟨rfl, ⟨(Or.inl rfl), fun h => absurd h (by decide)⟩⟩))
        · exact wq_t (Or.inr rfl) (wq_some (rI_i ⟨rfl, ⟨(Or.inr rfl), fun hx1 => by have hK : (ia σ0 8 v1.toInt.toNat).toInt = 82 := (congrArg Int32.toInt c58); exact ⟨fun h => absurd (h.symm.trans hK) (by decide), fun h => absurd (h.symm.trans hK) (by decide), fun h => absurd (h.symm.trans hK) (by decide), fun h => absurd (h.symm.trans hK) (by decide), fun h => absurd (h.symm.trans hK) (by decide), fun _ => ⟨(by have := ne_i c7; have := ne_i c10; have := ne_i c14; have := ne_i c21; have := ne_i c32; have := ne_i c50; have := ne_i c54; have := congrArg Int32.toInt c58; have := congrArg Int32.toInt c59; have := ne_i c63; have := ne_i c70; have : (0 : Int32).toInt = 0 := rfl; have : (2 : Int32).toInt = 2 := rfl; have : (20 : Int32).toInt = 20 := rfl; have : (21 : Int32).toInt = 21 := rfl; have : (3 : Int32).toInt = 3 := rfl; have : (4 : Int32).toInt = 4 := rfl; have : (80 : Int32).toInt = 80 := rfl; have : (81 : Int32).toInt = 81 := rfl; have : (82 : Int32).toInt = 82 := rfl; omega), (p61.2 (p61.1.resolve_left c63)), (p68.2.1 (p68.1.resolve_left c70))⟩, fun h => absurd (h.symm.trans hK) (by decide), fun h => absurd (h.symm.trans hK) (by decide), fun h => absurd (h.symm.trans hK) (by decide)⟩⟩⟩))
    · exact wq_t (Or.inl rfl) (wq_some (rI_i ⟨rfl, ⟨(Or.inl rfl), fun h => absurd h (by decide)⟩⟩))
  refine wq_if _ (fun c71 => ?_) (fun c71 => ?_)
  · refine wq_at H.1 ?_
    refine wq_cI (v_ch2 H O G ⟨k0, k1⟩ hch) ?_
    rintro y74 h72 ⟨rfl, rfl⟩
    refine wq_if _ (fun c75 => ?_) (fun c75 => ?_)
    · refine wq_at H.1 ?_
      refine wq_cI (v_rowObject H O G (hch 0) hr) ?_
      rintro y78 h76 ⟨rfl, p77⟩
      refine wq_if _ (fun c79 => ?_) (fun c79 => ?_)
      · exact wq_t (Or.inl rfl) (wq_some (rI_i ⟨rfl, ⟨(Or.inl rfl), fun h => absurd h (by decide)⟩⟩))
      · refine wq_at H.1 ?_
        refine wq_cI (v_kindOf H O G (hch 1)) ?_
        rintro y82 h80 ⟨rfl, rfl⟩
        refine wq_if _ (fun c83 => ?_) (fun c83 => ?_)
        · obtain ⟨⟨z84, z85⟩, z86⟩ := kO_v (hch 1) c83 (by decide)
          refine wq_at H.1 ?_
          refine wq_cI (v_kindOf H O G (hch 2)) ?_
          rintro y89 h87 ⟨rfl, rfl⟩
          refine wq_if _ (fun c90 => ?_) (fun c90 => ?_)
          · obtain ⟨⟨z91, z92⟩, z93⟩ := kO_v (hch 2) c90 (by decide)
            refine wq_gR H.1 rfl ?_
            refine rv_n H G (by omega) rfl rfl (nQ_j (by omega)) (by have := congrArg Int32.toInt c71; have := congrArg Int32.toInt c75; have := congrArg Int32.toInt c83; have := congrArg Int32.toInt c90; have : (2 : Int32).toInt = 2 := rfl; have : (3 : Int32).toInt = 3 := rfl; have : (83 : Int32).toInt = 83 := rfl; omega) (by have := congrArg Int32.toInt c71; have := congrArg Int32.toInt c75; have := congrArg Int32.toInt c83; have := congrArg Int32.toInt c90; have : (2 : Int32).toInt = 2 := rfl; have : (3 : Int32).toInt = 3 := rfl; have : (83 : Int32).toInt = 83 := rfl; show _ < (24000 : Int); omega) ?_
            refine wq_if _ (fun c94 => ?_) (fun c94 => ?_)
            · exact wq_t (Or.inl rfl) (wq_some (rI_i ⟨rfl, ⟨(Or.inl rfl), fun h => absurd h (by decide)⟩⟩))
            · refine wq_gR H.1 rfl ?_
              refine rv_n H G (by omega) rfl rfl (nQ_j (by omega)) (by have := congrArg Int32.toInt c71; have := congrArg Int32.toInt c75; have := congrArg Int32.toInt c83; have := congrArg Int32.toInt c90; have := nlt_i c94; have : (0 : Int32).toInt = 0 := rfl; have : (2 : Int32).toInt = 2 := rfl; have : (3 : Int32).toInt = 3 := rfl; have : (83 : Int32).toInt = 83 := rfl; omega) (by have := congrArg Int32.toInt c71; have := congrArg Int32.toInt c75; have := congrArg Int32.toInt c83; have := congrArg Int32.toInt c90; have := nlt_i c94; have : (0 : Int32).toInt = 0 := rfl; have : (2 : Int32).toInt = 2 := rfl; have : (3 : Int32).toInt = 3 := rfl; have : (83 : Int32).toInt = 83 := rfl; show _ < (24000 : Int); omega) ?_
              refine wq_if _ (fun c95 => ?_) (fun c95 => ?_)
              · exact wq_t (Or.inl rfl) (wq_some (rI_i ⟨rfl, ⟨(Or.inl rfl), fun h => absurd h (by decide)⟩⟩))
              · refine wq_gR H.1 rfl ?_
                refine rv_n H G (by omega) rfl rfl (nQ_j (by omega)) (by have := congrArg Int32.toInt c71; have := congrArg Int32.toInt c75; have := congrArg Int32.toInt c83; have := congrArg Int32.toInt c90; have := nlt_i c94; have := nlt_i c95; have : (0 : Int32).toInt = 0 := rfl; have : (1 : Int32).toInt = 1 := rfl; have : (2 : Int32).toInt = 2 := rfl; have : (3 : Int32).toInt = 3 := rfl; have : (83 : Int32).toInt = 83 := rfl; omega) (by have := congrArg Int32.toInt c71; have := congrArg Int32.toInt c75; have := congrArg Int32.toInt c83; have := congrArg Int32.toInt c90; have := nlt_i c94; have := nlt_i c95; have : (0 : Int32).toInt = 0 := rfl; have : (1 : Int32).toInt = 1 := rfl; have : (2 : Int32).toInt = 2 := rfl; have : (3 : Int32).toInt = 3 := rfl; have : (83 : Int32).toInt = 83 := rfl; show _ < (24000 : Int); omega) ?_
                refine wq_gR H.1 rfl ?_
                refine rv_n H G (by omega) rfl rfl (nQ_j (by omega)) (by have := congrArg Int32.toInt c71; have := congrArg Int32.toInt c75; have := congrArg Int32.toInt c83; have := congrArg Int32.toInt c90; have := nlt_i c94; have := nlt_i c95; have : (0 : Int32).toInt = 0 := rfl; have : (1 : Int32).toInt = 1 := rfl; have : (2 : Int32).toInt = 2 := rfl; have : (3 : Int32).toInt = 3 := rfl; have : (83 : Int32).toInt = 83 := rfl; omega) (by have := congrArg Int32.toInt c71; have := congrArg Int32.toInt c75; have := congrArg Int32.toInt c83; have := congrArg Int32.toInt c90; have := nlt_i c94; have := nlt_i c95; have : (0 : Int32).toInt = 0 := rfl; have : (1 : Int32).toInt = 1 := rfl; have : (2 : Int32).toInt = 2 := rfl; have : (3 : Int32).toInt = 3 := rfl; have : (83 : Int32).toInt = 83 := rfl; show _ < (24000 : Int); omega) ?_
                refine wq_gR H.1 rfl ?_
                refine wq_at H.1 ?_
                obtain ⟨o96, o96'⟩ := kO_i (hch 0) (p77.2 (p77.1.resolve_left c79))
                refine wq_cI (v_objectOf H O G o96 o96' (hr o96)) ?_
                rintro y99 h97 ⟨rfl, p98⟩
                obtain ⟨q100, q101⟩ := p98
                refine rv_1 H O (by omega) (by show _ < (10100 : Int); omega) (fun u102 q103 q104 => ?_)
                refine wq_if _ (fun c105 => ?_) (fun c105 => ?_)
                · exact wq_t (Or.inr rfl) (wq_some (rI_i ⟨rfl, ⟨(Or.inr rfl), fun hx1 => by have hK : (ia σ0 8 v1.toInt.toNat).toInt = 83 := (congrArg Int32.toInt c71); exact ⟨fun h => absurd (h.symm.trans hK) (by decide), fun h => absurd (h.symm.trans hK) (by decide), fun h => absurd (h.symm.trans hK) (by decide), fun h => absurd (h.symm.trans hK) (by decide), fun h => absurd (h.symm.trans hK) (by decide), fun h => absurd (h.symm.trans hK) (by decide), fun _ => ⟨(by have := ne_i c7; have := ne_i c10; have := ne_i c14; have := ne_i c21; have := ne_i c32; have := ne_i c50; have := ne_i c54; have := ne_i c58; have := congrArg Int32.toInt c71; have := congrArg Int32.toInt c75; have := ne_i c79; have := congrArg Int32.toInt c83; have := congrArg Int32.toInt c90; have := nlt_i c94; have := nlt_i c95; have : (0 : Int32).toInt = 0 := rfl; have : (1 : Int32).toInt = 1 := rfl; have : (2 : Int32).toInt = 2 := rfl; have : (20 : Int32).toInt = 20 := rfl; have : (21 : Int32).toInt = 21 := rfl; have : (3 : Int32).toInt = 3 := rfl; have : (4 : Int32).toInt = 4 := rfl; have : (80 : Int32).toInt = 80 := rfl; have : (81 : Int32).toInt = 81 := rfl; have : (82 : Int32).toInt = 82 := rfl; have : (83 : Int32).toInt = 83 := rfl; omega), (p77.2 (p77.1.resolve_left c79)), c83, c90, (by have := ne_i c7; have := ne_i c10; have := ne_i c14; have := ne_i c21; have := ne_i c32; have := ne_i c50; have := ne_i c54; have := ne_i c58; have := congrArg Int32.toInt c71; have := congrArg Int32.toInt c75; have := ne_i c79; have := congrArg Int32.toInt c83; have := congrArg Int32.toInt c90; have := nlt_i c94; have := nlt_i c95; have : (0 : Int32).toInt = 0 := rfl; have : (1 : Int32).toInt = 1 := rfl; have : (2 : Int32).toInt = 2 := rfl; have : (20 : Int32).toInt = 20 := rfl; have : (21 : Int32).toInt = 21 := rfl; have : (3 : Int32).toInt = 3 := rfl; have : (4 : Int32).toInt = 4 := rfl; have : (80 : Int32).toInt = 80 := rfl; have : (81 : Int32).toInt = 81 := rfl; have : (82 : Int32).toInt = 82 := rfl; have : (83 : Int32).toInt = 83 := rfl; omega), (by have := ne_i c7; have := ne_i c10; have := ne_i c14; have := ne_i c21; have := ne_i c32; have := ne_i c50; have := ne_i c54; have := ne_i c58; have := congrArg Int32.toInt c71; have := congrArg Int32.toInt c75; have := ne_i c79; have := congrArg Int32.toInt c83; have := congrArg Int32.toInt c90; have := nlt_i c94; have := nlt_i c95; have : (0 : Int32).toInt = 0 := rfl; have : (1 : Int32).toInt = 1 := rfl; have : (2 : Int32).toInt = 2 := rfl; have : (20 : Int32).toInt = 20 := rfl; have : (21 : Int32).toInt = 21 := rfl; have : (3 : Int32).toInt = 3 := rfl; have : (4 : Int32).toInt = 4 := rfl; have : (80 : Int32).toInt = 80 := rfl; have : (81 : Int32).toInt = 81 := rfl; have : (82 : Int32).toInt = 82 := rfl; have : (83 : Int32).toInt = 83 := rfl; omega), (by have := ne_i c7; have := ne_i c10; have := ne_i c14; have := ne_i c21; have := ne_i c32; have := ne_i c50; have := ne_i c54; have := ne_i c58; have := congrArg Int32.toInt c71; have := congrArg Int32.toInt c75; have := ne_i c79; have := congrArg Int32.toInt c83; have := congrArg Int32.toInt c90; have := nlt_i c94; have := nlt_i c95; have : (0 : Int32).toInt = 0 := rfl; have : (1 : Int32).toInt = 1 := rfl; have : (2 : Int32).toInt = 2 := rfl; have : (20 : Int32).toInt = 20 := rfl; have : (21 : Int32).toInt = 21 := rfl; have : (3 : Int32).toInt = 3 := rfl; have : (4 : Int32).toInt = 4 := rfl; have : (80 : Int32).toInt = 80 := rfl; have : (81 : Int32).toInt = 81 := rfl; have : (82 : Int32).toInt = 82 := rfl; have : (83 : Int32).toInt = 83 := rfl; have := lg_add c105; omega)⟩, fun h => absurd (h.symm.trans hK) (by decide), fun h => absurd (h.symm.trans hK) (by decide)⟩⟩⟩))
                · exact wq_t (Or.inl rfl) (wq_some (rI_i ⟨rfl, ⟨(Or.inl rfl), fun h => absurd h (by decide)⟩⟩))
          · exact wq_t (Or.inl rfl) (wq_some (rI_i ⟨rfl, ⟨(Or.inl rfl), fun h => absurd h (by decide)⟩⟩))
        · exact wq_t (Or.inl rfl) (wq_some (rI_i ⟨rfl, ⟨(Or.inl rfl), fun h => absurd h (by decide)⟩⟩))
    · exact wq_t (Or.inl rfl) (wq_some (rI_i ⟨rfl, ⟨(Or.inl rfl), fun h => absurd h (by decide)⟩⟩))
  refine wq_if _ (fun c106 => ?_) (fun c106 => ?_)
  · refine wq_if _ (fun c107 => ?_) (fun c107 => ?_)
    · refine wq_eq q_56_457 ?_
      refine wq_if _ (fun c108 => ?_) (fun c108 => ?_)
      · refine wq_at H.1 ?_
        refine wq_cI (v_isObject H O G (hch 0)) ?_
        rintro y111 h109 ⟨rfl, p110⟩
        refine wq_if _ (fun c112 => ?_) (fun c112 => ?_)
        · exact wq_t (Or.inl rfl) (wq_some (rI_i ⟨rfl, ⟨(Or.inl rfl), fun h => absurd h (by decide)⟩⟩))
        · obtain ⟨⟨z113, z114⟩, z115⟩ := kO_v (hch 0) (p110.2 (p110.1.resolve_left c112)) (by decide)
          have z116 := (hr ⟨z113, z114⟩).1 z115
          refine wq_gR H.1 rfl ?_
          refine wq_gR H.1 rfl ?_
          refine rv_n H G (by omega) rfl rfl (nQ_j (by omega)) (by have := congrArg Int32.toInt c106; have := congrArg Int32.toInt c107; have := congrArg Int32.toInt c108; have : (1 : Int32).toInt = 1 := rfl; have : (8 : Int32).toInt = 8 := rfl; have : (84 : Int32).toInt = 84 := rfl; omega) (by have := congrArg Int32.toInt c106; have := congrArg Int32.toInt c107; have := congrArg Int32.toInt c108; have : (1 : Int32).toInt = 1 := rfl; have : (8 : Int32).toInt = 8 := rfl; have : (84 : Int32).toInt = 84 := rfl; show _ < (24000 : Int); omega) ?_
          refine rv_0 H O (by have := congrArg Int32.toInt c106; have := congrArg Int32.toInt c107; have := congrArg Int32.toInt c108; have : (1 : Int32).toInt = 1 := rfl; have : (8 : Int32).toInt = 8 := rfl; have : (84 : Int32).toInt = 84 := rfl; omega) (by have := congrArg Int32.toInt c106; have := congrArg Int32.toInt c107; have := congrArg Int32.toInt c108; have : (1 : Int32).toInt = 1 := rfl; have : (8 : Int32).toInt = 8 := rfl; have : (84 : Int32).toInt = 84 := rfl; show _ < (10100 : Int); omega) (fun u117 q118 q119 => ?_)
          refine wq_if _ (fun c120 => ?_) (fun c120 => ?_)
          · exact wq_t (Or.inr rfl) (wq_some (rI_i ⟨rfl, ⟨(Or.inr rfl), fun hx1 => by have hK : (ia σ0 8 v1.toInt.toNat).toInt = 84 := (congrArg Int32.toInt c106); exact ⟨fun h => absurd (h.symm.trans hK) (by decide), fun h => absurd (h.symm.trans hK) (by decide), fun h => absurd (h.symm.trans hK) (by decide), fun h => absurd (h.symm.trans hK) (by decide), fun h => absurd (h.symm.trans hK) (by decide), fun h => absurd (h.symm.trans hK) (by decide), fun h => absurd (h.symm.trans hK) (by decide), fun _ => Or.inl ⟨(by have := ne_i c7; have := ne_i c10; have := ne_i c14; have := ne_i c21; have := ne_i c32; have := ne_i c50; have := ne_i c54; have := ne_i c58; have := ne_i c71; have := congrArg Int32.toInt c106; have := congrArg Int32.toInt c107; have := congrArg Int32.toInt c108; have := ne_i c112; have := congrArg Int32.toInt c120; have : (0 : Int32).toInt = 0 := rfl; have : (1 : Int32).toInt = 1 := rfl; have : (2 : Int32).toInt = 2 := rfl; have : (20 : Int32).toInt = 20 := rfl; have : (21 : Int32).toInt = 21 := rfl; have : (3 : Int32).toInt = 3 := rfl; have : (4 : Int32).toInt = 4 := rfl; have : (8 : Int32).toInt = 8 := rfl; have : (80 : Int32).toInt = 80 := rfl; have : (81 : Int32).toInt = 81 := rfl; have : (82 : Int32).toInt = 82 := rfl; have : (83 : Int32).toInt = 83 := rfl; have : (84 : Int32).toInt = 84 := rfl; omega), (by have := ne_i c7; have := ne_i c10; have := ne_i c14; have := ne_i c21; have := ne_i c32; have := ne_i c50; have := ne_i c54; have := ne_i c58; have := ne_i c71; have := congrArg Int32.toInt c106; have := congrArg Int32.toInt c107; have := congrArg Int32.toInt c108; have := ne_i c112; have := congrArg Int32.toInt c120; have : (0 : Int32).toInt = 0 := rfl; have : (1 : Int32).toInt = 1 := rfl; have : (2 : Int32).toInt = 2 := rfl; have : (20 : Int32).toInt = 20 := rfl; have : (21 : Int32).toInt = 21 := rfl; have : (3 : Int32).toInt = 3 := rfl; have : (4 : Int32).toInt = 4 := rfl; have : (8 : Int32).toInt = 8 := rfl; have : (80 : Int32).toInt = 80 := rfl; have : (81 : Int32).toInt = 81 := rfl; have : (82 : Int32).toInt = 82 := rfl; have : (83 : Int32).toInt = 83 := rfl; have : (84 : Int32).toInt = 84 := rfl; omega), (p110.2 (p110.1.resolve_left c112))⟩, fun h => absurd (h.symm.trans hK) (by decide)⟩⟩⟩))
          · exact wq_t (Or.inl rfl) (wq_some (rI_i ⟨rfl, ⟨(Or.inl rfl), fun h => absurd h (by decide)⟩⟩))
      · exact wq_t (Or.inl rfl) (wq_some (rI_i ⟨rfl, ⟨(Or.inl rfl), fun h => absurd h (by decide)⟩⟩))
    · refine wq_if _ (fun c121 => ?_) (fun c121 => ?_)
      · refine wq_eq q_56_457 ?_
        refine wq_if _ (fun c122 => ?_) (fun c122 => ?_)
        · refine wq_at H.1 ?_
          refine wq_cI (v_isObject H O G (hch 0)) ?_
          rintro y125 h123 ⟨rfl, p124⟩
          refine wq_if _ (fun c126 => ?_) (fun c126 => ?_)
          · exact wq_t (Or.inl rfl) (wq_some (rI_i ⟨rfl, ⟨(Or.inl rfl), fun h => absurd h (by decide)⟩⟩))
          · obtain ⟨⟨z127, z128⟩, z129⟩ := kO_v (hch 0) (p124.2 (p124.1.resolve_left c126)) (by decide)
            have z130 := (hr ⟨z127, z128⟩).1 z129
            refine wq_gR H.1 rfl ?_
            refine wq_gR H.1 rfl ?_
            refine rv_n H G (by omega) rfl rfl (nQ_j (by omega)) (by have := congrArg Int32.toInt c106; have := congrArg Int32.toInt c121; have := congrArg Int32.toInt c122; have : (1 : Int32).toInt = 1 := rfl; have : (84 : Int32).toInt = 84 := rfl; have : (9 : Int32).toInt = 9 := rfl; omega) (by have := congrArg Int32.toInt c106; have := congrArg Int32.toInt c121; have := congrArg Int32.toInt c122; have : (1 : Int32).toInt = 1 := rfl; have : (84 : Int32).toInt = 84 := rfl; have : (9 : Int32).toInt = 9 := rfl; show _ < (24000 : Int); omega) ?_
            refine rv_0 H O (by have := congrArg Int32.toInt c106; have := congrArg Int32.toInt c121; have := congrArg Int32.toInt c122; have : (1 : Int32).toInt = 1 := rfl; have : (84 : Int32).toInt = 84 := rfl; have : (9 : Int32).toInt = 9 := rfl; omega) (by have := congrArg Int32.toInt c106; have := congrArg Int32.toInt c121; have := congrArg Int32.toInt c122; have : (1 : Int32).toInt = 1 := rfl; have : (84 : Int32).toInt = 84 := rfl; have : (9 : Int32).toInt = 9 := rfl; show _ < (10100 : Int); omega) (fun u131 q132 q133 => ?_)
            refine wq_if _ (fun c134 => ?_) (fun c134 => ?_)
            · exact wq_t (Or.inr rfl) (wq_some (rI_i ⟨rfl, ⟨(Or.inr rfl), fun hx1 => by have hK : (ia σ0 8 v1.toInt.toNat).toInt = 84 := (congrArg Int32.toInt c106); exact ⟨fun h => absurd (h.symm.trans hK) (by decide), fun h => absurd (h.symm.trans hK) (by decide), fun h => absurd (h.symm.trans hK) (by decide), fun h => absurd (h.symm.trans hK) (by decide), fun h => absurd (h.symm.trans hK) (by decide), fun h => absurd (h.symm.trans hK) (by decide), fun h => absurd (h.symm.trans hK) (by decide), fun _ => Or.inl ⟨(by have := ne_i c7; have := ne_i c10; have := ne_i c14; have := ne_i c21; have := ne_i c32; have := ne_i c50; have := ne_i c54; have := ne_i c58; have := ne_i c71; have := congrArg Int32.toInt c106; have := ne_i c107; have := congrArg Int32.toInt c121; have := congrArg Int32.toInt c122; have := ne_i c126; have := congrArg Int32.toInt c134; have : (0 : Int32).toInt = 0 := rfl; have : (1 : Int32).toInt = 1 := rfl; have : (2 : Int32).toInt = 2 := rfl; have : (20 : Int32).toInt = 20 := rfl; have : (21 : Int32).toInt = 21 := rfl; have : (3 : Int32).toInt = 3 := rfl; have : (4 : Int32).toInt = 4 := rfl; have : (8 : Int32).toInt = 8 := rfl; have : (80 : Int32).toInt = 80 := rfl; have : (81 : Int32).toInt = 81 := rfl; have : (82 : Int32).toInt = 82 := rfl; have : (83 : Int32).toInt = 83 := rfl; have : (84 : Int32).toInt = 84 := rfl; have : (9 : Int32).toInt = 9 := rfl; omega), (by have := ne_i c7; have := ne_i c10; have := ne_i c14; have := ne_i c21; have := ne_i c32; have := ne_i c50; have := ne_i c54; have := ne_i c58; have := ne_i c71; have := congrArg Int32.toInt c106; have := ne_i c107; have := congrArg Int32.toInt c121; have := congrArg Int32.toInt c122; have := ne_i c126; have := congrArg Int32.toInt c134; have : (0 : Int32).toInt = 0 := rfl; have : (1 : Int32).toInt = 1 := rfl; have : (2 : Int32).toInt = 2 := rfl; have : (20 : Int32).toInt = 20 := rfl; have : (21 : Int32).toInt = 21 := rfl; have : (3 : Int32).toInt = 3 := rfl; have : (4 : Int32).toInt = 4 := rfl; have : (8 : Int32).toInt = 8 := rfl; have : (80 : Int32).toInt = 80 := rfl; have : (81 : Int32).toInt = 81 := rfl; have : (82 : Int32).toInt = 82 := rfl; have : (83 : Int32).toInt = 83 := rfl; have : (84 : Int32).toInt = 84 := rfl; have : (9 : Int32).toInt = 9 := rfl; omega), (p124.2 (p124.1.resolve_left c126))⟩, fun h => absurd (h.symm.trans hK) (by decide)⟩⟩⟩))
            · exact wq_t (Or.inl rfl) (wq_some (rI_i ⟨rfl, ⟨(Or.inl rfl), fun h => absurd h (by decide)⟩⟩))
        · exact wq_t (Or.inl rfl) (wq_some (rI_i ⟨rfl, ⟨(Or.inl rfl), fun h => absurd h (by decide)⟩⟩))
      · refine wq_if _ (fun c135 => ?_) (fun c135 => ?_)
        · refine wq_if _ (fun c136 => ?_) (fun c136 => ?_)
          · refine wq_at H.1 ?_
            refine wq_cI (v_kindOf H O G (hch 0)) ?_
            rintro y139 h137 ⟨rfl, rfl⟩
            refine wq_cI v_expression ?_
            rintro y142 h140 ⟨rfl, p141⟩
            refine wq_if _ (fun c143 => ?_) (fun c143 => ?_)
            · exact wq_t (Or.inl rfl) (wq_some (rI_i ⟨rfl, ⟨(Or.inl rfl), fun h => absurd h (by decide)⟩⟩))
            · exact wq_t (Or.inr rfl) (wq_some (rI_i ⟨rfl, ⟨(Or.inr rfl), fun hx1 => by have hK : (ia σ0 8 v1.toInt.toNat).toInt = 84 := (congrArg Int32.toInt c106); exact ⟨fun h => absurd (h.symm.trans hK) (by decide), fun h => absurd (h.symm.trans hK) (by decide), fun h => absurd (h.symm.trans hK) (by decide), fun h => absurd (h.symm.trans hK) (by decide), fun h => absurd (h.symm.trans hK) (by decide), fun h => absurd (h.symm.trans hK) (by decide), fun h => absurd (h.symm.trans hK) (by decide), fun _ => Or.inr (Or.inl ⟨(by have := ne_i c7; have := ne_i c10; have := ne_i c14; have := ne_i c21; have := ne_i c32; have := ne_i c50; have := ne_i c54; have := ne_i c58; have := ne_i c71; have := congrArg Int32.toInt c106; have := ne_i c107; have := ne_i c121; have := congrArg Int32.toInt c135; have := congrArg Int32.toInt c136; have := ne_i c143; have : (0 : Int32).toInt = 0 := rfl; have : (1 : Int32).toInt = 1 := rfl; have : (10 : Int32).toInt = 10 := rfl; have : (2 : Int32).toInt = 2 := rfl; have : (20 : Int32).toInt = 20 := rfl; have : (21 : Int32).toInt = 21 := rfl; have : (3 : Int32).toInt = 3 := rfl; have : (4 : Int32).toInt = 4 := rfl; have : (8 : Int32).toInt = 8 := rfl; have : (80 : Int32).toInt = 80 := rfl; have : (81 : Int32).toInt = 81 := rfl; have : (82 : Int32).toInt = 82 := rfl; have : (83 : Int32).toInt = 83 := rfl; have : (84 : Int32).toInt = 84 := rfl; have : (9 : Int32).toInt = 9 := rfl; omega), (by have := ne_i c7; have := ne_i c10; have := ne_i c14; have := ne_i c21; have := ne_i c32; have := ne_i c50; have := ne_i c54; have := ne_i c58; have := ne_i c71; have := congrArg Int32.toInt c106; have := ne_i c107; have := ne_i c121; have := congrArg Int32.toInt c135; have := congrArg Int32.toInt c136; have := ne_i c143; have : (0 : Int32).toInt = 0 := rfl; have : (1 : Int32).toInt = 1 := rfl; have : (10 : Int32).toInt = 10 := rfl; have : (2 : Int32).toInt = 2 := rfl; have : (20 : Int32).toInt = 20 := rfl; have : (21 : Int32).toInt = 21 := rfl; have : (3 : Int32).toInt = 3 := rfl; have : (4 : Int32).toInt = 4 := rfl; have : (8 : Int32).toInt = 8 := rfl; have : (80 : Int32).toInt = 80 := rfl; have : (81 : Int32).toInt = 81 := rfl; have : (82 : Int32).toInt = 82 := rfl; have : (83 : Int32).toInt = 83 := rfl; have : (84 : Int32).toInt = 84 := rfl; have : (9 : Int32).toInt = 9 := rfl; omega), (p141.2.1 (p141.1.resolve_left c143))⟩), fun h => absurd (h.symm.trans hK) (by decide)⟩⟩⟩))
          · exact wq_t (Or.inl rfl) (wq_some (rI_i ⟨rfl, ⟨(Or.inl rfl), fun h => absurd h (by decide)⟩⟩))
        · refine wq_if _ (fun c144 => ?_) (fun c144 => ?_)
          · refine wq_if _ (fun c145 => ?_) (fun c145 => ?_)
            · refine wq_at H.1 ?_
              refine wq_cI (v_kindOf H O G (hch 0)) ?_
              rintro y148 h146 ⟨rfl, rfl⟩
              refine wq_cI v_expression ?_
              rintro y151 h149 ⟨rfl, p150⟩
              refine wq_if _ (fun c152 => ?_) (fun c152 => ?_)
              · exact wq_t (Or.inl rfl) (wq_some (rI_i ⟨rfl, ⟨(Or.inl rfl), fun h => absurd h (by decide)⟩⟩))
              · refine wq_at H.1 ?_
                refine wq_cI (v_kindOf H O G (hch 1)) ?_
                rintro y155 h153 ⟨rfl, rfl⟩
                refine wq_if _ (fun c156 => ?_) (fun c156 => ?_)
                · obtain ⟨⟨z157, z158⟩, z159⟩ := kO_v (hch 1) c156 (by decide)
                  refine wq_gR H.1 rfl ?_
                  refine rv_n H G (by omega) rfl rfl (nQ_j (by omega)) (by have := congrArg Int32.toInt c106; have := congrArg Int32.toInt c144; have := congrArg Int32.toInt c145; have := congrArg Int32.toInt c156; have : (11 : Int32).toInt = 11 := rfl; have : (2 : Int32).toInt = 2 := rfl; have : (84 : Int32).toInt = 84 := rfl; omega) (by have := congrArg Int32.toInt c106; have := congrArg Int32.toInt c144; have := congrArg Int32.toInt c145; have := congrArg Int32.toInt c156; have : (11 : Int32).toInt = 11 := rfl; have : (2 : Int32).toInt = 2 := rfl; have : (84 : Int32).toInt = 84 := rfl; show _ < (24000 : Int); omega) ?_
                  refine wq_if _ (fun c160 => ?_) (fun c160 => ?_)
                  · exact wq_t (Or.inl rfl) (wq_some (rI_i ⟨rfl, ⟨(Or.inl rfl), fun h => absurd h (by decide)⟩⟩))
                  · refine wq_gR H.1 rfl ?_
                    refine rv_n H G (by omega) rfl rfl (nQ_j (by omega)) (by have := congrArg Int32.toInt c106; have := congrArg Int32.toInt c144; have := congrArg Int32.toInt c145; have := congrArg Int32.toInt c156; have := nlt_i c160; have : (1 : Int32).toInt = 1 := rfl; have : (11 : Int32).toInt = 11 := rfl; have : (2 : Int32).toInt = 2 := rfl; have : (84 : Int32).toInt = 84 := rfl; omega) (by have := congrArg Int32.toInt c106; have := congrArg Int32.toInt c144; have := congrArg Int32.toInt c145; have := congrArg Int32.toInt c156; have := nlt_i c160; have : (1 : Int32).toInt = 1 := rfl; have : (11 : Int32).toInt = 11 := rfl; have : (2 : Int32).toInt = 2 := rfl; have : (84 : Int32).toInt = 84 := rfl; show _ < (24000 : Int); omega) ?_
                    refine wq_if _ (fun c161 => ?_) (fun c161 => ?_)
                    · exact wq_t (Or.inr rfl) (wq_some (rI_i ⟨rfl, ⟨(Or.inr rfl), fun hx1 => by have hK : (ia σ0 8 v1.toInt.toNat).toInt = 84 := (congrArg Int32.toInt c106); exact ⟨fun h => absurd (h.symm.trans hK) (by decide), fun h => absurd (h.symm.trans hK) (by decide), fun h => absurd (h.symm.trans hK) (by decide), fun h => absurd (h.symm.trans hK) (by decide), fun h => absurd (h.symm.trans hK) (by decide), fun h => absurd (h.symm.trans hK) (by decide), fun h => absurd (h.symm.trans hK) (by decide), fun _ => Or.inr (Or.inr ⟨(by have := ne_i c7; have := ne_i c10; have := ne_i c14; have := ne_i c21; have := ne_i c32; have := ne_i c50; have := ne_i c54; have := ne_i c58; have := ne_i c71; have := congrArg Int32.toInt c106; have := ne_i c107; have := ne_i c121; have := ne_i c135; have := congrArg Int32.toInt c144; have := congrArg Int32.toInt c145; have := ne_i c152; have := congrArg Int32.toInt c156; have := nlt_i c160; have := le_i c161; have : (0 : Int32).toInt = 0 := rfl; have : (1 : Int32).toInt = 1 := rfl; have : (10 : Int32).toInt = 10 := rfl; have : (11 : Int32).toInt = 11 := rfl; have : (2 : Int32).toInt = 2 := rfl; have : (20 : Int32).toInt = 20 := rfl; have : (21 : Int32).toInt = 21 := rfl; have : (3 : Int32).toInt = 3 := rfl; have : (4 : Int32).toInt = 4 := rfl; have : (64 : Int32).toInt = 64 := rfl; have : (8 : Int32).toInt = 8 := rfl; have : (80 : Int32).toInt = 80 := rfl; have : (81 : Int32).toInt = 81 := rfl; have : (82 : Int32).toInt = 82 := rfl; have : (83 : Int32).toInt = 83 := rfl; have : (84 : Int32).toInt = 84 := rfl; have : (9 : Int32).toInt = 9 := rfl; omega), (by have := ne_i c7; have := ne_i c10; have := ne_i c14; have := ne_i c21; have := ne_i c32; have := ne_i c50; have := ne_i c54; have := ne_i c58; have := ne_i c71; have := congrArg Int32.toInt c106; have := ne_i c107; have := ne_i c121; have := ne_i c135; have := congrArg Int32.toInt c144; have := congrArg Int32.toInt c145; have := ne_i c152; have := congrArg Int32.toInt c156; have := nlt_i c160; have := le_i c161; have : (0 : Int32).toInt = 0 := rfl; have : (1 : Int32).toInt = 1 := rfl; have : (10 : Int32).toInt = 10 := rfl; have : (11 : Int32).toInt = 11 := rfl; have : (2 : Int32).toInt = 2 := rfl; have : (20 : Int32).toInt = 20 := rfl; have : (21 : Int32).toInt = 21 := rfl; have : (3 : Int32).toInt = 3 := rfl; have : (4 : Int32).toInt = 4 := rfl; have : (64 : Int32).toInt = 64 := rfl; have : (8 : Int32).toInt = 8 := rfl; have : (80 : Int32).toInt = 80 := rfl; have : (81 : Int32).toInt = 81 := rfl; have : (82 : Int32).toInt = 82 := rfl; have : (83 : Int32).toInt = 83 := rfl; have : (84 : Int32).toInt = 84 := rfl; have : (9 : Int32).toInt = 9 := rfl; omega), (p150.2.1 (p150.1.resolve_left c152)), c156, (by have := ne_i c7; have := ne_i c10; have := ne_i c14; have := ne_i c21; have := ne_i c32; have := ne_i c50; have := ne_i c54; have := ne_i c58; have := ne_i c71; have := congrArg Int32.toInt c106; have := ne_i c107; have := ne_i c121; have := ne_i c135; have := congrArg Int32.toInt c144; have := congrArg Int32.toInt c145; have := ne_i c152; have := congrArg Int32.toInt c156; have := nlt_i c160; have := le_i c161; have : (0 : Int32).toInt = 0 := rfl; have : (1 : Int32).toInt = 1 := rfl; have : (10 : Int32).toInt = 10 := rfl; have : (11 : Int32).toInt = 11 := rfl; have : (2 : Int32).toInt = 2 := rfl; have : (20 : Int32).toInt = 20 := rfl; have : (21 : Int32).toInt = 21 := rfl; have : (3 : Int32).toInt = 3 := rfl; have : (4 : Int32).toInt = 4 := rfl; have : (64 : Int32).toInt = 64 := rfl; have : (8 : Int32).toInt = 8 := rfl; have : (80 : Int32).toInt = 80 := rfl; have : (81 : Int32).toInt = 81 := rfl; have : (82 : Int32).toInt = 82 := rfl; have : (83 : Int32).toInt = 83 := rfl; have : (84 : Int32).toInt = 84 := rfl; have : (9 : Int32).toInt = 9 := rfl; omega), (by have := ne_i c7; have := ne_i c10; have := ne_i c14; have := ne_i c21; have := ne_i c32; have := ne_i c50; have := ne_i c54; have := ne_i c58; have := ne_i c71; have := congrArg Int32.toInt c106; have := ne_i c107; have := ne_i c121; have := ne_i c135; have := congrArg Int32.toInt c144; have := congrArg Int32.toInt c145; have := ne_i c152; have := congrArg Int32.toInt c156; have := nlt_i c160; have := le_i c161; have : (0 : Int32).toInt = 0 := rfl; have : (1 : Int32).toInt = 1 := rfl; have : (10 : Int32).toInt = 10 := rfl; have : (11 : Int32).toInt = 11 := rfl; have : (2 : Int32).toInt = 2 := rfl; have : (20 : Int32).toInt = 20 := rfl; have : (21 : Int32).toInt = 21 := rfl; have : (3 : Int32).toInt = 3 := rfl; have : (4 : Int32).toInt = 4 := rfl; have : (64 : Int32).toInt = 64 := rfl; have : (8 : Int32).toInt = 8 := rfl; have : (80 : Int32).toInt = 80 := rfl; have : (81 : Int32).toInt = 81 := rfl; have : (82 : Int32).toInt = 82 := rfl; have : (83 : Int32).toInt = 83 := rfl; have : (84 : Int32).toInt = 84 := rfl; have : (9 : Int32).toInt = 9 := rfl; omega)⟩), fun h => absurd (h.symm.trans hK) (by decide)⟩⟩⟩))
                    · exact wq_t (Or.inl rfl) (wq_some (rI_i ⟨rfl, ⟨(Or.inl rfl), fun h => absurd h (by decide)⟩⟩))
                · exact wq_t (Or.inl rfl) (wq_some (rI_i ⟨rfl, ⟨(Or.inl rfl), fun h => absurd h (by decide)⟩⟩))
            · exact wq_t (Or.inl rfl) (wq_some (rI_i ⟨rfl, ⟨(Or.inl rfl), fun h => absurd h (by decide)⟩⟩))
          · exact wq_t (Or.inl rfl) (wq_some (rI_i ⟨rfl, ⟨(Or.inl rfl), fun h => absurd h (by decide)⟩⟩))
  refine wq_if _ (fun c162 => ?_) (fun c162 => ?_)
  · refine wq_if _ (fun c163 => ?_) (fun c163 => ?_)
    · exact wq_t (Or.inl rfl) (wq_some (rI_i ⟨rfl, ⟨(Or.inl rfl), fun h => absurd h (by decide)⟩⟩))
    · refine wq_if _ (fun c164 => ?_) (fun c164 => ?_)
      · refine wq_at H.1 ?_
        refine wq_cI (v_isObject H O G (hch 0)) ?_
        rintro y167 h165 ⟨rfl, p166⟩
        refine wq_if _ (fun c168 => ?_) (fun c168 => ?_)
        · exact wq_t (Or.inl rfl) (wq_some (rI_i ⟨rfl, ⟨(Or.inl rfl), fun h => absurd h (by decide)⟩⟩))
        · obtain ⟨⟨z169, z170⟩, z171⟩ := kO_v (hch 0) (p166.2 (p166.1.resolve_left c168)) (by decide)
          have z172 := (hr ⟨z169, z170⟩).1 z171
          exact wq_t (Or.inr rfl) (wq_some (rI_i ⟨rfl, ⟨(Or.inr rfl), fun hx1 => by have hK : (ia σ0 8 v1.toInt.toNat).toInt = 85 := (by have := ne_i c7; have := ne_i c10; have := ne_i c14; have := ne_i c21; have := ne_i c32; have := ne_i c50; have := ne_i c54; have := ne_i c58; have := ne_i c71; have := ne_i c106; have := congrArg Int32.toInt c162; have := nlt_i c163; have := le_i c164; have := ne_i c168; have : (0 : Int32).toInt = 0 := rfl; have : (1 : Int32).toInt = 1 := rfl; have : (15 : Int32).toInt = 15 := rfl; have : (17 : Int32).toInt = 17 := rfl; have : (2 : Int32).toInt = 2 := rfl; have : (20 : Int32).toInt = 20 := rfl; have : (21 : Int32).toInt = 21 := rfl; have : (3 : Int32).toInt = 3 := rfl; have : (4 : Int32).toInt = 4 := rfl; have : (80 : Int32).toInt = 80 := rfl; have : (81 : Int32).toInt = 81 := rfl; have : (82 : Int32).toInt = 82 := rfl; have : (83 : Int32).toInt = 83 := rfl; have : (84 : Int32).toInt = 84 := rfl; unfold isX at hy; omega); exact ⟨fun h => absurd (h.symm.trans hK) (by decide), fun h => absurd (h.symm.trans hK) (by decide), fun h => absurd (h.symm.trans hK) (by decide), fun h => absurd (h.symm.trans hK) (by decide), fun h => absurd (h.symm.trans hK) (by decide), fun h => absurd (h.symm.trans hK) (by decide), fun h => absurd (h.symm.trans hK) (by decide), fun h => absurd (h.symm.trans hK) (by decide), fun _ => ⟨(by have := ne_i c7; have := ne_i c10; have := ne_i c14; have := ne_i c21; have := ne_i c32; have := ne_i c50; have := ne_i c54; have := ne_i c58; have := ne_i c71; have := ne_i c106; have := congrArg Int32.toInt c162; have := nlt_i c163; have := le_i c164; have := ne_i c168; have : (0 : Int32).toInt = 0 := rfl; have : (1 : Int32).toInt = 1 := rfl; have : (15 : Int32).toInt = 15 := rfl; have : (17 : Int32).toInt = 17 := rfl; have : (2 : Int32).toInt = 2 := rfl; have : (20 : Int32).toInt = 20 := rfl; have : (21 : Int32).toInt = 21 := rfl; have : (3 : Int32).toInt = 3 := rfl; have : (4 : Int32).toInt = 4 := rfl; have : (80 : Int32).toInt = 80 := rfl; have : (81 : Int32).toInt = 81 := rfl; have : (82 : Int32).toInt = 82 := rfl; have : (83 : Int32).toInt = 83 := rfl; have : (84 : Int32).toInt = 84 := rfl; omega), (p166.2 (p166.1.resolve_left c168))⟩⟩⟩⟩))
      · exact wq_t (Or.inl rfl) (wq_some (rI_i ⟨rfl, ⟨(Or.inl rfl), fun h => absurd h (by decide)⟩⟩))
  · exact wq_t (Or.inl rfl) (wq_some (rI_i ⟨rfl, ⟨(Or.inl rfl), fun h => absurd h (by decide)⟩⟩))
end RfG
